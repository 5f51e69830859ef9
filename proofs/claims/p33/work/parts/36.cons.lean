theorem row_start {f1 g : Nat → Int} {i x : Int} (hg : g = upI f1 (0 : Int).toNat x) (hx : x = 18446744073709551614) (h : ∀ q, q < i.toNat → f1 q = 18446744073709551615) (hi : 782 ≤ i) : RowC (Cs 0) g := by
  intro q hq
  rw [hg]
  by_cases e : q = 0
  · subst e
    rw [show (0 : Int).toNat = 0 from rfl, upI_s, hx]
    have : (18446744073709551614 : Nat) = bN (fun b => Cs 0 (64 * 0 + b)) 64 := bN_of (by decide) fun j hj => by
      have h2 := all_lt (N := 64) (P := fun j => Nat.testBit 18446744073709551614 j == Cs 0 (64 * 0 + j)) (by decide +kernel) hj
      exact eq_of_beq h2
    rw [← this]; rfl
  · rw [show (0 : Int).toNat = 0 from rfl, upI_n e, h q (by omega)]
    have : (18446744073709551615 : Nat) = bN (fun b => Cs 0 (64 * q + b)) 64 := bN_of (by decide) fun j hj => by
      rw [show (18446744073709551615 : Nat) = 2 ^ 64 - 1 from rfl, Nat.testBit_two_pow_sub_one, decide_eq_true hj]
      exact (decide_eq_true (show 64 * q + j ≠ 0 by omega)).symm
    rw [← this]; rfl
theorem in_X3_init_X3 : ∀ w ∈ wsX30, w ∈ wsX3_init := by decide +kernel
set_option maxHeartbeats 4000000 in
set_option maxRecDepth 100000 in
theorem c_X3_init (l : Launch) (G : KG) (t : Nat)  : Ct l G yX3_init wsX3_init (rmD 1 3 3786) [.ref t] [(t, .inr (3, [.null, .null, .null, .int (iI 0), .int (iI 0)]))] (fun u : Nat × Nat × Nat => True) (fun u : Nat × Nat × Nat => none) (fun u : Nat × Nat × Nat => [(t, .inr (3, [.ref u.1, .ref u.2.1, .ref u.2.2, .int (iI 0), .int (iI 0)])), (u.1, .inl (g_I G, 631, .inl (aI (fun _ => 0)))), (u.2.1, .inl (g_I G, 2524, .inl (aI (fun _ => 0)))), (u.2.2, .inl (g_J G, 631, .inr (.inl (aL (fun _ => 0)))))]) := by
  refine Ct.of (cc := cX3_init) (maxL := 1) (ret := none) (by decide +kernel) rfl (Nat.le_of_ble_eq_true rfl) ?_
  intro X C hG hL hnm hR
  subst hG
  subst hL
  have C : Cx X cX3_init RX3 wsX3_init none 1 (rmD 1 3 3786) := C
  show K_ X 0 0 [(t, .inr (3, [.null, .null, .null, .int (iI 0), .int (iI 0)]))] 0 [(0, .ref t)] []
  refine k_aload_n C 0 rfl dX3_init_0 rfl ?_
  refine k_objInit C 1 2 3 rfl rfl rfl (by decide) (Nat.le_of_ble_eq_true rfl) dX3_init_1 ?_
  refine k_aload_n C 0 rfl dX3_init_4 rfl ?_
  refine k_sipush C dX3_init_5 (by decide) ?_
  refine k_newI C 631 rfl (by decide) 4 rfl (Nat.le_of_ble_eq_true rfl) (Nat.le_of_ble_eq_true rfl) dX3_init_8 (fun q8 => ?_)
  refine k_eq (ws2 := [(t, .inr (3, [.null, .null, .null, .int (iI 0), .int (iI 0)])), (q8, .inl (g_I (x_G X), 631, .inl (aI (fun _ => 0))))]) (st2 := [.ref q8, .ref t]) rfl rfl rfl rfl ?_
  refine k_wide (k2 := 1) (j2 := 631) (Nat.le_refl _) (Nat.le_refl _) ?_
  refine k_putF C (Cn := RX3) (T := TX3) (N := 5) (ci := 3) (ref := "StruckCounts$Tally") in_X3_init_X3 tyX3 tyX3_ok nmX3 0 rfl rfl 0 (by decide) 5 rfl rfl rfl hnm rfl (v := .ref q8) (rfl) (rfl) (Nat.le_of_ble_eq_true rfl) [(t, .inr (3, [.ref q8, .null, .null, .int (iI 0), .int (iI 0)])), (q8, .inl (g_I (x_G X), 631, .inl (aI (fun _ => 0))))] rfl dX3_init_10 ?_
  refine k_aload_n C 0 rfl dX3_init_13 rfl ?_
  refine k_sipush C dX3_init_14 (by decide) ?_
  refine k_newI C 2524 rfl (by decide) 4 rfl (Nat.le_of_ble_eq_true rfl) (Nat.le_of_ble_eq_true rfl) dX3_init_17 (fun q17 => ?_)
  refine k_eq (ws2 := [(t, .inr (3, [.ref q8, .null, .null, .int (iI 0), .int (iI 0)])), (q8, .inl (g_I (x_G X), 631, .inl (aI (fun _ => 0)))), (q17, .inl (g_I (x_G X), 2524, .inl (aI (fun _ => 0))))]) (st2 := [.ref q17, .ref t]) rfl rfl rfl rfl ?_
  refine k_wide (k2 := 2) (j2 := 3155) (Nat.le_refl _) (Nat.le_refl _) ?_
  refine k_putF C (Cn := RX3) (T := TX3) (N := 5) (ci := 3) (ref := "StruckCounts$Tally") in_X3_init_X3 tyX3 tyX3_ok nmX3 0 rfl rfl 1 (by decide) 6 rfl rfl rfl hnm rfl (v := .ref q17) (rfl) (rfl) (Nat.le_of_ble_eq_true rfl) [(t, .inr (3, [.ref q8, .ref q17, .null, .int (iI 0), .int (iI 0)])), (q8, .inl (g_I (x_G X), 631, .inl (aI (fun _ => 0)))), (q17, .inl (g_I (x_G X), 2524, .inl (aI (fun _ => 0))))] rfl dX3_init_19 ?_
  refine k_aload_n C 0 rfl dX3_init_22 rfl ?_
  refine k_sipush C dX3_init_23 (by decide) ?_
  refine k_newJ C 631 rfl (by decide) 7 rfl (Nat.le_of_ble_eq_true rfl) (Nat.le_of_ble_eq_true rfl) dX3_init_26 (fun q26 => ?_)
  refine k_eq (ws2 := [(t, .inr (3, [.ref q8, .ref q17, .null, .int (iI 0), .int (iI 0)])), (q8, .inl (g_I (x_G X), 631, .inl (aI (fun _ => 0)))), (q17, .inl (g_I (x_G X), 2524, .inl (aI (fun _ => 0)))), (q26, .inl (g_J (x_G X), 631, .inr (.inl (aL (fun _ => 0)))))]) (st2 := [.ref q26, .ref t]) rfl rfl rfl rfl ?_
  refine k_wide (k2 := 3) (j2 := 3786) (Nat.le_refl _) (Nat.le_refl _) ?_
  refine k_putF C (Cn := RX3) (T := TX3) (N := 5) (ci := 3) (ref := "StruckCounts$Tally") in_X3_init_X3 tyX3 tyX3_ok nmX3 0 rfl rfl 2 (by decide) 8 rfl rfl rfl hnm rfl (v := .ref q26) (rfl) (rfl) (Nat.le_of_ble_eq_true rfl) [(t, .inr (3, [.ref q8, .ref q17, .ref q26, .int (iI 0), .int (iI 0)])), (q8, .inl (g_I (x_G X), 631, .inl (aI (fun _ => 0)))), (q17, .inl (g_I (x_G X), 2524, .inl (aI (fun _ => 0)))), (q26, .inl (g_J (x_G X), 631, .inr (.inl (aL (fun _ => 0)))))] rfl dX3_init_28 ?_
  exact k_vret C hR (u := (q8, q17, q26)) rfl (by (try dsimp only) <;> exact (trivial)) rfl (Nat.le_of_ble_eq_true rfl) (Nat.le_of_ble_eq_true rfl) dX3_init_31
theorem in_X0_init_X3 : ∀ w ∈ wsX30, w ∈ wsX0_init := by decide +kernel
theorem in_X0_init_X0 : ∀ w ∈ wsX00, w ∈ wsX0_init := by decide +kernel
set_option maxHeartbeats 4000000 in
set_option maxRecDepth 100000 in
theorem c_X0_init (l : Launch) (G : KG) (b : Nat)  : Ct l G yX0_init wsX0_init (rmD 2 4 3791) [.ref b] [(b, .inr (0, [.null, .int (iI 0), .int (iI 0), .int (iI 0), .long (jL 0)]))] (fun u : Nat × Nat × Nat × Nat => True) (fun u : Nat × Nat × Nat × Nat => none) (fun u : Nat × Nat × Nat × Nat => [(b, .inr (0, [.ref u.1, .int (iI (-1)), .int (iI 100), .int (iI 0), .long (jL 0)])), (u.1, .inr (3, [.ref u.2.1, .ref u.2.2.1, .ref u.2.2.2, .int (iI 0), .int (iI 0)])), (u.2.1, .inl (g_I G, 631, .inl (aI (fun _ => 0)))), (u.2.2.1, .inl (g_I G, 2524, .inl (aI (fun _ => 0)))), (u.2.2.2, .inl (g_J G, 631, .inr (.inl (aL (fun _ => 0)))))]) := by
  refine Ct.of (cc := cX0_init) (maxL := 1) (ret := none) (by decide +kernel) rfl (Nat.le_of_ble_eq_true rfl) ?_
  intro X C hG hL hnm hR
  subst hG
  subst hL
  have C : Cx X cX0_init RX0 wsX0_init none 1 (rmD 2 4 3791) := C
  show K_ X 0 0 [(b, .inr (0, [.null, .int (iI 0), .int (iI 0), .int (iI 0), .long (jL 0)]))] 0 [(0, .ref b)] []
  refine k_aload_n C 0 rfl dX0_init_0 rfl ?_
  refine k_objInit C 1 2 3 rfl rfl rfl (by decide) (Nat.le_of_ble_eq_true rfl) dX0_init_1 ?_
  refine k_aload_n C 0 rfl dX0_init_4 rfl ?_
  refine k_new C (Cn := RX3) (T := TX3) (N := 5) (ci := 3) in_X0_init_X3 tyX3 tyX3_ok 4 5 6 rfl rfl rfl rfl [.null, .null, .null, .int (iI 0), .int (iI 0)] (fun jj hj => by rcases (show jj = 0 ∨ jj = 1 ∨ jj = 2 ∨ jj = 3 ∨ jj = 4 by omega) with rfl | rfl | rfl | rfl | rfl <;> rfl) (Nat.le_of_ble_eq_true rfl) (Nat.le_of_ble_eq_true rfl) dX0_init_5 (fun q5 => ?_)
  refine k_eq (ws2 := [(b, .inr (0, [.null, .int (iI 0), .int (iI 0), .int (iI 0), .long (jL 0)])), (q5, .inr (3, [.null, .null, .null, .int (iI 0), .int (iI 0)]))]) (st2 := [.ref q5, .ref b]) rfl rfl rfl rfl ?_
  refine k_wide (k2 := 1) (j2 := 5) (Nat.le_refl _) (Nat.le_refl _) ?_
  refine k_dup C dX0_init_8 rfl ?_
  refine k_callIN C (y := yX3_init) [] 0 rfl (c_X3_init (x_l X) (x_G X) q5 ) gX0_init_X3_init_n11 rfl 6 1 8 rfl rfl rfl rfl ⟨by decide +kernel, by decide +kernel, by decide +kernel⟩ ⟨by decide, by decide⟩ [1] (by decide) (wc := [(q5, .inr (3, [.null, .null, .null, .int (iI 0), .int (iI 0)]))]) rfl [.ref q5, .ref b] rfl (Nat.le_of_ble_eq_true rfl) ⟨Nat.le_of_ble_eq_true rfl, Nat.le_of_ble_eq_true rfl⟩ dX0_init_9 (fun u9 => [(b, .inr (0, [.null, .int (iI 0), .int (iI 0), .int (iI 0), .long (jL 0)])), (q5, .inr (3, [.ref u9.1, .ref u9.2.1, .ref u9.2.2, .int (iI 0), .int (iI 0)])), (u9.1, .inl (g_I (x_G X), 631, .inl (aI (fun _ => 0)))), (u9.2.1, .inl (g_I (x_G X), 2524, .inl (aI (fun _ => 0)))), (u9.2.2, .inl (g_J (x_G X), 631, .inr (.inl (aL (fun _ => 0)))))]) (⟨[0], [0, 1, 2, 3, 4], [(b, .inr (0, [.null, .int (iI 0), .int (iI 0), .int (iI 0), .long (jL 0)]))], rfl, by decide, by decide, by decide, fun _ => rfl⟩) 4 3791 ⟨rfl, rfl⟩ (fun u9 hu9 => ?_)
  refine k_putF C (Cn := RX0) (T := TX0) (N := 5) (ci := 0) (ref := "StruckCounts$Board") in_X0_init_X0 tyX0 tyX0_ok nmX0 0 rfl rfl 0 (by decide) 7 rfl rfl rfl hnm rfl (v := .ref q5) (rfl) (rfl) (Nat.le_of_ble_eq_true rfl) [(b, .inr (0, [.ref q5, .int (iI 0), .int (iI 0), .int (iI 0), .long (jL 0)])), (q5, .inr (3, [.ref u9.1, .ref u9.2.1, .ref u9.2.2, .int (iI 0), .int (iI 0)])), (u9.1, .inl (g_I (x_G X), 631, .inl (aI (fun _ => 0)))), (u9.2.1, .inl (g_I (x_G X), 2524, .inl (aI (fun _ => 0)))), (u9.2.2, .inl (g_J (x_G X), 631, .inr (.inl (aL (fun _ => 0)))))] rfl dX0_init_12 ?_
  refine k_aload_n C 0 rfl dX0_init_15 rfl ?_
  refine k_bipush C dX0_init_16 (by decide) ?_
  refine k_callV C (y := yX0_begin) [.int (iI 100)] 1 rfl (c_X0_begin (x_l X) (x_G X) b q5 0 0 0 0 100 ) gX0_init_X0_begin rfl ⟨rfl, by decide +kernel, by decide +kernel, by decide +kernel⟩ ⟨by decide, by decide⟩ 0 (fs := [.ref q5, .int (iI 0), .int (iI 0), .int (iI 0), .long (jL 0)]) rfl rfl rfl [0] (by decide) (wc := [(b, .inr (0, [.ref q5, .int (iI 0), .int (iI 0), .int (iI 0), .long (jL 0)]))]) rfl [] rfl (Nat.le_of_ble_eq_true rfl) ⟨Nat.le_of_ble_eq_true rfl, Nat.le_of_ble_eq_true rfl⟩ dX0_init_18 (fun u18 => [(b, .inr (0, [.ref q5, .int (iI (-1)), .int (iI 100), .int (iI 0), .long (jL 0)])), (q5, .inr (3, [.ref u9.1, .ref u9.2.1, .ref u9.2.2, .int (iI 0), .int (iI 0)])), (u9.1, .inl (g_I (x_G X), 631, .inl (aI (fun _ => 0)))), (u9.2.1, .inl (g_I (x_G X), 2524, .inl (aI (fun _ => 0)))), (u9.2.2, .inl (g_J (x_G X), 631, .inr (.inl (aL (fun _ => 0)))))]) (Or.inr ⟨[1, 2, 3, 4], [4, 0, 1, 2, 3], [(q5, .inr (3, [.ref u9.1, .ref u9.2.1, .ref u9.2.2, .int (iI 0), .int (iI 0)])), (u9.1, .inl (g_I (x_G X), 631, .inl (aI (fun _ => 0)))), (u9.2.1, .inl (g_I (x_G X), 2524, .inl (aI (fun _ => 0)))), (u9.2.2, .inl (g_J (x_G X), 631, .inr (.inl (aL (fun _ => 0)))))], rfl, by decide, by decide, by decide, fun _ => rfl⟩) (fun u18 => []) (fun _ => rfl) 4 3791 ⟨rfl, rfl⟩ (fun u18 hu18 => ?_)
  exact k_vret C hR (u := (q5, u9.1, u9.2.1, u9.2.2)) rfl (by (try dsimp only) <;> exact (trivial)) rfl (Nat.le_of_ble_eq_true rfl) (Nat.le_of_ble_eq_true rfl) dX0_init_21
theorem in_X1_init_X1 : ∀ w ∈ wsX10, w ∈ wsX1_init := by decide +kernel
set_option maxHeartbeats 4000000 in
set_option maxRecDepth 100000 in
theorem c_X1_init (l : Launch) (G : KG) (pr : Nat)  : Ct l G yX1_init wsX1_init (rmD 1 1 782) [.ref pr] [(pr, .inr (1, [.null]))] (fun u : Nat × (Nat → Int) => RowOK u.2) (fun u : Nat × (Nat → Int) => none) (fun u : Nat × (Nat → Int) => [(pr, .inr (1, [.ref u.1])), (u.1, .inl (g_J G, 782, .inr (.inl (aL u.2))))]) := by
  refine Ct.of (cc := cX1_init) (maxL := 6) (ret := none) (by decide +kernel) rfl (Nat.le_of_ble_eq_true rfl) ?_
  intro X C hG hL hnm hR
  subst hG
  subst hL
  have C : Cx X cX1_init RX1 wsX1_init none 6 (rmD 1 1 782) := C
  show K_ X 0 0 [(pr, .inr (1, [.null]))] 0 [(0, .ref pr)] []
  refine k_aload_n C 0 rfl dX1_init_0 rfl ?_
  refine k_objInit C 1 2 3 rfl rfl rfl (by decide) (Nat.le_of_ble_eq_true rfl) dX1_init_1 ?_
  refine k_aload_n C 0 rfl dX1_init_4 rfl ?_
  refine k_sipush C dX1_init_5 (by decide) ?_
  refine k_newJ C 782 rfl (by decide) 4 rfl (Nat.le_of_ble_eq_true rfl) (Nat.le_of_ble_eq_true rfl) dX1_init_8 (fun q8 => ?_)
  refine k_eq (ws2 := [(pr, .inr (1, [.null])), (q8, .inl (g_J (x_G X), 782, .inr (.inl (aL (fun _ => 0)))))]) (st2 := [.ref q8, .ref pr]) rfl rfl rfl rfl ?_
  refine k_wide (k2 := 1) (j2 := 782) (Nat.le_refl _) (Nat.le_refl _) ?_
  refine k_putF C (Cn := RX1) (T := TX1) (N := 1) (ci := 1) (ref := "StruckCounts$Primes") in_X1_init_X1 tyX1 tyX1_ok nmX1 0 rfl rfl 0 (by decide) 5 rfl rfl rfl hnm rfl (v := .ref q8) (rfl) (rfl) (Nat.le_of_ble_eq_true rfl) [(pr, .inr (1, [.ref q8])), (q8, .inl (g_J (x_G X), 782, .inr (.inl (aL (fun _ => 0)))))] rfl dX1_init_10 ?_
  refine k_iconst C dX1_init_13 ?_
  refine k_istore_n C (lo' := [(1, .int (iI 0)), (0, .ref pr)]) dX1_init_14 rfl (by decide) rfl ?_
  have L15 : ∀ (nf : Nat) (i : Int) (f1 : Nat → Int), (0 ≤ i ∧ i ≤ 782 ∧ ∀ q, q < i.toNat → f1 q = 18446744073709551615) → (782 - i).toNat < nf → K_ X 1 782 [(pr, .inr (1, [.ref q8])), (q8, .inl (g_J (x_G X), 782, .inr (.inl (aL f1))))] 15 [(1, .int (iI i)), (0, .ref pr)] [] := by
    intro nf
    induction nf with
    | zero => intro i f1 hI hm; exact absurd hm (Nat.not_lt_zero _)
    | succ nf ih15 =>
      intro i f1 hI15 hm15
      obtain ⟨i1, i2, i3⟩ := hI15
      refine k_iload_n C 0 rfl dX1_init_15 rfl ?_
      refine k_sipush C dX1_init_16 (by decide) ?_
      refine k_icmp_ge C 37 (⟨by omega, by omega⟩) (⟨by omega, by omega⟩) dX1_init_19 (by decide) (fun c19 => ?_) (fun c19 => ?_)
      · skip
        refine k_aload_n C 1 rfl dX1_init_37 rfl ?_
        refine k_get C (Cn := RX1) (T := TX1) (N := 1) (ci := 1) (ref := "StruckCounts$Primes") in_X1_init_X1 0 rfl rfl 0 (by decide) 5 rfl rfl (v := .ref q8) rfl dX1_init_38 ?_
        refine k_iconst C dX1_init_41 ?_
        refine k_dup2 C dX1_init_42 rfl rfl ?_
        refine k_lald C (f := f1) 1 rfl (⟨by omega, by omega⟩) (by decide) dX1_init_43 ?_
        refine k_nmL (fun v43 e43 => ?_)
        have h43 := i3 0 (by omega)
        refine k_ldc2 C 18446744073709551614 7 rfl (by decide) dX1_init_44 ?_
        refine k_land C 18446744073709551614 (by rw [e43, show f1 (0 : Int).toNat = 18446744073709551615 from h43]; decide) dX1_init_47 ?_
        refine k_last C (f := f1) 1 rfl (⟨by omega, by omega⟩) (by decide) (fun gg => [(pr, .inr (1, [.ref q8])), (q8, .inl (g_J (x_G X), 782, .inr (.inl (aL gg))))]) (fun _ => rfl) dX1_init_48 (fun g48 e48 => ?_)
        have hC0 : RowC (Cs 0) g48 := row_start e48 rfl i3 (by omega)
        refine k_getsN C (ref := "StruckCounts") (nm := "SMALL_PRIMES") C.S.1.1 8 rfl rfl dX1_init_49 ?_
        refine k_astore_n C (lo' := [(1, .ref (g_tp (x_G X))), (0, .ref pr)]) dX1_init_52 rfl (by decide) rfl ?_
        refine k_aload_n C 0 rfl dX1_init_53 rfl ?_
        refine k_tlen C C.S.1.2 dX1_init_54 ?_
        refine k_eq (st2 := [.int (iI 65)]) rfl rfl rfl rfl ?_
        refine k_istore_n C (lo' := [(2, .int (iI 65)), (1, .ref (g_tp (x_G X))), (0, .ref pr)]) dX1_init_55 rfl (by decide) rfl ?_
        refine k_iconst C dX1_init_56 ?_
        refine k_istore_n C (lo' := [(3, .int (iI 0)), (2, .int (iI 65)), (1, .ref (g_tp (x_G X))), (0, .ref pr)]) dX1_init_57 rfl (by decide) rfl ?_
        have L58 : ∀ (nf : Nat) (i : Int) (f2 : Nat → Int), (0 ≤ i ∧ i ≤ 65 ∧ RowC (Cs i.toNat) f2) → (65 - i).toNat < nf → K_ X 1 782 [(pr, .inr (1, [.ref q8])), (q8, .inl (g_J (x_G X), 782, .inr (.inl (aL f2))))] 58 [(3, .int (iI i)), (2, .int (iI 65)), (1, .ref (g_tp (x_G X))), (0, .ref pr)] [] := by
          intro nf
          induction nf with
          | zero => intro i f2 hI hm; exact absurd hm (Nat.not_lt_zero _)
          | succ nf ih58 =>
            intro i f2 hI58 hm58
            obtain ⟨j1, j2, j3⟩ := hI58
            refine k_iload_n C 0 rfl dX1_init_58 rfl ?_
            refine k_iload_n C 1 rfl dX1_init_59 rfl ?_
            refine k_icmp_ge C 130 (⟨by omega, by omega⟩) (⟨by omega, by omega⟩) dX1_init_60 (by decide) (fun c60 => ?_) (fun c60 => ?_)
            · skip
              exact k_vret C hR (u := (q8, f2)) rfl (by (try dsimp only) <;> exact (RowC_row (by rw [show i.toNat = 65 by omega] at j3; exact j3))) rfl (Nat.le_of_ble_eq_true rfl) (Nat.le_of_ble_eq_true rfl) dX1_init_130
            · skip
              refine k_aload_n C 2 rfl dX1_init_63 rfl ?_
              refine k_iload_n C 0 rfl dX1_init_64 rfl ?_
              refine k_ti C C.S.1.2 (⟨by omega, by omega⟩) (by decide) dX1_init_65 ?_
              refine k_nmI (fun v65 e65 => ?_)
              have hj : i.toNat < 65 := by omega
              have hp : v65 = (sp i.toNat : Int) := by rw [e65]; exact spA_sp hj
              have hp2 := sp_ge2 hj
              have hp3 := sp_le hj
              have hmm := mul_rng (a := v65) (b := v65) (A := 313) (B := 313) (by omega) (by omega) (by omega) (by omega)
              refine k_istore C (lo' := [(4, .int (iI v65)), (3, .int (iI i)), (2, .int (iI 65)), (1, .ref (g_tp (x_G X))), (0, .ref pr)]) dX1_init_66 (by decide) rfl ?_
              refine k_iload C 0 rfl dX1_init_68 ?_
              refine k_iload C 0 rfl dX1_init_70 ?_
              refine k_imul C dX1_init_72 ?_
              refine k_nmI (fun v72 e72 => ?_)
              have h72 : v72 = ((sp i.toNat * sp i.toNat : Nat) : Int) := by rw [e72, hp, Int.natCast_mul]
              refine k_iconst C dX1_init_73 ?_
              refine k_idiv C ⟨by omega, by omega⟩ ⟨by omega, by omega⟩ dX1_init_74 ?_
              refine k_nmI (fun v74 e74 => ?_)
              have hv74 : v74.toNat = sp i.toNat * sp i.toNat / 2 := by omega
              refine k_istore C (lo' := [(5, .int (iI v74)), (4, .int (iI v65)), (3, .int (iI i)), (2, .int (iI 65)), (1, .ref (g_tp (x_G X))), (0, .ref pr)]) dX1_init_75 (by decide) rfl ?_
              have L77 : ∀ (nf : Nat) (cu : Int) (f3 : Nat → Int), (0 ≤ cu ∧ cu ≤ 60000 ∧ sp i.toNat * sp i.toNat / 2 ≤ cu.toNat ∧ (cu.toNat - sp i.toNat * sp i.toNat / 2) % sp i.toNat = 0 ∧ RowC (Ci i.toNat cu.toNat) f3 ∧ (2 < sp i.toNat ∨ cu.toNat = sp i.toNat * sp i.toNat / 2)) → (60000 - cu).toNat < nf → K_ X 1 782 [(pr, .inr (1, [.ref q8])), (q8, .inl (g_J (x_G X), 782, .inr (.inl (aL f3))))] 77 [(5, .int (iI cu)), (4, .int (iI v65)), (3, .int (iI i)), (2, .int (iI 65)), (1, .ref (g_tp (x_G X))), (0, .ref pr)] [] := by
                intro nf
                induction nf with
                | zero => intro cu f3 hI hm; exact absurd hm (Nat.not_lt_zero _)
                | succ nf ih77 =>
                  intro cu f3 hI77 hm77
                  obtain ⟨k1, k2, k3, k3b, k4, k5⟩ := hI77
                  refine k_iload C 1 rfl dX1_init_77 ?_
                  refine k_iconst C dX1_init_79 ?_
                  refine k_icmp_le C 124 (⟨by omega, by omega⟩) (⟨by omega, by omega⟩) dX1_init_80 (by decide) (fun c80 => ?_) (fun c80 => ?_)
                  · skip
                    obtain ⟨v124, e124⟩ : ∃ y : Int, y = i + 1 := ⟨_, rfl⟩
                    refine k_iinc C (lo' := [(3, .int (iI v124)), (5, .int (iI cu)), (4, .int (iI v65)), (2, .int (iI 65)), (1, .ref (g_tp (x_G X))), (0, .ref pr)]) 2 rfl dX1_init_124 (by decide) v124 e124 rfl ?_
                    refine k_goto C 58 dX1_init_127 (by decide) ?_
                    refine k_lo (lo' := [(3, .int (iI v124)), (2, .int (iI 65)), (1, .ref (g_tp (x_G X))), (0, .ref pr)]) [0, 3, 4, 5] rfl ?_
                    exact ih58 v124 f3 (⟨by omega, by omega, by
                rw [show v124.toNat = i.toNat + 1 by omega]
                first
                | exact RowC_cong k4 (fun e he => by rw [show cu.toNat = sp i.toNat * sp i.toNat / 2 by omega, Ci_0, Cs_2 (by omega)])
                | exact RowC_cong k4 (fun e he => Ci_end (by omega) (by omega))⟩) (by omega)
                  · skip
                    refine k_iload C 0 rfl dX1_init_83 ?_
                    refine k_ldc C 50048 8 rfl (by decide) dX1_init_85 ?_
                    refine k_icmp_ge C 124 (⟨by omega, by omega⟩) (⟨by omega, by omega⟩) dX1_init_87 (by decide) (fun c87 => ?_) (fun c87 => ?_)
                    · skip
                      obtain ⟨v124, e124⟩ : ∃ y : Int, y = i + 1 := ⟨_, rfl⟩
                      refine k_iinc C (lo' := [(3, .int (iI v124)), (5, .int (iI cu)), (4, .int (iI v65)), (2, .int (iI 65)), (1, .ref (g_tp (x_G X))), (0, .ref pr)]) 2 rfl dX1_init_124 (by decide) v124 e124 rfl ?_
                      refine k_goto C 58 dX1_init_127 (by decide) ?_
                      refine k_lo (lo' := [(3, .int (iI v124)), (2, .int (iI 65)), (1, .ref (g_tp (x_G X))), (0, .ref pr)]) [0, 3, 4, 5] rfl ?_
                      exact ih58 v124 f3 (⟨by omega, by omega, by
                rw [show v124.toNat = i.toNat + 1 by omega]
                first
                | exact RowC_cong k4 (fun e he => by rw [show cu.toNat = sp i.toNat * sp i.toNat / 2 by omega, Ci_0, Cs_2 (by omega)])
                | exact RowC_cong k4 (fun e he => Ci_end (by omega) (by omega))⟩) (by omega)
                    · skip
                      refine k_aload_n C 5 rfl dX1_init_90 rfl ?_
                      refine k_get C (Cn := RX1) (T := TX1) (N := 1) (ci := 1) (ref := "StruckCounts$Primes") in_X1_init_X1 0 rfl rfl 0 (by decide) 5 rfl rfl (v := .ref q8) rfl dX1_init_91 ?_
                      refine k_iload C 0 rfl dX1_init_94 ?_
                      refine k_bipush C dX1_init_96 (by decide) ?_
                      refine k_idiv C ⟨by omega, by omega⟩ ⟨by omega, by omega⟩ dX1_init_98 ?_
                      refine k_nmI (fun v98 e98 => ?_)
                      refine k_dup2 C dX1_init_99 rfl rfl ?_
                      refine k_lald C (f := f3) 1 rfl (⟨by omega, by omega⟩) (by decide) dX1_init_100 ?_
                      refine k_nmL (fun v100 e100 => ?_)
                      have h100 : v100 = (v100.toNat : Int) := by rw [e100, k4 v98.toNat (by omega)]; rfl
                      refine k_lconst C dX1_init_101 1 (by decide) ?_
                      refine k_iload C 0 rfl dX1_init_102 ?_
                      refine k_bipush C dX1_init_104 (by decide) ?_
                      refine k_irem C ⟨by omega, by omega⟩ ⟨by omega, by omega⟩ dX1_init_106 ?_
                      refine k_nmI (fun v106 e106 => ?_)
                      refine k_lshl C ((2 ^ v106.toNat : Nat) : Int) (by have := jl_shl 1 (k := v106) (by omega) (by omega); rw [Nat.one_mul] at this; exact this) dX1_init_107 ?_
                      refine k_nmL (fun v107 e107 => ?_)
                      refine k_ldc2 C 18446744073709551615 6 rfl (by decide) dX1_init_108 ?_
                      refine k_lxor C ((2 ^ v106.toNat ^^^ 18446744073709551615 : Nat) : Int) (by rw [e107]; exact jl_xor _ _) dX1_init_111 ?_
                      refine k_nmL (fun v111 e111 => ?_)
                      refine k_land C ((v100.toNat &&& (2 ^ v106.toNat ^^^ 18446744073709551615) : Nat) : Int) (by rw [e111]; exact (congrArg (fun z => jL z &&& jL ((2 ^ v106.toNat ^^^ 18446744073709551615 : Nat) : Int)) h100).trans (jl_and _ _)) dX1_init_112 ?_
                      refine k_nmL (fun v112 e112 => ?_)
                      refine k_last C (f := f3) 1 rfl (⟨by omega, by omega⟩) (by decide) (fun gg => [(pr, .inr (1, [.ref q8])), (q8, .inl (g_J (x_G X), 782, .inr (.inl (aL gg))))]) (fun _ => rfl) dX1_init_113 (fun g113 e113 => ?_)
                      refine k_iload C 0 rfl dX1_init_114 ?_
                      refine k_iload C 1 rfl dX1_init_116 ?_
                      refine k_iadd C dX1_init_118 ?_
                      refine k_nmI (fun v118 e118 => ?_)
                      refine k_istore C (lo' := [(5, .int (iI v118)), (4, .int (iI v65)), (3, .int (iI i)), (2, .int (iI 65)), (1, .ref (g_tp (x_G X))), (0, .ref pr)]) dX1_init_119 (by decide) rfl ?_
                      refine k_goto C 77 dX1_init_121 (by decide) ?_
                      exact ih77 v118 g113 (⟨by omega, by omega, by omega, by
                rw [show v118.toNat - sp i.toNat * sp i.toNat / 2 = (cu.toNat - sp i.toNat * sp i.toNat / 2) + sp i.toNat by omega, Nat.add_mod_right]; exact k3b, by
                rw [show v118.toNat = cu.toNat + sp i.toNat by omega]
                exact RowC_cong (RowC_clear k4 (e0 := cu.toNat) (by omega) (q := v98) (by omega) (x := v112) (by rw [e112, show v106.toNat = cu.toNat % 64 by omega, e100]) e113) (fun e he => (Ci_step (by omega) k3 k3b e).symm), Or.inl (by omega)⟩) (by omega)
              exact L77 _ v74 f2 (⟨by omega, by omega, by omega, by rw [show v74.toNat - sp i.toNat * sp i.toNat / 2 = 0 by omega]; exact Nat.zero_mod _, RowC_cong j3 (fun e he => by rw [hv74]; exact (Ci_0 _ e).symm), Or.inr hv74⟩) (Nat.lt_succ_self _)
        exact L58 _ 0 g48 (⟨by omega, by omega, hC0⟩) (Nat.lt_succ_self _)
      · skip
        refine k_aload_n C 1 rfl dX1_init_22 rfl ?_
        refine k_get C (Cn := RX1) (T := TX1) (N := 1) (ci := 1) (ref := "StruckCounts$Primes") in_X1_init_X1 0 rfl rfl 0 (by decide) 5 rfl rfl (v := .ref q8) rfl dX1_init_23 ?_
        refine k_iload_n C 0 rfl dX1_init_26 rfl ?_
        refine k_ldc2 C 18446744073709551615 6 rfl (by decide) dX1_init_27 ?_
        refine k_last C (f := f1) 1 rfl (⟨by omega, by omega⟩) (by decide) (fun gg => [(pr, .inr (1, [.ref q8])), (q8, .inl (g_J (x_G X), 782, .inr (.inl (aL gg))))]) (fun _ => rfl) dX1_init_30 (fun g30 e30 => ?_)
        obtain ⟨v31, e31⟩ : ∃ y : Int, y = i + 1 := ⟨_, rfl⟩
        refine k_iinc C (lo' := [(1, .int (iI v31)), (0, .ref pr)]) 0 rfl dX1_init_31 (by decide) v31 e31 rfl ?_
        refine k_goto C 15 dX1_init_34 (by decide) ?_
        exact ih15 v31 g30 (⟨by omega, by omega, fun q hq => by rw [e30]; by_cases e : q = i.toNat; (rw [e, upI_s]); (rw [upI_n e]; exact i3 q (by omega))⟩) (by omega)
  exact L15 _ 0 (fun _ => 0) (⟨by omega, by omega, fun q hq => absurd hq (Nat.not_lt_zero q)⟩) (Nat.lt_succ_self _)
