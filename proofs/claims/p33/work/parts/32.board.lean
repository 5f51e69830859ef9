set_option maxHeartbeats 4000000 in
set_option maxRecDepth 100000 in
theorem c_X0_primeAt (l : Launch) (G : KG) (b t : Nat) (tl bd cm sk k0 : Int) (hk0 : -2147483648 ≤ k0 ∧ k0 < 2147483648) : Ct l G yX0_primeAt wsX0_primeAt (rmD 0 0 0) [.ref b, .int (iI k0)] [(b, .inr (0, [.ref t, .int (iI tl), .int (iI bd), .int (iI cm), .long (jL sk)]))] (fun u : Int => u = pA k0) (fun u : Int => some (.int (iI u))) (fun u : Int => [(b, .inr (0, [.ref t, .int (iI tl), .int (iI bd), .int (iI cm), .long (jL sk)]))]) := by
  refine Ct.of (cc := cX0_primeAt) (maxL := 2) (ret := (some .int)) (by decide +kernel) rfl (Nat.le_of_ble_eq_true rfl) ?_
  intro X C hG hL hnm hR
  subst hG
  subst hL
  have C : Cx X cX0_primeAt RX0 wsX0_primeAt (some .int) 2 (rmD 0 0 0) := C
  show K_ X 0 0 [(b, .inr (0, [.ref t, .int (iI tl), .int (iI bd), .int (iI cm), .long (jL sk)]))] 0 [(0, .ref b), (1, .int (iI k0))] []
  refine k_iload_n C 1 rfl dX0_primeAt_0 rfl ?_
  refine k_if_lt C 10 (⟨by omega, by omega⟩) dX0_primeAt_1 (by decide) (fun c1 => ?_) (fun c1 => ?_)
  · skip
    refine k_iconst C dX0_primeAt_10 ?_
    refine k_goto C 19 dX0_primeAt_11 (by decide) ?_
    exact k_iret C hR (u := (-1)) rfl (by unfold pA; rw [if_neg (by omega)]) rfl (Nat.le_of_ble_eq_true rfl) (Nat.le_of_ble_eq_true rfl) dX0_primeAt_19
  · skip
    refine k_iload_n C 1 rfl dX0_primeAt_4 rfl ?_
    refine k_bipush C dX0_primeAt_5 (by decide) ?_
    refine k_icmp_lt C 14 (⟨by omega, by omega⟩) (⟨by omega, by omega⟩) dX0_primeAt_7 (by decide) (fun c7 => ?_) (fun c7 => ?_)
    · skip
      refine k_getsN C (ref := "StruckCounts") (nm := "SMALL_PRIMES") C.S.1.1 9 rfl rfl dX0_primeAt_14 ?_
      refine k_iload_n C 1 rfl dX0_primeAt_17 rfl ?_
      refine k_ti C C.S.1.2 (⟨by omega, by omega⟩) (by decide) dX0_primeAt_18 ?_
      refine k_nmI (fun v18 e18 => ?_)
      exact k_iret C hR (u := v18) rfl (by unfold pA; rw [if_pos (by omega)]; exact e18) rfl (Nat.le_of_ble_eq_true rfl) (Nat.le_of_ble_eq_true rfl) dX0_primeAt_19
    · skip
      refine k_iconst C dX0_primeAt_10 ?_
      refine k_goto C 19 dX0_primeAt_11 (by decide) ?_
      exact k_iret C hR (u := (-1)) rfl (by unfold pA; rw [if_neg (by omega)]) rfl (Nat.le_of_ble_eq_true rfl) (Nat.le_of_ble_eq_true rfl) dX0_primeAt_19
theorem in_X0_hasStruck_X0 : ∀ w ∈ wsX00, w ∈ wsX0_hasStruck := by decide +kernel
set_option maxHeartbeats 4000000 in
set_option maxRecDepth 100000 in
theorem c_X0_hasStruck (l : Launch) (G : KG) (b t : Nat) (tl bd cm sk k0 : Int) (m : Nat) (hk : 0 ≤ k0 ∧ k0 < 64) (hsk : sk = (m : Int)) (hm : m < 2 ^ 64) : Ct l G yX0_hasStruck wsX0_hasStruck (rmD 0 0 0) [.ref b, .int (iI k0)] [(b, .inr (0, [.ref t, .int (iI tl), .int (iI bd), .int (iI cm), .long (jL sk)]))] (fun u : Int => (u = 1 ∧ m.testBit k0.toNat = true) ∨ (u = 0 ∧ ¬ m.testBit k0.toNat = true)) (fun u : Int => some (.int (iI u))) (fun u : Int => [(b, .inr (0, [.ref t, .int (iI tl), .int (iI bd), .int (iI cm), .long (jL sk)]))]) := by
  refine Ct.of (cc := cX0_hasStruck) (maxL := 2) (ret := (some .boolean)) (by decide +kernel) rfl (Nat.le_of_ble_eq_true rfl) ?_
  intro X C hG hL hnm hR
  subst hG
  subst hL
  have C : Cx X cX0_hasStruck RX0 wsX0_hasStruck (some .boolean) 2 (rmD 0 0 0) := C
  have hq := Nat.div_le_self m (2 ^ k0.toNat)
  show K_ X 0 0 [(b, .inr (0, [.ref t, .int (iI tl), .int (iI bd), .int (iI cm), .long (jL sk)]))] 0 [(0, .ref b), (1, .int (iI k0))] []
  refine k_aload_n C 0 rfl dX0_hasStruck_0 rfl ?_
  refine k_get C (Cn := RX0) (T := TX0) (N := 5) (ci := 0) (ref := "StruckCounts$Board") in_X0_hasStruck_X0 0 rfl rfl 4 (by decide) 1 rfl rfl (v := .long (jL sk)) rfl dX0_hasStruck_1 ?_
  refine k_iload_n C 1 rfl dX0_hasStruck_4 rfl ?_
  refine k_lushr C ((m / 2 ^ k0.toNat : Nat) : Int) (by rw [hsk]; exact jl_shr hm hk.1 hk.2) dX0_hasStruck_5 ?_
  refine k_nmL (fun v5 e5 => ?_)
  refine k_lconst C dX0_hasStruck_6 1 (by decide) ?_
  refine k_land C ((m / 2 ^ k0.toNat % 2 : Nat) : Int) (by rw [e5]; exact jl_and1 _) dX0_hasStruck_7 ?_
  refine k_nmL (fun v7 e7 => ?_)
  refine k_lconst C dX0_hasStruck_8 0 (by decide) ?_
  refine k_lcmp C (⟨by omega, by omega⟩) (⟨by omega, by omega⟩) dX0_hasStruck_9 (fun v9 e9 b9 => ?_)
  clear e9
  refine k_if_eq C 17 (⟨by omega, by omega⟩) dX0_hasStruck_10 (by decide) (fun c10 => ?_) (fun c10 => ?_)
  · skip
    refine k_iconst C dX0_hasStruck_17 ?_
    exact k_zret C hR (by omega) (u := 0) rfl (by right; refine ⟨rfl, ?_⟩; rw [tb_mod]; intro z; have := of_decide_eq_true z; omega) rfl (Nat.le_of_ble_eq_true rfl) (Nat.le_of_ble_eq_true rfl) dX0_hasStruck_18
  · skip
    refine k_iconst C dX0_hasStruck_13 ?_
    refine k_goto C 18 dX0_hasStruck_14 (by decide) ?_
    exact k_zret C hR (by omega) (u := 1) rfl (by left; refine ⟨rfl, ?_⟩; rw [tb_mod]; exact decide_eq_true (by omega)) rfl (Nat.le_of_ble_eq_true rfl) (Nat.le_of_ble_eq_true rfl) dX0_hasStruck_18
theorem in_X0_nextPrime_X0 : ∀ w ∈ wsX00, w ∈ wsX0_nextPrime := by decide +kernel
set_option maxHeartbeats 4000000 in
set_option maxRecDepth 100000 in
theorem c_X0_nextPrime (l : Launch) (G : KG) (b t : Nat) (tl bd cm sk : Int) (n k m : Nat) (hS : BdS n k m bd cm sk) : Ct l G yX0_nextPrime wsX0_nextPrime (rmD 1 0 0) [.ref b] [(b, .inr (0, [.ref t, .int (iI tl), .int (iI bd), .int (iI cm), .long (jL sk)]))] (fun u : Int => u = nxI n k) (fun u : Int => some (.int (iI u))) (fun u : Int => [(b, .inr (0, [.ref t, .int (iI tl), .int (iI bd), .int (iI cm), .long (jL sk)]))]) := by
  refine Ct.of (cc := cX0_nextPrime) (maxL := 2) (ret := (some .int)) (by decide +kernel) rfl (Nat.le_of_ble_eq_true rfl) ?_
  intro X C hG hL hnm hR
  subst hG
  subst hL
  have C : Cx X cX0_nextPrime RX0 wsX0_nextPrime (some .int) 2 (rmD 1 0 0) := C
  obtain ⟨s1, s2, s3, s4, s5, s6, s7⟩ := id hS
  show K_ X 0 0 [(b, .inr (0, [.ref t, .int (iI tl), .int (iI bd), .int (iI cm), .long (jL sk)]))] 0 [(0, .ref b)] []
  refine k_aload_n C 0 rfl dX0_nextPrime_0 rfl ?_
  refine k_aload_n C 0 rfl dX0_nextPrime_1 rfl ?_
  refine k_get C (Cn := RX0) (T := TX0) (N := 5) (ci := 0) (ref := "StruckCounts$Board") in_X0_nextPrime_X0 0 rfl rfl 3 (by decide) 1 rfl rfl (v := .int (iI cm)) rfl dX0_nextPrime_2 ?_
  refine k_callV C (y := yX0_primeAt) [.int (iI cm)] 1 rfl (c_X0_primeAt (x_l X) (x_G X) b t tl bd cm sk cm (by first | assumption | omega)) gX0_nextPrime_X0_primeAt rfl ⟨rfl, by decide +kernel, by decide +kernel, by decide +kernel⟩ ⟨by decide, by decide⟩ 0 (fs := [.ref t, .int (iI tl), .int (iI bd), .int (iI cm), .long (jL sk)]) rfl rfl rfl [0] (by decide) (wc := [(b, .inr (0, [.ref t, .int (iI tl), .int (iI bd), .int (iI cm), .long (jL sk)]))]) rfl [] rfl (Nat.le_of_ble_eq_true rfl) ⟨Nat.le_of_ble_eq_true rfl, Nat.le_of_ble_eq_true rfl⟩ dX0_nextPrime_5 (fun _ => [(b, .inr (0, [.ref t, .int (iI tl), .int (iI bd), .int (iI cm), .long (jL sk)]))]) (Or.inl (fun _ => ⟨rfl, rfl⟩)) (fun u5 => [.int (iI u5)]) (fun _ => rfl) 0 0 ⟨rfl, rfl⟩ (fun u5 hu5 => ?_)
  have hr := pA_rng cm
  have hp : u5 = pA (k : Int) := by rw [hu5, s2]
  refine k_istore_n C (lo' := [(1, .int (iI u5)), (0, .ref b)]) dX0_nextPrime_8 rfl (by decide) rfl ?_
  refine k_iload_n C 0 rfl dX0_nextPrime_9 rfl ?_
  refine k_aload_n C 1 rfl dX0_nextPrime_10 rfl ?_
  refine k_get C (Cn := RX0) (T := TX0) (N := 5) (ci := 0) (ref := "StruckCounts$Board") in_X0_nextPrime_X0 0 rfl rfl 2 (by decide) 2 rfl rfl (v := .int (iI bd)) rfl dX0_nextPrime_11 ?_
  refine k_icmp_le C 21 (⟨by omega, by omega⟩) (⟨by omega, by omega⟩) dX0_nextPrime_14 (by decide) (fun c14 => ?_) (fun c14 => ?_)
  · skip
    refine k_iload_n C 0 rfl dX0_nextPrime_21 rfl ?_
    exact k_iret C hR (u := u5) rfl (by rw [nxI_pA s6, if_neg (by omega), hp]) rfl (Nat.le_of_ble_eq_true rfl) (Nat.le_of_ble_eq_true rfl) dX0_nextPrime_22
  · skip
    refine k_iconst C dX0_nextPrime_17 ?_
    refine k_goto C 22 dX0_nextPrime_18 (by decide) ?_
    exact k_iret C hR (u := (-1)) rfl (by rw [nxI_pA s6, if_pos (by omega)]) rfl (Nat.le_of_ble_eq_true rfl) (Nat.le_of_ble_eq_true rfl) dX0_nextPrime_22
theorem in_X0_show_X0 : ∀ w ∈ wsX00, w ∈ wsX0_show := by decide +kernel
set_option maxHeartbeats 4000000 in
set_option maxRecDepth 100000 in
theorem c_X0_show (l : Launch) (G : KG) (b t : Nat) (tl bd cm sk x y z : Int)  : Ct l G yX0_show wsX0_show (rmD 0 0 0) [.ref b, .int (iI x), .int (iI y), .long (jL z)] [(b, .inr (0, [.ref t, .int (iI tl), .int (iI bd), .int (iI cm), .long (jL sk)]))] (fun u : Unit => True) (fun u : Unit => none) (fun u : Unit => [(b, .inr (0, [.ref t, .int (iI (-1)), .int (iI x), .int (iI y), .long (jL z)]))]) := by
  refine Ct.of (cc := cX0_show) (maxL := 5) (ret := none) (by decide +kernel) rfl (Nat.le_of_ble_eq_true rfl) ?_
  intro X C hG hL hnm hR
  subst hG
  subst hL
  have C : Cx X cX0_show RX0 wsX0_show none 5 (rmD 0 0 0) := C
  show K_ X 0 0 [(b, .inr (0, [.ref t, .int (iI tl), .int (iI bd), .int (iI cm), .long (jL sk)]))] 0 [(0, .ref b), (1, .int (iI x)), (2, .int (iI y)), (3, .long (jL z))] []
  refine k_aload_n C 0 rfl dX0_show_0 rfl ?_
  refine k_iload_n C 1 rfl dX0_show_1 rfl ?_
  refine k_put C (Cn := RX0) (T := TX0) (N := 5) (ci := 0) (ref := "StruckCounts$Board") in_X0_show_X0 tyX0 tyX0_ok nmX0 0 rfl rfl 2 (by decide) 1 rfl rfl rfl (v := .int (iI x)) (rfl) (rfl) (Nat.le_of_ble_eq_true rfl) [(b, .inr (0, [.ref t, .int (iI tl), .int (iI x), .int (iI cm), .long (jL sk)]))] rfl dX0_show_2 ?_
  refine k_aload_n C 0 rfl dX0_show_5 rfl ?_
  refine k_iload_n C 2 rfl dX0_show_6 rfl ?_
  refine k_put C (Cn := RX0) (T := TX0) (N := 5) (ci := 0) (ref := "StruckCounts$Board") in_X0_show_X0 tyX0 tyX0_ok nmX0 0 rfl rfl 3 (by decide) 2 rfl rfl rfl (v := .int (iI y)) (rfl) (rfl) (Nat.le_of_ble_eq_true rfl) [(b, .inr (0, [.ref t, .int (iI tl), .int (iI x), .int (iI y), .long (jL sk)]))] rfl dX0_show_7 ?_
  refine k_aload_n C 0 rfl dX0_show_10 rfl ?_
  refine k_lload_n C 3 rfl dX0_show_11 rfl ?_
  refine k_put C (Cn := RX0) (T := TX0) (N := 5) (ci := 0) (ref := "StruckCounts$Board") in_X0_show_X0 tyX0 tyX0_ok nmX0 0 rfl rfl 4 (by decide) 3 rfl rfl rfl (v := .long (jL z)) (rfl) (rfl) (Nat.le_of_ble_eq_true rfl) [(b, .inr (0, [.ref t, .int (iI tl), .int (iI x), .int (iI y), .long (jL z)]))] rfl dX0_show_12 ?_
  refine k_aload_n C 0 rfl dX0_show_15 rfl ?_
  refine k_iconst C dX0_show_16 ?_
  refine k_put C (Cn := RX0) (T := TX0) (N := 5) (ci := 0) (ref := "StruckCounts$Board") in_X0_show_X0 tyX0 tyX0_ok nmX0 0 rfl rfl 1 (by decide) 4 rfl rfl rfl (v := .int (iI (-1))) (rfl) (rfl) (Nat.le_of_ble_eq_true rfl) [(b, .inr (0, [.ref t, .int (iI (-1)), .int (iI x), .int (iI y), .long (jL z)]))] rfl dX0_show_17 ?_
  exact k_vret C hR (u := ()) rfl (by first | trivial | omega) rfl (Nat.le_of_ble_eq_true rfl) (Nat.le_of_ble_eq_true rfl) dX0_show_20
set_option maxHeartbeats 4000000 in
set_option maxRecDepth 100000 in
theorem c_X0_begin (l : Launch) (G : KG) (b t : Nat) (tl bd cm sk x : Int)  : Ct l G yX0_begin wsX0_begin (rmD 1 0 0) [.ref b, .int (iI x)] [(b, .inr (0, [.ref t, .int (iI tl), .int (iI bd), .int (iI cm), .long (jL sk)]))] (fun u : Unit => True) (fun u : Unit => none) (fun u : Unit => [(b, .inr (0, [.ref t, .int (iI (-1)), .int (iI x), .int (iI 0), .long (jL 0)]))]) := by
  refine Ct.of (cc := cX0_begin) (maxL := 2) (ret := none) (by decide +kernel) rfl (Nat.le_of_ble_eq_true rfl) ?_
  intro X C hG hL hnm hR
  subst hG
  subst hL
  have C : Cx X cX0_begin RX0 wsX0_begin none 2 (rmD 1 0 0) := C
  show K_ X 0 0 [(b, .inr (0, [.ref t, .int (iI tl), .int (iI bd), .int (iI cm), .long (jL sk)]))] 0 [(0, .ref b), (1, .int (iI x))] []
  refine k_aload_n C 0 rfl dX0_begin_0 rfl ?_
  refine k_iload_n C 1 rfl dX0_begin_1 rfl ?_
  refine k_iconst C dX0_begin_2 ?_
  refine k_lconst C dX0_begin_3 0 (by decide) ?_
  refine k_callV C (y := yX0_show) [.int (iI x), .int (iI 0), .long (jL 0)] 3 rfl (c_X0_show (x_l X) (x_G X) b t tl bd cm sk x 0 0 ) gX0_begin_X0_show rfl ⟨rfl, by decide +kernel, by decide +kernel, by decide +kernel⟩ ⟨by decide, by decide⟩ 0 (fs := [.ref t, .int (iI tl), .int (iI bd), .int (iI cm), .long (jL sk)]) rfl rfl rfl [0] (by decide) (wc := [(b, .inr (0, [.ref t, .int (iI tl), .int (iI bd), .int (iI cm), .long (jL sk)]))]) rfl [] rfl (Nat.le_of_ble_eq_true rfl) ⟨Nat.le_of_ble_eq_true rfl, Nat.le_of_ble_eq_true rfl⟩ dX0_begin_4 (fun u4 => [(b, .inr (0, [.ref t, .int (iI (-1)), .int (iI x), .int (iI 0), .long (jL 0)]))]) (Or.inr ⟨[], [0], [], rfl, by decide, by decide, by decide, fun _ => rfl⟩) (fun u4 => []) (fun _ => rfl) 0 0 ⟨rfl, rfl⟩ (fun u4 hu4 => ?_)
  exact k_vret C hR (u := ()) rfl (by first | trivial | omega) rfl (Nat.le_of_ble_eq_true rfl) (Nat.le_of_ble_eq_true rfl) dX0_begin_7

theorem in_X0_letCome_X0 : ∀ w ∈ wsX00, w ∈ wsX0_letCome := by decide +kernel
set_option maxHeartbeats 4000000 in
set_option maxRecDepth 100000 in
theorem c_X0_letCome (l : Launch) (G : KG) (b t : Nat) (tl bd cm sk s : Int) (n k m : Nat) (hS : BdS n k m bd cm sk) (hs : s = 0 ∨ s = 1) : Ct l G yX0_letCome wsX0_letCome (rmD 2 0 0) [.ref b, .int (iI s)] [(b, .inr (0, [.ref t, .int (iI tl), .int (iI bd), .int (iI cm), .long (jL sk)]))] (fun u : Int × Int × Int => (nxI n k = -1 ∧ u.1 = 0 ∧ u.2.1 = cm ∧ u.2.2 = sk) ∨ (¬ nxI n k = -1 ∧ u.1 = 1 ∧ u.2.1 = cm + 1 ∧ u.2.2 = if s = 0 then (m : Int) else ((m ||| 2 ^ k : Nat) : Int))) (fun u : Int × Int × Int => some (.int (iI u.1))) (fun u : Int × Int × Int => [(b, .inr (0, [.ref t, .int (iI tl), .int (iI bd), .int (iI u.2.1), .long (jL u.2.2)]))]) := by
  refine Ct.of (cc := cX0_letCome) (maxL := 2) (ret := (some .boolean)) (by decide +kernel) rfl (Nat.le_of_ble_eq_true rfl) ?_
  intro X C hG hL hnm hR
  subst hG
  subst hL
  have C : Cx X cX0_letCome RX0 wsX0_letCome (some .boolean) 2 (rmD 2 0 0) := C
  obtain ⟨s1, s2, s3, s4, s5, s6, s7⟩ := id hS
  show K_ X 0 0 [(b, .inr (0, [.ref t, .int (iI tl), .int (iI bd), .int (iI cm), .long (jL sk)]))] 0 [(0, .ref b), (1, .int (iI s))] []
  refine k_aload_n C 0 rfl dX0_letCome_0 rfl ?_
  refine k_callV C (y := yX0_nextPrime) [] 0 rfl (c_X0_nextPrime (x_l X) (x_G X) b t tl bd cm sk n k m (by first | assumption | omega)) gX0_letCome_X0_nextPrime rfl ⟨rfl, by decide +kernel, by decide +kernel, by decide +kernel⟩ ⟨by decide, by decide⟩ 0 (fs := [.ref t, .int (iI tl), .int (iI bd), .int (iI cm), .long (jL sk)]) rfl rfl rfl [0] (by decide) (wc := [(b, .inr (0, [.ref t, .int (iI tl), .int (iI bd), .int (iI cm), .long (jL sk)]))]) rfl [] rfl (Nat.le_of_ble_eq_true rfl) ⟨Nat.le_of_ble_eq_true rfl, Nat.le_of_ble_eq_true rfl⟩ dX0_letCome_1 (fun _ => [(b, .inr (0, [.ref t, .int (iI tl), .int (iI bd), .int (iI cm), .long (jL sk)]))]) (Or.inl (fun _ => ⟨rfl, rfl⟩)) (fun u1 => [.int (iI u1)]) (fun _ => rfl) 0 0 ⟨rfl, rfl⟩ (fun u1 hu1 => ?_)
  have hr := nxI_rng n k
  refine k_iconst C dX0_letCome_4 ?_
  refine k_icmp_ne C 10 (⟨by omega, by omega⟩) (⟨by omega, by omega⟩) dX0_letCome_5 (by decide) (fun c5 => ?_) (fun c5 => ?_)
  · skip
    refine k_iload_n C 1 rfl dX0_letCome_10 rfl ?_
    refine k_if_eq C 29 (⟨by omega, by omega⟩) dX0_letCome_11 (by decide) (fun c11 => ?_) (fun c11 => ?_)
    · skip
      refine k_aload_n C 0 rfl dX0_letCome_29 rfl ?_
      refine k_dup C dX0_letCome_30 rfl ?_
      refine k_get C (Cn := RX0) (T := TX0) (N := 5) (ci := 0) (ref := "StruckCounts$Board") in_X0_letCome_X0 0 rfl rfl 3 (by decide) 2 rfl rfl (v := .int (iI cm)) rfl dX0_letCome_31 ?_
      refine k_iconst C dX0_letCome_34 ?_
      refine k_iadd C dX0_letCome_35 ?_
      refine k_nmI (fun v35 e35 => ?_)
      refine k_put C (Cn := RX0) (T := TX0) (N := 5) (ci := 0) (ref := "StruckCounts$Board") in_X0_letCome_X0 tyX0 tyX0_ok nmX0 0 rfl rfl 3 (by decide) 2 rfl rfl rfl (v := .int (iI v35)) (rfl) (rfl) (Nat.le_of_ble_eq_true rfl) [(b, .inr (0, [.ref t, .int (iI tl), .int (iI bd), .int (iI v35), .long (jL sk)]))] rfl dX0_letCome_36 ?_
      refine k_iconst C dX0_letCome_39 ?_
      exact k_zret C hR (by omega) (u := (1, v35, sk)) rfl (by (try dsimp only) <;> exact (Or.inr ⟨by omega, rfl, by omega, by first | (rw [if_pos c11]; exact s3) | (rw [if_neg c11]; assumption)⟩)) rfl (Nat.le_of_ble_eq_true rfl) (Nat.le_of_ble_eq_true rfl) dX0_letCome_40
    · skip
      refine k_aload_n C 0 rfl dX0_letCome_14 rfl ?_
      refine k_dup C dX0_letCome_15 rfl ?_
      refine k_get C (Cn := RX0) (T := TX0) (N := 5) (ci := 0) (ref := "StruckCounts$Board") in_X0_letCome_X0 0 rfl rfl 4 (by decide) 1 rfl rfl (v := .long (jL sk)) rfl dX0_letCome_16 ?_
      refine k_lconst C dX0_letCome_19 1 (by decide) ?_
      refine k_aload_n C 0 rfl dX0_letCome_20 rfl ?_
      refine k_get C (Cn := RX0) (T := TX0) (N := 5) (ci := 0) (ref := "StruckCounts$Board") in_X0_letCome_X0 0 rfl rfl 3 (by decide) 2 rfl rfl (v := .int (iI cm)) rfl dX0_letCome_21 ?_
      refine k_lshl C ((2 ^ k : Nat) : Int) (by rw [s2]; have := jl_shl 1 (k := (k : Int)) (by omega) (by omega); rw [Int.toNat_natCast, Nat.one_mul] at this; exact this) dX0_letCome_24 ?_
      refine k_nmL (fun v24 e24 => ?_)
      refine k_lor C ((m ||| 2 ^ k : Nat) : Int) (by rw [e24, s3]; exact jl_or m (2 ^ k)) dX0_letCome_25 ?_
      refine k_nmL (fun v25 e25 => ?_)
      refine k_put C (Cn := RX0) (T := TX0) (N := 5) (ci := 0) (ref := "StruckCounts$Board") in_X0_letCome_X0 tyX0 tyX0_ok nmX0 0 rfl rfl 4 (by decide) 1 rfl rfl rfl (v := .long (jL v25)) (rfl) (rfl) (Nat.le_of_ble_eq_true rfl) [(b, .inr (0, [.ref t, .int (iI tl), .int (iI bd), .int (iI cm), .long (jL v25)]))] rfl dX0_letCome_26 ?_
      refine k_aload_n C 0 rfl dX0_letCome_29 rfl ?_
      refine k_dup C dX0_letCome_30 rfl ?_
      refine k_get C (Cn := RX0) (T := TX0) (N := 5) (ci := 0) (ref := "StruckCounts$Board") in_X0_letCome_X0 0 rfl rfl 3 (by decide) 2 rfl rfl (v := .int (iI cm)) rfl dX0_letCome_31 ?_
      refine k_iconst C dX0_letCome_34 ?_
      refine k_iadd C dX0_letCome_35 ?_
      refine k_nmI (fun v35 e35 => ?_)
      refine k_put C (Cn := RX0) (T := TX0) (N := 5) (ci := 0) (ref := "StruckCounts$Board") in_X0_letCome_X0 tyX0 tyX0_ok nmX0 0 rfl rfl 3 (by decide) 2 rfl rfl rfl (v := .int (iI v35)) (rfl) (rfl) (Nat.le_of_ble_eq_true rfl) [(b, .inr (0, [.ref t, .int (iI tl), .int (iI bd), .int (iI v35), .long (jL v25)]))] rfl dX0_letCome_36 ?_
      refine k_iconst C dX0_letCome_39 ?_
      exact k_zret C hR (by omega) (u := (1, v35, v25)) rfl (by (try dsimp only) <;> exact (Or.inr ⟨by omega, rfl, by omega, by first | (rw [if_pos c11]; exact s3) | (rw [if_neg c11]; assumption)⟩)) rfl (Nat.le_of_ble_eq_true rfl) (Nat.le_of_ble_eq_true rfl) dX0_letCome_40
  · skip
    refine k_iconst C dX0_letCome_8 ?_
    exact k_zret C hR (by omega) (u := (0, cm, sk)) rfl (by (try dsimp only) <;> exact (Or.inl ⟨by omega, rfl, rfl, rfl⟩)) rfl (Nat.le_of_ble_eq_true rfl) (Nat.le_of_ble_eq_true rfl) dX0_letCome_9
theorem in_X0_tally_X0 : ∀ w ∈ wsX00, w ∈ wsX0_tally := by decide +kernel
set_option maxHeartbeats 4000000 in
set_option maxRecDepth 100000 in
theorem c_X0_tally (l : Launch) (G : KG) (b t va re su : Nat) (tl tb ts bd cm sk : Int) (n k m : Nat) (fv fr fs : Nat → Int) (hS : BdS n k m bd cm sk) (hT : BdT n k m tl tb ts fv fr fs) : Ct l G yX0_tally wsX0_tally (rmD 3 0 0) [.ref b] [(b, .inr (0, [.ref t, .int (iI tl), .int (iI bd), .int (iI cm), .long (jL sk)])), (t, .inr (3, [.ref va, .ref re, .ref su, .int (iI tb), .int (iI ts)])), (va, .inl (g_I G, 631, .inl (aI fv))), (re, .inl (g_I G, 2524, .inl (aI fr))), (su, .inl (g_J G, 631, .inr (.inl (aL fs))))] (fun u : Int × Int × (Nat → Int) × (Nat → Int) × (Nat → Int) => TlOK n k m u.1 u.2.1 u.2.2.1 u.2.2.2.1 u.2.2.2.2) (fun u : Int × Int × (Nat → Int) × (Nat → Int) × (Nat → Int) => some (.ref t)) (fun u : Int × Int × (Nat → Int) × (Nat → Int) × (Nat → Int) => [(b, .inr (0, [.ref t, .int (iI cm), .int (iI bd), .int (iI cm), .long (jL sk)])), (t, .inr (3, [.ref va, .ref re, .ref su, .int (iI u.1), .int (iI u.2.1)])), (va, .inl (g_I G, 631, .inl (aI u.2.2.1))), (re, .inl (g_I G, 2524, .inl (aI u.2.2.2.1))), (su, .inl (g_J G, 631, .inr (.inl (aL u.2.2.2.2))))]) := by
  refine Ct.of (cc := cX0_tally) (maxL := 1) (ret := (some (.object "StruckCounts$Tally"))) (by decide +kernel) rfl (Nat.le_of_ble_eq_true rfl) ?_
  intro X C hG hL hnm hR
  subst hG
  subst hL
  have C : Cx X cX0_tally RX0 wsX0_tally (some (.object "StruckCounts$Tally")) 1 (rmD 3 0 0) := C
  obtain ⟨s1, s2, s3, s4, s5, s6, s7⟩ := id hS
  have hm64 := m_lt s7 s6
  have htl := BdT_rng hT
  show K_ X 0 0 [(b, .inr (0, [.ref t, .int (iI tl), .int (iI bd), .int (iI cm), .long (jL sk)])), (t, .inr (3, [.ref va, .ref re, .ref su, .int (iI tb), .int (iI ts)])), (va, .inl (g_I (x_G X), 631, .inl (aI fv))), (re, .inl (g_I (x_G X), 2524, .inl (aI fr))), (su, .inl (g_J (x_G X), 631, .inr (.inl (aL fs))))] 0 [(0, .ref b)] []
  refine k_aload_n C 0 rfl dX0_tally_0 rfl ?_
  refine k_get C (Cn := RX0) (T := TX0) (N := 5) (ci := 0) (ref := "StruckCounts$Board") in_X0_tally_X0 0 rfl rfl 1 (by decide) 1 rfl rfl (v := .int (iI tl)) rfl dX0_tally_1 ?_
  refine k_iconst C dX0_tally_4 ?_
  refine k_icmp_ne C 24 (⟨by omega, by omega⟩) (⟨by omega, by omega⟩) dX0_tally_5 (by decide) (fun c5 => ?_) (fun c5 => ?_)
  · skip
    obtain ⟨t0, y1, y2, y3⟩ : ∃ t : Nat, t ≤ k ∧ tl = (t : Int) ∧ TlOK n t m tb ts fv fr fs := by rcases hT with z | z; exact absurd z c5; exact z
    have L24 : ∀ (nf : Nat) (tq : Nat) (tx : Int) (t3 : Int) (t4 : Int) (f1 : Nat → Int) (f2 : Nat → Int) (f3 : Nat → Int), (tx = (tq : Int) ∧ tq ≤ k ∧ TlOK n tq m t3 t4 f1 f2 f3) → k - tq < nf → K_ X 0 0 [(b, .inr (0, [.ref t, .int (iI tx), .int (iI bd), .int (iI cm), .long (jL sk)])), (t, .inr (3, [.ref va, .ref re, .ref su, .int (iI t3), .int (iI t4)])), (va, .inl (g_I (x_G X), 631, .inl (aI f1))), (re, .inl (g_I (x_G X), 2524, .inl (aI f2))), (su, .inl (g_J (x_G X), 631, .inr (.inl (aL f3))))] 24 [(0, .ref b)] [] := by
      intro nf
      induction nf with
      | zero => intro tq tx t3 t4 f1 f2 f3 hI hm; exact absurd hm (Nat.not_lt_zero _)
      | succ nf ih24 =>
        intro tq tx t3 t4 f1 f2 f3 hI24 hm24
        obtain ⟨i1, i2, i3⟩ := hI24
        refine k_aload_n C 0 rfl dX0_tally_24 rfl ?_
        refine k_get C (Cn := RX0) (T := TX0) (N := 5) (ci := 0) (ref := "StruckCounts$Board") in_X0_tally_X0 0 rfl rfl 1 (by decide) 1 rfl rfl (v := .int (iI tx)) rfl dX0_tally_25 ?_
        refine k_aload_n C 0 rfl dX0_tally_28 rfl ?_
        refine k_get C (Cn := RX0) (T := TX0) (N := 5) (ci := 0) (ref := "StruckCounts$Board") in_X0_tally_X0 0 rfl rfl 3 (by decide) 4 rfl rfl (v := .int (iI cm)) rfl dX0_tally_29 ?_
        refine k_icmp_ge C 74 (⟨by omega, by omega⟩) (⟨by omega, by omega⟩) dX0_tally_32 (by decide) (fun c32 => ?_) (fun c32 => ?_)
        · skip
          refine k_aload_n C 0 rfl dX0_tally_74 rfl ?_
          refine k_get C (Cn := RX0) (T := TX0) (N := 5) (ci := 0) (ref := "StruckCounts$Board") in_X0_tally_X0 0 rfl rfl 0 (by decide) 2 rfl rfl (v := .ref t) rfl dX0_tally_75 ?_
          rw [show tx = cm from (by omega)]
          exact k_aret C hR (Or.inl ⟨_, rfl⟩) (u := (t3, t4, f1, f2, f3)) rfl (by (try dsimp only) <;> exact (by have e : tq = k := (by omega); rw [e] at i3; exact i3)) rfl (Nat.le_of_ble_eq_true rfl) (Nat.le_of_ble_eq_true rfl) dX0_tally_78
        · skip
          refine k_aload_n C 0 rfl dX0_tally_35 rfl ?_
          refine k_aload_n C 0 rfl dX0_tally_36 rfl ?_
          refine k_get C (Cn := RX0) (T := TX0) (N := 5) (ci := 0) (ref := "StruckCounts$Board") in_X0_tally_X0 0 rfl rfl 1 (by decide) 1 rfl rfl (v := .int (iI tx)) rfl dX0_tally_37 ?_
          refine k_callV C (y := yX0_hasStruck) [.int (iI tx)] 1 rfl (c_X0_hasStruck (x_l X) (x_G X) b t tx bd cm sk tx m (by omega) (by omega) (by omega)) gX0_tally_X0_hasStruck rfl ⟨rfl, by decide +kernel, by decide +kernel, by decide +kernel⟩ ⟨by decide, by decide⟩ 0 (fs := [.ref t, .int (iI tx), .int (iI bd), .int (iI cm), .long (jL sk)]) rfl rfl rfl [0] (by decide) (wc := [(b, .inr (0, [.ref t, .int (iI tx), .int (iI bd), .int (iI cm), .long (jL sk)]))]) rfl [] rfl (Nat.le_of_ble_eq_true rfl) ⟨Nat.le_of_ble_eq_true rfl, Nat.le_of_ble_eq_true rfl⟩ dX0_tally_40 (fun _ => [(b, .inr (0, [.ref t, .int (iI tx), .int (iI bd), .int (iI cm), .long (jL sk)])), (t, .inr (3, [.ref va, .ref re, .ref su, .int (iI t3), .int (iI t4)])), (va, .inl (g_I (x_G X), 631, .inl (aI f1))), (re, .inl (g_I (x_G X), 2524, .inl (aI f2))), (su, .inl (g_J (x_G X), 631, .inr (.inl (aL f3))))]) (Or.inl (fun _ => ⟨rfl, rfl⟩)) (fun u40 => [.int (iI u40)]) (fun _ => rfl) 0 0 ⟨rfl, rfl⟩ (fun u40 hu40 => ?_)
          refine k_if_eq C 61 (⟨by omega, by omega⟩) dX0_tally_43 (by decide) (fun c43 => ?_) (fun c43 => ?_)
          · skip
            have hu40 := bo_f hu40 c43
            refine k_aload_n C 0 rfl dX0_tally_61 rfl ?_
            refine k_dup C dX0_tally_62 rfl ?_
            refine k_get C (Cn := RX0) (T := TX0) (N := 5) (ci := 0) (ref := "StruckCounts$Board") in_X0_tally_X0 0 rfl rfl 1 (by decide) 1 rfl rfl (v := .int (iI tx)) rfl dX0_tally_63 ?_
            refine k_iconst C dX0_tally_66 ?_
            refine k_iadd C dX0_tally_67 ?_
            refine k_nmI (fun v67 e67 => ?_)
            refine k_put C (Cn := RX0) (T := TX0) (N := 5) (ci := 0) (ref := "StruckCounts$Board") in_X0_tally_X0 tyX0 tyX0_ok nmX0 0 rfl rfl 1 (by decide) 1 rfl rfl rfl (v := .int (iI v67)) (rfl) (rfl) (Nat.le_of_ble_eq_true rfl) [(b, .inr (0, [.ref t, .int (iI v67), .int (iI bd), .int (iI cm), .long (jL sk)])), (t, .inr (3, [.ref va, .ref re, .ref su, .int (iI t3), .int (iI t4)])), (va, .inl (g_I (x_G X), 631, .inl (aI f1))), (re, .inl (g_I (x_G X), 2524, .inl (aI f2))), (su, .inl (g_J (x_G X), 631, .inr (.inl (aL f3))))] rfl dX0_tally_68 ?_
            refine k_goto C 24 dX0_tally_71 (by decide) ?_
            exact ih24 (tq + 1) v67 t3 t4 f1 f2 f3 (⟨by omega, by omega, by first | exact hu58 | (rw [i1, Int.toNat_natCast] at hu40; exact TlOK_spare i3 (by revert hu40; cases m.testBit tq <;> simp))⟩) (by omega)
          · skip
            have hu40 := bo_t hu40 c43
            refine k_aload_n C 0 rfl dX0_tally_46 rfl ?_
            refine k_get C (Cn := RX0) (T := TX0) (N := 5) (ci := 0) (ref := "StruckCounts$Board") in_X0_tally_X0 0 rfl rfl 0 (by decide) 2 rfl rfl (v := .ref t) rfl dX0_tally_47 ?_
            refine k_aload_n C 0 rfl dX0_tally_50 rfl ?_
            refine k_aload_n C 0 rfl dX0_tally_51 rfl ?_
            refine k_get C (Cn := RX0) (T := TX0) (N := 5) (ci := 0) (ref := "StruckCounts$Board") in_X0_tally_X0 0 rfl rfl 1 (by decide) 1 rfl rfl (v := .int (iI tx)) rfl dX0_tally_52 ?_
            refine k_callV C (y := yX0_primeAt) [.int (iI tx)] 1 rfl (c_X0_primeAt (x_l X) (x_G X) b t tx bd cm sk tx (by first | assumption | omega)) gX0_tally_X0_primeAt rfl ⟨rfl, by decide +kernel, by decide +kernel, by decide +kernel⟩ ⟨by decide, by decide⟩ 0 (fs := [.ref t, .int (iI tx), .int (iI bd), .int (iI cm), .long (jL sk)]) rfl rfl rfl [0] (by decide) (wc := [(b, .inr (0, [.ref t, .int (iI tx), .int (iI bd), .int (iI cm), .long (jL sk)]))]) rfl [.ref t] rfl (Nat.le_of_ble_eq_true rfl) ⟨Nat.le_of_ble_eq_true rfl, Nat.le_of_ble_eq_true rfl⟩ dX0_tally_55 (fun _ => [(b, .inr (0, [.ref t, .int (iI tx), .int (iI bd), .int (iI cm), .long (jL sk)])), (t, .inr (3, [.ref va, .ref re, .ref su, .int (iI t3), .int (iI t4)])), (va, .inl (g_I (x_G X), 631, .inl (aI f1))), (re, .inl (g_I (x_G X), 2524, .inl (aI f2))), (su, .inl (g_J (x_G X), 631, .inr (.inl (aL f3))))]) (Or.inl (fun _ => ⟨rfl, rfl⟩)) (fun u55 => [.int (iI u55), .ref t]) (fun _ => rfl) 0 0 ⟨rfl, rfl⟩ (fun u55 hu55 => ?_)
            refine k_callV C (y := yX3_remove) [.int (iI u55)] 1 rfl (c_X3_remove (x_l X) (x_G X) t va re su t3 t4 u55 n tq m f1 f2 f3 (⟨s4, s5⟩) (by omega) (by rw [hu55, i1]; exact pA_in (by omega)) (by rw [i1, Int.toNat_natCast] at hu40; exact hu40) (i3)) gX0_tally_X3_remove rfl ⟨rfl, by decide +kernel, by decide +kernel, by decide +kernel⟩ ⟨by decide, by decide⟩ 1 (fs := [.ref va, .ref re, .ref su, .int (iI t3), .int (iI t4)]) rfl rfl rfl [1, 2, 3, 4] (by decide) (wc := [(t, .inr (3, [.ref va, .ref re, .ref su, .int (iI t3), .int (iI t4)])), (va, .inl (g_I (x_G X), 631, .inl (aI f1))), (re, .inl (g_I (x_G X), 2524, .inl (aI f2))), (su, .inl (g_J (x_G X), 631, .inr (.inl (aL f3))))]) rfl [] rfl (Nat.le_of_ble_eq_true rfl) ⟨Nat.le_of_ble_eq_true rfl, Nat.le_of_ble_eq_true rfl⟩ dX0_tally_58 (fun u58 => [(b, .inr (0, [.ref t, .int (iI tx), .int (iI bd), .int (iI cm), .long (jL sk)])), (t, .inr (3, [.ref va, .ref re, .ref su, .int (iI t3), .int (iI t4)])), (va, .inl (g_I (x_G X), 631, .inl (aI f1))), (re, .inl (g_I (x_G X), 2524, .inl (aI u58.1))), (su, .inl (g_J (x_G X), 631, .inr (.inl (aL u58.2))))]) (Or.inr ⟨[0], [0, 1, 2, 3, 4], [(b, .inr (0, [.ref t, .int (iI tx), .int (iI bd), .int (iI cm), .long (jL sk)]))], rfl, by decide, by decide, by decide, fun _ => rfl⟩) (fun u58 => []) (fun _ => rfl) 0 0 ⟨rfl, rfl⟩ (fun u58 hu58 => ?_)
            refine k_aload_n C 0 rfl dX0_tally_61 rfl ?_
            refine k_dup C dX0_tally_62 rfl ?_
            refine k_get C (Cn := RX0) (T := TX0) (N := 5) (ci := 0) (ref := "StruckCounts$Board") in_X0_tally_X0 0 rfl rfl 1 (by decide) 1 rfl rfl (v := .int (iI tx)) rfl dX0_tally_63 ?_
            refine k_iconst C dX0_tally_66 ?_
            refine k_iadd C dX0_tally_67 ?_
            refine k_nmI (fun v67 e67 => ?_)
            refine k_put C (Cn := RX0) (T := TX0) (N := 5) (ci := 0) (ref := "StruckCounts$Board") in_X0_tally_X0 tyX0 tyX0_ok nmX0 0 rfl rfl 1 (by decide) 1 rfl rfl rfl (v := .int (iI v67)) (rfl) (rfl) (Nat.le_of_ble_eq_true rfl) [(b, .inr (0, [.ref t, .int (iI v67), .int (iI bd), .int (iI cm), .long (jL sk)])), (t, .inr (3, [.ref va, .ref re, .ref su, .int (iI t3), .int (iI t4)])), (va, .inl (g_I (x_G X), 631, .inl (aI f1))), (re, .inl (g_I (x_G X), 2524, .inl (aI u58.1))), (su, .inl (g_J (x_G X), 631, .inr (.inl (aL u58.2))))] rfl dX0_tally_68 ?_
            refine k_goto C 24 dX0_tally_71 (by decide) ?_
            exact ih24 (tq + 1) v67 t3 t4 f1 u58.1 u58.2 (⟨by omega, by omega, by first | exact hu58 | (rw [i1, Int.toNat_natCast] at hu40; exact TlOK_spare i3 (by revert hu40; cases m.testBit tq <;> simp))⟩) (by omega)
    exact L24 _ t0 tl tb ts fv fr fs (⟨y2, y1, y3⟩) (Nat.lt_succ_self _)
  · skip
    refine k_aload_n C 0 rfl dX0_tally_8 rfl ?_
    refine k_get C (Cn := RX0) (T := TX0) (N := 5) (ci := 0) (ref := "StruckCounts$Board") in_X0_tally_X0 0 rfl rfl 0 (by decide) 2 rfl rfl (v := .ref t) rfl dX0_tally_9 ?_
    refine k_aload_n C 0 rfl dX0_tally_12 rfl ?_
    refine k_get C (Cn := RX0) (T := TX0) (N := 5) (ci := 0) (ref := "StruckCounts$Board") in_X0_tally_X0 0 rfl rfl 2 (by decide) 3 rfl rfl (v := .int (iI bd)) rfl dX0_tally_13 ?_
    refine k_callV C (y := yX3_begin) [.int (iI bd)] 1 rfl (c_X3_begin (x_l X) (x_G X) t va re su tb ts bd n m fv fr fs (by omega) (by omega)) gX0_tally_X3_begin rfl ⟨rfl, by decide +kernel, by decide +kernel, by decide +kernel⟩ ⟨by decide, by decide⟩ 1 (fs := [.ref va, .ref re, .ref su, .int (iI tb), .int (iI ts)]) rfl rfl rfl [1, 2, 3, 4] (by decide) (wc := [(t, .inr (3, [.ref va, .ref re, .ref su, .int (iI tb), .int (iI ts)])), (va, .inl (g_I (x_G X), 631, .inl (aI fv))), (re, .inl (g_I (x_G X), 2524, .inl (aI fr))), (su, .inl (g_J (x_G X), 631, .inr (.inl (aL fs))))]) rfl [] rfl (Nat.le_of_ble_eq_true rfl) ⟨Nat.le_of_ble_eq_true rfl, Nat.le_of_ble_eq_true rfl⟩ dX0_tally_16 (fun u16 => [(b, .inr (0, [.ref t, .int (iI tl), .int (iI bd), .int (iI cm), .long (jL sk)])), (t, .inr (3, [.ref va, .ref re, .ref su, .int (iI bd), .int (iI u16.1)])), (va, .inl (g_I (x_G X), 631, .inl (aI u16.2.1))), (re, .inl (g_I (x_G X), 2524, .inl (aI u16.2.2.1))), (su, .inl (g_J (x_G X), 631, .inr (.inl (aL u16.2.2.2))))]) (Or.inr ⟨[0], [0, 1, 2, 3, 4], [(b, .inr (0, [.ref t, .int (iI tl), .int (iI bd), .int (iI cm), .long (jL sk)]))], rfl, by decide, by decide, by decide, fun _ => rfl⟩) (fun u16 => []) (fun _ => rfl) 0 0 ⟨rfl, rfl⟩ (fun u16 hu16 => ?_)
    refine k_aload_n C 0 rfl dX0_tally_19 rfl ?_
    refine k_iconst C dX0_tally_20 ?_
    refine k_put C (Cn := RX0) (T := TX0) (N := 5) (ci := 0) (ref := "StruckCounts$Board") in_X0_tally_X0 tyX0 tyX0_ok nmX0 0 rfl rfl 1 (by decide) 1 rfl rfl rfl (v := .int (iI 0)) (rfl) (rfl) (Nat.le_of_ble_eq_true rfl) [(b, .inr (0, [.ref t, .int (iI 0), .int (iI bd), .int (iI cm), .long (jL sk)])), (t, .inr (3, [.ref va, .ref re, .ref su, .int (iI bd), .int (iI u16.1)])), (va, .inl (g_I (x_G X), 631, .inl (aI u16.2.1))), (re, .inl (g_I (x_G X), 2524, .inl (aI u16.2.2.1))), (su, .inl (g_J (x_G X), 631, .inr (.inl (aL u16.2.2.2))))] rfl dX0_tally_21 ?_
    have L24 : ∀ (nf : Nat) (tq : Nat) (tx : Int) (t3 : Int) (t4 : Int) (f1 : Nat → Int) (f2 : Nat → Int) (f3 : Nat → Int), (tx = (tq : Int) ∧ tq ≤ k ∧ TlOK n tq m t3 t4 f1 f2 f3) → k - tq < nf → K_ X 0 0 [(b, .inr (0, [.ref t, .int (iI tx), .int (iI bd), .int (iI cm), .long (jL sk)])), (t, .inr (3, [.ref va, .ref re, .ref su, .int (iI t3), .int (iI t4)])), (va, .inl (g_I (x_G X), 631, .inl (aI f1))), (re, .inl (g_I (x_G X), 2524, .inl (aI f2))), (su, .inl (g_J (x_G X), 631, .inr (.inl (aL f3))))] 24 [(0, .ref b)] [] := by
      intro nf
      induction nf with
      | zero => intro tq tx t3 t4 f1 f2 f3 hI hm; exact absurd hm (Nat.not_lt_zero _)
      | succ nf ih24 =>
        intro tq tx t3 t4 f1 f2 f3 hI24 hm24
        obtain ⟨i1, i2, i3⟩ := hI24
        refine k_aload_n C 0 rfl dX0_tally_24 rfl ?_
        refine k_get C (Cn := RX0) (T := TX0) (N := 5) (ci := 0) (ref := "StruckCounts$Board") in_X0_tally_X0 0 rfl rfl 1 (by decide) 1 rfl rfl (v := .int (iI tx)) rfl dX0_tally_25 ?_
        refine k_aload_n C 0 rfl dX0_tally_28 rfl ?_
        refine k_get C (Cn := RX0) (T := TX0) (N := 5) (ci := 0) (ref := "StruckCounts$Board") in_X0_tally_X0 0 rfl rfl 3 (by decide) 4 rfl rfl (v := .int (iI cm)) rfl dX0_tally_29 ?_
        refine k_icmp_ge C 74 (⟨by omega, by omega⟩) (⟨by omega, by omega⟩) dX0_tally_32 (by decide) (fun c32 => ?_) (fun c32 => ?_)
        · skip
          refine k_aload_n C 0 rfl dX0_tally_74 rfl ?_
          refine k_get C (Cn := RX0) (T := TX0) (N := 5) (ci := 0) (ref := "StruckCounts$Board") in_X0_tally_X0 0 rfl rfl 0 (by decide) 2 rfl rfl (v := .ref t) rfl dX0_tally_75 ?_
          rw [show tx = cm from (by omega)]
          exact k_aret C hR (Or.inl ⟨_, rfl⟩) (u := (t3, t4, f1, f2, f3)) rfl (by (try dsimp only) <;> exact (by have e : tq = k := (by omega); rw [e] at i3; exact i3)) rfl (Nat.le_of_ble_eq_true rfl) (Nat.le_of_ble_eq_true rfl) dX0_tally_78
        · skip
          refine k_aload_n C 0 rfl dX0_tally_35 rfl ?_
          refine k_aload_n C 0 rfl dX0_tally_36 rfl ?_
          refine k_get C (Cn := RX0) (T := TX0) (N := 5) (ci := 0) (ref := "StruckCounts$Board") in_X0_tally_X0 0 rfl rfl 1 (by decide) 1 rfl rfl (v := .int (iI tx)) rfl dX0_tally_37 ?_
          refine k_callV C (y := yX0_hasStruck) [.int (iI tx)] 1 rfl (c_X0_hasStruck (x_l X) (x_G X) b t tx bd cm sk tx m (by omega) (by omega) (by omega)) gX0_tally_X0_hasStruck rfl ⟨rfl, by decide +kernel, by decide +kernel, by decide +kernel⟩ ⟨by decide, by decide⟩ 0 (fs := [.ref t, .int (iI tx), .int (iI bd), .int (iI cm), .long (jL sk)]) rfl rfl rfl [0] (by decide) (wc := [(b, .inr (0, [.ref t, .int (iI tx), .int (iI bd), .int (iI cm), .long (jL sk)]))]) rfl [] rfl (Nat.le_of_ble_eq_true rfl) ⟨Nat.le_of_ble_eq_true rfl, Nat.le_of_ble_eq_true rfl⟩ dX0_tally_40 (fun _ => [(b, .inr (0, [.ref t, .int (iI tx), .int (iI bd), .int (iI cm), .long (jL sk)])), (t, .inr (3, [.ref va, .ref re, .ref su, .int (iI t3), .int (iI t4)])), (va, .inl (g_I (x_G X), 631, .inl (aI f1))), (re, .inl (g_I (x_G X), 2524, .inl (aI f2))), (su, .inl (g_J (x_G X), 631, .inr (.inl (aL f3))))]) (Or.inl (fun _ => ⟨rfl, rfl⟩)) (fun u40 => [.int (iI u40)]) (fun _ => rfl) 0 0 ⟨rfl, rfl⟩ (fun u40 hu40 => ?_)
          refine k_if_eq C 61 (⟨by omega, by omega⟩) dX0_tally_43 (by decide) (fun c43 => ?_) (fun c43 => ?_)
          · skip
            have hu40 := bo_f hu40 c43
            refine k_aload_n C 0 rfl dX0_tally_61 rfl ?_
            refine k_dup C dX0_tally_62 rfl ?_
            refine k_get C (Cn := RX0) (T := TX0) (N := 5) (ci := 0) (ref := "StruckCounts$Board") in_X0_tally_X0 0 rfl rfl 1 (by decide) 1 rfl rfl (v := .int (iI tx)) rfl dX0_tally_63 ?_
            refine k_iconst C dX0_tally_66 ?_
            refine k_iadd C dX0_tally_67 ?_
            refine k_nmI (fun v67 e67 => ?_)
            refine k_put C (Cn := RX0) (T := TX0) (N := 5) (ci := 0) (ref := "StruckCounts$Board") in_X0_tally_X0 tyX0 tyX0_ok nmX0 0 rfl rfl 1 (by decide) 1 rfl rfl rfl (v := .int (iI v67)) (rfl) (rfl) (Nat.le_of_ble_eq_true rfl) [(b, .inr (0, [.ref t, .int (iI v67), .int (iI bd), .int (iI cm), .long (jL sk)])), (t, .inr (3, [.ref va, .ref re, .ref su, .int (iI t3), .int (iI t4)])), (va, .inl (g_I (x_G X), 631, .inl (aI f1))), (re, .inl (g_I (x_G X), 2524, .inl (aI f2))), (su, .inl (g_J (x_G X), 631, .inr (.inl (aL f3))))] rfl dX0_tally_68 ?_
            refine k_goto C 24 dX0_tally_71 (by decide) ?_
            exact ih24 (tq + 1) v67 t3 t4 f1 f2 f3 (⟨by omega, by omega, by first | exact hu58 | (rw [i1, Int.toNat_natCast] at hu40; exact TlOK_spare i3 (by revert hu40; cases m.testBit tq <;> simp))⟩) (by omega)
          · skip
            have hu40 := bo_t hu40 c43
            refine k_aload_n C 0 rfl dX0_tally_46 rfl ?_
            refine k_get C (Cn := RX0) (T := TX0) (N := 5) (ci := 0) (ref := "StruckCounts$Board") in_X0_tally_X0 0 rfl rfl 0 (by decide) 2 rfl rfl (v := .ref t) rfl dX0_tally_47 ?_
            refine k_aload_n C 0 rfl dX0_tally_50 rfl ?_
            refine k_aload_n C 0 rfl dX0_tally_51 rfl ?_
            refine k_get C (Cn := RX0) (T := TX0) (N := 5) (ci := 0) (ref := "StruckCounts$Board") in_X0_tally_X0 0 rfl rfl 1 (by decide) 1 rfl rfl (v := .int (iI tx)) rfl dX0_tally_52 ?_
            refine k_callV C (y := yX0_primeAt) [.int (iI tx)] 1 rfl (c_X0_primeAt (x_l X) (x_G X) b t tx bd cm sk tx (by first | assumption | omega)) gX0_tally_X0_primeAt rfl ⟨rfl, by decide +kernel, by decide +kernel, by decide +kernel⟩ ⟨by decide, by decide⟩ 0 (fs := [.ref t, .int (iI tx), .int (iI bd), .int (iI cm), .long (jL sk)]) rfl rfl rfl [0] (by decide) (wc := [(b, .inr (0, [.ref t, .int (iI tx), .int (iI bd), .int (iI cm), .long (jL sk)]))]) rfl [.ref t] rfl (Nat.le_of_ble_eq_true rfl) ⟨Nat.le_of_ble_eq_true rfl, Nat.le_of_ble_eq_true rfl⟩ dX0_tally_55 (fun _ => [(b, .inr (0, [.ref t, .int (iI tx), .int (iI bd), .int (iI cm), .long (jL sk)])), (t, .inr (3, [.ref va, .ref re, .ref su, .int (iI t3), .int (iI t4)])), (va, .inl (g_I (x_G X), 631, .inl (aI f1))), (re, .inl (g_I (x_G X), 2524, .inl (aI f2))), (su, .inl (g_J (x_G X), 631, .inr (.inl (aL f3))))]) (Or.inl (fun _ => ⟨rfl, rfl⟩)) (fun u55 => [.int (iI u55), .ref t]) (fun _ => rfl) 0 0 ⟨rfl, rfl⟩ (fun u55 hu55 => ?_)
            refine k_callV C (y := yX3_remove) [.int (iI u55)] 1 rfl (c_X3_remove (x_l X) (x_G X) t va re su t3 t4 u55 n tq m f1 f2 f3 (⟨s4, s5⟩) (by omega) (by rw [hu55, i1]; exact pA_in (by omega)) (by rw [i1, Int.toNat_natCast] at hu40; exact hu40) (i3)) gX0_tally_X3_remove rfl ⟨rfl, by decide +kernel, by decide +kernel, by decide +kernel⟩ ⟨by decide, by decide⟩ 1 (fs := [.ref va, .ref re, .ref su, .int (iI t3), .int (iI t4)]) rfl rfl rfl [1, 2, 3, 4] (by decide) (wc := [(t, .inr (3, [.ref va, .ref re, .ref su, .int (iI t3), .int (iI t4)])), (va, .inl (g_I (x_G X), 631, .inl (aI f1))), (re, .inl (g_I (x_G X), 2524, .inl (aI f2))), (su, .inl (g_J (x_G X), 631, .inr (.inl (aL f3))))]) rfl [] rfl (Nat.le_of_ble_eq_true rfl) ⟨Nat.le_of_ble_eq_true rfl, Nat.le_of_ble_eq_true rfl⟩ dX0_tally_58 (fun u58 => [(b, .inr (0, [.ref t, .int (iI tx), .int (iI bd), .int (iI cm), .long (jL sk)])), (t, .inr (3, [.ref va, .ref re, .ref su, .int (iI t3), .int (iI t4)])), (va, .inl (g_I (x_G X), 631, .inl (aI f1))), (re, .inl (g_I (x_G X), 2524, .inl (aI u58.1))), (su, .inl (g_J (x_G X), 631, .inr (.inl (aL u58.2))))]) (Or.inr ⟨[0], [0, 1, 2, 3, 4], [(b, .inr (0, [.ref t, .int (iI tx), .int (iI bd), .int (iI cm), .long (jL sk)]))], rfl, by decide, by decide, by decide, fun _ => rfl⟩) (fun u58 => []) (fun _ => rfl) 0 0 ⟨rfl, rfl⟩ (fun u58 hu58 => ?_)
            refine k_aload_n C 0 rfl dX0_tally_61 rfl ?_
            refine k_dup C dX0_tally_62 rfl ?_
            refine k_get C (Cn := RX0) (T := TX0) (N := 5) (ci := 0) (ref := "StruckCounts$Board") in_X0_tally_X0 0 rfl rfl 1 (by decide) 1 rfl rfl (v := .int (iI tx)) rfl dX0_tally_63 ?_
            refine k_iconst C dX0_tally_66 ?_
            refine k_iadd C dX0_tally_67 ?_
            refine k_nmI (fun v67 e67 => ?_)
            refine k_put C (Cn := RX0) (T := TX0) (N := 5) (ci := 0) (ref := "StruckCounts$Board") in_X0_tally_X0 tyX0 tyX0_ok nmX0 0 rfl rfl 1 (by decide) 1 rfl rfl rfl (v := .int (iI v67)) (rfl) (rfl) (Nat.le_of_ble_eq_true rfl) [(b, .inr (0, [.ref t, .int (iI v67), .int (iI bd), .int (iI cm), .long (jL sk)])), (t, .inr (3, [.ref va, .ref re, .ref su, .int (iI t3), .int (iI t4)])), (va, .inl (g_I (x_G X), 631, .inl (aI f1))), (re, .inl (g_I (x_G X), 2524, .inl (aI u58.1))), (su, .inl (g_J (x_G X), 631, .inr (.inl (aL u58.2))))] rfl dX0_tally_68 ?_
            refine k_goto C 24 dX0_tally_71 (by decide) ?_
            exact ih24 (tq + 1) v67 t3 t4 f1 u58.1 u58.2 (⟨by omega, by omega, by first | exact hu58 | (rw [i1, Int.toNat_natCast] at hu40; exact TlOK_spare i3 (by revert hu40; cases m.testBit tq <;> simp))⟩) (by omega)
    exact L24 _ 0 0 bd u16.1 u16.2.1 u16.2.2.1 u16.2.2.2 (⟨rfl, Nat.zero_le _, by rw [s1] at hu16; rw [s1]; exact hu16⟩) (Nat.lt_succ_self _)
set_option maxHeartbeats 4000000 in
set_option maxRecDepth 100000 in
theorem c_X0_countLeft (l : Launch) (G : KG) (b t va re su : Nat) (tl tb ts bd cm sk : Int) (n k m : Nat) (fv fr fs : Nat → Int) (hS : BdS n k m bd cm sk) (hT : BdT n k m tl tb ts fv fr fs) : Ct l G yX0_countLeft wsX0_countLeft (rmD 4 0 0) [.ref b] [(b, .inr (0, [.ref t, .int (iI tl), .int (iI bd), .int (iI cm), .long (jL sk)])), (t, .inr (3, [.ref va, .ref re, .ref su, .int (iI tb), .int (iI ts)])), (va, .inl (g_I G, 631, .inl (aI fv))), (re, .inl (g_I G, 2524, .inl (aI fr))), (su, .inl (g_J G, 631, .inr (.inl (aL fs))))] (fun u : Int × Int × Int × (Nat → Int) × (Nat → Int) × (Nat → Int) => TlOK n k m u.2.1 u.2.2.1 u.2.2.2.1 u.2.2.2.2.1 u.2.2.2.2.2 ∧ u.1 = (cA m k n : Int)) (fun u : Int × Int × Int × (Nat → Int) × (Nat → Int) × (Nat → Int) => some (.int (iI u.1))) (fun u : Int × Int × Int × (Nat → Int) × (Nat → Int) × (Nat → Int) => [(b, .inr (0, [.ref t, .int (iI cm), .int (iI bd), .int (iI cm), .long (jL sk)])), (t, .inr (3, [.ref va, .ref re, .ref su, .int (iI u.2.1), .int (iI u.2.2.1)])), (va, .inl (g_I G, 631, .inl (aI u.2.2.2.1))), (re, .inl (g_I G, 2524, .inl (aI u.2.2.2.2.1))), (su, .inl (g_J G, 631, .inr (.inl (aL u.2.2.2.2.2))))]) := by
  refine Ct.of (cc := cX0_countLeft) (maxL := 1) (ret := (some .int)) (by decide +kernel) rfl (Nat.le_of_ble_eq_true rfl) ?_
  intro X C hG hL hnm hR
  subst hG
  subst hL
  have C : Cx X cX0_countLeft RX0 wsX0_countLeft (some .int) 1 (rmD 4 0 0) := C
  obtain ⟨s1, s2, s3, s4, s5, s6, s7⟩ := id hS
  show K_ X 0 0 [(b, .inr (0, [.ref t, .int (iI tl), .int (iI bd), .int (iI cm), .long (jL sk)])), (t, .inr (3, [.ref va, .ref re, .ref su, .int (iI tb), .int (iI ts)])), (va, .inl (g_I (x_G X), 631, .inl (aI fv))), (re, .inl (g_I (x_G X), 2524, .inl (aI fr))), (su, .inl (g_J (x_G X), 631, .inr (.inl (aL fs))))] 0 [(0, .ref b)] []
  refine k_aload_n C 0 rfl dX0_countLeft_0 rfl ?_
  refine k_callV C (y := yX0_tally) [] 0 rfl (c_X0_tally (x_l X) (x_G X) b t va re su tl tb ts bd cm sk n k m fv fr fs (by assumption) (by assumption)) gX0_countLeft_X0_tally rfl ⟨rfl, by decide +kernel, by decide +kernel, by decide +kernel⟩ ⟨by decide, by decide⟩ 0 (fs := [.ref t, .int (iI tl), .int (iI bd), .int (iI cm), .long (jL sk)]) rfl rfl rfl [0, 1, 2, 3, 4] (by decide) (wc := [(b, .inr (0, [.ref t, .int (iI tl), .int (iI bd), .int (iI cm), .long (jL sk)])), (t, .inr (3, [.ref va, .ref re, .ref su, .int (iI tb), .int (iI ts)])), (va, .inl (g_I (x_G X), 631, .inl (aI fv))), (re, .inl (g_I (x_G X), 2524, .inl (aI fr))), (su, .inl (g_J (x_G X), 631, .inr (.inl (aL fs))))]) rfl [] rfl (Nat.le_of_ble_eq_true rfl) ⟨Nat.le_of_ble_eq_true rfl, Nat.le_of_ble_eq_true rfl⟩ dX0_countLeft_1 (fun u1 => [(b, .inr (0, [.ref t, .int (iI cm), .int (iI bd), .int (iI cm), .long (jL sk)])), (t, .inr (3, [.ref va, .ref re, .ref su, .int (iI u1.1), .int (iI u1.2.1)])), (va, .inl (g_I (x_G X), 631, .inl (aI u1.2.2.1))), (re, .inl (g_I (x_G X), 2524, .inl (aI u1.2.2.2.1))), (su, .inl (g_J (x_G X), 631, .inr (.inl (aL u1.2.2.2.2))))]) (Or.inr ⟨[], [0, 1, 2, 3, 4], [], rfl, by decide, by decide, by decide, fun _ => rfl⟩) (fun u1 => [.ref t]) (fun _ => rfl) 0 0 ⟨rfl, rfl⟩ (fun u1 hu1 => ?_)
  refine k_iconst C dX0_countLeft_4 ?_
  refine k_callV C (y := yX3_countAt) [.int (iI 0)] 1 rfl (c_X3_countAt (x_l X) (x_G X) t va re su u1.1 u1.2.1 0 u1.2.2.2.1 (by have := hu1.2.1; have := SZ_631 s5; omega) (by have := hu1.2.1; have := SZ_631 s5; omega)) gX0_countLeft_X3_countAt rfl ⟨rfl, by decide +kernel, by decide +kernel, by decide +kernel⟩ ⟨by decide, by decide⟩ 1 (fs := [.ref va, .ref re, .ref su, .int (iI u1.1), .int (iI u1.2.1)]) rfl rfl rfl [1, 3] (by decide) (wc := [(t, .inr (3, [.ref va, .ref re, .ref su, .int (iI u1.1), .int (iI u1.2.1)])), (re, .inl (g_I (x_G X), 2524, .inl (aI u1.2.2.2.1)))]) rfl [] rfl (Nat.le_of_ble_eq_true rfl) ⟨Nat.le_of_ble_eq_true rfl, Nat.le_of_ble_eq_true rfl⟩ dX0_countLeft_5 (fun _ => [(b, .inr (0, [.ref t, .int (iI cm), .int (iI bd), .int (iI cm), .long (jL sk)])), (t, .inr (3, [.ref va, .ref re, .ref su, .int (iI u1.1), .int (iI u1.2.1)])), (va, .inl (g_I (x_G X), 631, .inl (aI u1.2.2.1))), (re, .inl (g_I (x_G X), 2524, .inl (aI u1.2.2.2.1))), (su, .inl (g_J (x_G X), 631, .inr (.inl (aL u1.2.2.2.2))))]) (Or.inl (fun _ => ⟨rfl, rfl⟩)) (fun u5 => [.int (iI u5)]) (fun _ => rfl) 0 0 ⟨rfl, rfl⟩ (fun u5 hu5 => ?_)
  exact k_iret C hR (u := (u5, u1.1, u1.2.1, u1.2.2.1, u1.2.2.2.1, u1.2.2.2.2)) rfl (by (try dsimp only) <;> exact (⟨hu1, by rw [hu5]; have h := Tl_cnt hu1 (q := 0) (SZ_pos s4); rw [qv_0 s4] at h; exact h⟩)) rfl (Nat.le_of_ble_eq_true rfl) (Nat.le_of_ble_eq_true rfl) dX0_countLeft_8

set_option maxHeartbeats 4000000 in
set_option maxRecDepth 100000 in
theorem c_X0_letStrikeUpTo (l : Launch) (G : KG) (b t : Nat) (tl bd cm sk most : Int) (n k m : Nat) (hS : BdS n k m bd cm sk) (hmost : -2147483648 ≤ most ∧ most < 2147483648) : Ct l G yX0_letStrikeUpTo wsX0_letStrikeUpTo (rmD 3 0 0) [.ref b, .int (iI most)] [(b, .inr (0, [.ref t, .int (iI tl), .int (iI bd), .int (iI cm), .long (jL sk)]))] (fun u : Int × Int × Int => u.1 = (sj n most k : Int) ∧ BdS n (k + sj n most k) (msk m k (sj n most k)) bd u.2.1 u.2.2) (fun u : Int × Int × Int => some (.int (iI u.1))) (fun u : Int × Int × Int => [(b, .inr (0, [.ref t, .int (iI tl), .int (iI bd), .int (iI u.2.1), .long (jL u.2.2)]))]) := by
  refine Ct.of (cc := cX0_letStrikeUpTo) (maxL := 3) (ret := (some .int)) (by decide +kernel) rfl (Nat.le_of_ble_eq_true rfl) ?_
  intro X C hG hL hnm hR
  subst hG
  subst hL
  have C : Cx X cX0_letStrikeUpTo RX0 wsX0_letStrikeUpTo (some .int) 3 (rmD 3 0 0) := C
  show K_ X 0 0 [(b, .inr (0, [.ref t, .int (iI tl), .int (iI bd), .int (iI cm), .long (jL sk)]))] 0 [(0, .ref b), (1, .int (iI most))] []
  refine k_iconst C dX0_letStrikeUpTo_0 ?_
  refine k_istore_n C (lo' := [(2, .int (iI 0)), (0, .ref b), (1, .int (iI most))]) dX0_letStrikeUpTo_1 rfl (by decide) rfl ?_
  have L2 : ∀ (nf : Nat) (j : Nat) (st : Int) (c2 : Int) (s2 : Int), (st = (j : Int) ∧ j ≤ 40 ∧ (∀ i, i < j → nxI n (k + i) ≠ -1 ∧ nxI n (k + i) ≤ most) ∧ BdS n (k + j) (msk m k j) bd c2 s2) → 40 - j < nf → K_ X 0 0 [(b, .inr (0, [.ref t, .int (iI tl), .int (iI bd), .int (iI c2), .long (jL s2)]))] 2 [(2, .int (iI st)), (0, .ref b), (1, .int (iI most))] [] := by
    intro nf
    induction nf with
    | zero => intro j st c2 s2 hI hm; exact absurd hm (Nat.not_lt_zero _)
    | succ nf ih2 =>
      intro j st c2 s2 hI2 hm2
      obtain ⟨i1, i2, i3, i4⟩ := hI2
      have hkj := i4.2.2.2.2.2.1
      refine k_iload_n C 0 rfl dX0_letStrikeUpTo_2 rfl ?_
      refine k_bipush C dX0_letStrikeUpTo_3 (by decide) ?_
      refine k_icmp_ge C 30 (⟨by omega, by omega⟩) (⟨by omega, by omega⟩) dX0_letStrikeUpTo_5 (by decide) (fun c5 => ?_) (fun c5 => ?_)
      · skip
        refine k_iload_n C 0 rfl dX0_letStrikeUpTo_30 rfl ?_
        exact k_iret C hR (u := (st, c2, s2)) rfl (by (try dsimp only) <;> exact (by
            have hR : StoR n most k j := ⟨i3, fun z => by first | omega | (have := (nxI_some z.1).1; omega)⟩
            have e := sj_of hR
            rw [← e]
            first | exact ⟨i1, i4⟩ | (rcases hu18 with z | z; (rw [z.2.2.1, z.2.2.2]; exact ⟨i1, i4⟩); (exact absurd (z.2.1.symm.trans c21) (by decide))))) rfl (Nat.le_of_ble_eq_true rfl) (Nat.le_of_ble_eq_true rfl) dX0_letStrikeUpTo_31
      · skip
        refine k_aload_n C 1 rfl dX0_letStrikeUpTo_8 rfl ?_
        refine k_callV C (y := yX0_nextPrime) [] 0 rfl (c_X0_nextPrime (x_l X) (x_G X) b t tl bd c2 s2 n (k + j) (msk m k j) (by assumption)) gX0_letStrikeUpTo_X0_nextPrime rfl ⟨rfl, by decide +kernel, by decide +kernel, by decide +kernel⟩ ⟨by decide, by decide⟩ 0 (fs := [.ref t, .int (iI tl), .int (iI bd), .int (iI c2), .long (jL s2)]) rfl rfl rfl [0] (by decide) (wc := [(b, .inr (0, [.ref t, .int (iI tl), .int (iI bd), .int (iI c2), .long (jL s2)]))]) rfl [] rfl (Nat.le_of_ble_eq_true rfl) ⟨Nat.le_of_ble_eq_true rfl, Nat.le_of_ble_eq_true rfl⟩ dX0_letStrikeUpTo_9 (fun _ => [(b, .inr (0, [.ref t, .int (iI tl), .int (iI bd), .int (iI c2), .long (jL s2)]))]) (Or.inl (fun _ => ⟨rfl, rfl⟩)) (fun u9 => [.int (iI u9)]) (fun _ => rfl) 0 0 ⟨rfl, rfl⟩ (fun u9 hu9 => ?_)
        have hr := nxI_rng n (k + j)
        refine k_iload_n C 2 rfl dX0_letStrikeUpTo_12 rfl ?_
        refine k_icmp_gt C 30 (⟨by omega, by omega⟩) (⟨by omega, by omega⟩) dX0_letStrikeUpTo_13 (by decide) (fun c13 => ?_) (fun c13 => ?_)
        · skip
          refine k_iload_n C 0 rfl dX0_letStrikeUpTo_30 rfl ?_
          exact k_iret C hR (u := (st, c2, s2)) rfl (by (try dsimp only) <;> exact (by
            have hR : StoR n most k j := ⟨i3, fun z => by first | omega | (have := (nxI_some z.1).1; omega)⟩
            have e := sj_of hR
            rw [← e]
            first | exact ⟨i1, i4⟩ | (rcases hu18 with z | z; (rw [z.2.2.1, z.2.2.2]; exact ⟨i1, i4⟩); (exact absurd (z.2.1.symm.trans c21) (by decide))))) rfl (Nat.le_of_ble_eq_true rfl) (Nat.le_of_ble_eq_true rfl) dX0_letStrikeUpTo_31
        · skip
          refine k_aload_n C 1 rfl dX0_letStrikeUpTo_16 rfl ?_
          refine k_iconst C dX0_letStrikeUpTo_17 ?_
          refine k_callV C (y := yX0_letCome) [.int (iI 1)] 1 rfl (c_X0_letCome (x_l X) (x_G X) b t tl bd c2 s2 1 n (k + j) (msk m k j) (i4) (Or.inr rfl)) gX0_letStrikeUpTo_X0_letCome rfl ⟨rfl, by decide +kernel, by decide +kernel, by decide +kernel⟩ ⟨by decide, by decide⟩ 0 (fs := [.ref t, .int (iI tl), .int (iI bd), .int (iI c2), .long (jL s2)]) rfl rfl rfl [0] (by decide) (wc := [(b, .inr (0, [.ref t, .int (iI tl), .int (iI bd), .int (iI c2), .long (jL s2)]))]) rfl [] rfl (Nat.le_of_ble_eq_true rfl) ⟨Nat.le_of_ble_eq_true rfl, Nat.le_of_ble_eq_true rfl⟩ dX0_letStrikeUpTo_18 (fun u18 => [(b, .inr (0, [.ref t, .int (iI tl), .int (iI bd), .int (iI u18.2.1), .long (jL u18.2.2)]))]) (Or.inr ⟨[], [0], [], rfl, by decide, by decide, by decide, fun _ => rfl⟩) (fun u18 => [.int (iI u18.1)]) (fun _ => rfl) 0 0 ⟨rfl, rfl⟩ (fun u18 hu18 => ?_)
          refine k_if_eq C 30 (⟨by omega, by omega⟩) dX0_letStrikeUpTo_21 (by decide) (fun c21 => ?_) (fun c21 => ?_)
          · skip
            refine k_iload_n C 0 rfl dX0_letStrikeUpTo_30 rfl ?_
            exact k_iret C hR (u := (st, u18.2.1, u18.2.2)) rfl (by (try dsimp only) <;> exact (by
            have hR : StoR n most k j := ⟨i3, fun z => by first | omega | (have := (nxI_some z.1).1; omega)⟩
            have e := sj_of hR
            rw [← e]
            first | exact ⟨i1, i4⟩ | (rcases hu18 with z | z; (rw [z.2.2.1, z.2.2.2]; exact ⟨i1, i4⟩); (exact absurd (z.2.1.symm.trans c21) (by decide))))) rfl (Nat.le_of_ble_eq_true rfl) (Nat.le_of_ble_eq_true rfl) dX0_letStrikeUpTo_31
          · skip
            obtain ⟨z1, z2, z3, z4⟩ := hu18.resolve_left (fun z => c21 z.2.1)
            obtain ⟨v24, e24⟩ : ∃ y : Int, y = st + 1 := ⟨_, rfl⟩
            refine k_iinc C (lo' := [(2, .int (iI v24)), (0, .ref b), (1, .int (iI most))]) 0 rfl dX0_letStrikeUpTo_24 (by decide) v24 e24 rfl ?_
            refine k_goto C 2 dX0_letStrikeUpTo_27 (by decide) ?_
            exact ih2 (j + 1) v24 u18.2.1 u18.2.2 (⟨by omega, by omega, fun i hi => by
                by_cases e : i < j
                · exact i3 i e
                · rw [show i = j by omega, ← hu9]; exact ⟨by omega, by omega⟩, by
                have := BdS_next i4 (s := 1) (cm2 := u18.2.1) (sk2 := u18.2.2) (nxI_some z1).1 z3 z4
                rw [if_neg (by decide)] at this; exact this⟩) (by omega)
  exact L2 _ 0 0 cm sk (⟨rfl, by omega, fun i hi => absurd hi (Nat.not_lt_zero i), hS⟩) (Nat.lt_succ_self _)
