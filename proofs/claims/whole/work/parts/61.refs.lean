set_option maxHeartbeats 4000000 in
set_option maxRecDepth 100000 in
theorem c_X7_in (l : Launch) (G : KG) (v lo hi : Int) (hv : -2147483648 ≤ v ∧ v < 2147483648) (hlo : -2147483648 ≤ lo ∧ lo < 2147483648) (hhi : -2147483648 ≤ hi ∧ hi < 2147483648) : Ct l G yX7_in wsX7_in (rmD 0 0 0) [.int (iI v), .int (iI lo), .int (iI hi)] [] (fun u : Int => (u = 1 ∧ (lo ≤ v ∧ v ≤ hi)) ∨ (u = 0 ∧ ¬ (lo ≤ v ∧ v ≤ hi))) (fun u : Int => some (.int (iI u))) (fun u : Int => []) := by
  refine Ct.of (cc := cX7_in) (maxL := 3) (ret := (some .boolean)) (by decide +kernel) rfl (Nat.le_of_ble_eq_true rfl) ?_
  intro X C hG hL hnm hR
  subst hG
  subst hL
  have C : Cx X cX7_in RX7 wsX7_in (some .boolean) 3 (rmD 0 0 0) := C
  show K_ X 0 0 [] 0 [(0, .int (iI v)), (1, .int (iI lo)), (2, .int (iI hi))] []
  refine k_iload_n C 0 rfl dX7_in_0 rfl ?_
  refine k_iload_n C 1 rfl dX7_in_1 rfl ?_
  refine k_icmp_lt C 14 (⟨by omega, by omega⟩) (⟨by omega, by omega⟩) dX7_in_2 (by decide) (fun c2 => ?_) (fun c2 => ?_)
  · skip
    refine k_iconst C dX7_in_14 ?_
    exact k_zret C hR (by omega) (u := 0) rfl (by omega) rfl (Nat.le_of_ble_eq_true rfl) (Nat.le_of_ble_eq_true rfl) dX7_in_15
  · skip
    refine k_iload_n C 0 rfl dX7_in_5 rfl ?_
    refine k_iload_n C 2 rfl dX7_in_6 rfl ?_
    refine k_icmp_gt C 14 (⟨by omega, by omega⟩) (⟨by omega, by omega⟩) dX7_in_7 (by decide) (fun c7 => ?_) (fun c7 => ?_)
    · skip
      refine k_iconst C dX7_in_14 ?_
      exact k_zret C hR (by omega) (u := 0) rfl (by omega) rfl (Nat.le_of_ble_eq_true rfl) (Nat.le_of_ble_eq_true rfl) dX7_in_15
    · skip
      refine k_iconst C dX7_in_10 ?_
      refine k_goto C 15 dX7_in_11 (by decide) ?_
      exact k_zret C hR (by omega) (u := 1) rfl (by omega) rfl (Nat.le_of_ble_eq_true rfl) (Nat.le_of_ble_eq_true rfl) dX7_in_15
theorem in_X7_thrown_X7 : ∀ w ∈ wsX70, w ∈ wsX7_thrown := by decide +kernel
set_option maxHeartbeats 4000000 in
set_option maxRecDepth 100000 in
theorem c_X7_thrown (l : Launch) (G : KG) (mo s sv tx fa ea go qu : Nat) (st ty th un om : Int)  : Ct l G yX7_thrown wsX7_thrown (rmD 0 0 0) [.ref mo] [(mo, .inr (6, [.ref s, .int (iI st), .ref sv, .ref tx, .int (iI ty), .int (iI th), .ref fa, .ref ea, .ref go, .ref qu, .int (iI un), .int (iI om)]))] (fun u : Unit => True) (fun u : Unit => some (.int (iI th))) (fun u : Unit => [(mo, .inr (6, [.ref s, .int (iI st), .ref sv, .ref tx, .int (iI ty), .int (iI th), .ref fa, .ref ea, .ref go, .ref qu, .int (iI un), .int (iI om)]))]) := by
  refine Ct.of (cc := cX7_thrown) (maxL := 1) (ret := (some .int)) (by decide +kernel) rfl (Nat.le_of_ble_eq_true rfl) ?_
  intro X C hG hL hnm hR
  subst hG
  subst hL
  have C : Cx X cX7_thrown RX7 wsX7_thrown (some .int) 1 (rmD 0 0 0) := C
  show K_ X 0 0 [(mo, .inr (6, [.ref s, .int (iI st), .ref sv, .ref tx, .int (iI ty), .int (iI th), .ref fa, .ref ea, .ref go, .ref qu, .int (iI un), .int (iI om)]))] 0 [(0, .ref mo)] []
  refine k_aload_n C 0 rfl dX7_thrown_0 rfl ?_
  refine k_get C (Cn := RX7) (T := TX7) (N := 12) (ci := 6) (ref := "StruckCountsModel") in_X7_thrown_X7 0 rfl rfl 5 (by decide) 1 rfl rfl (v := .int (iI th)) rfl dX7_thrown_1 ?_
  exact k_iret C hR (u := ()) rfl (by first | trivial | omega) rfl (Nat.le_of_ble_eq_true rfl) (Nat.le_of_ble_eq_true rfl) dX7_thrown_4
theorem in_X7_goes_X7 : ∀ w ∈ wsX70, w ∈ wsX7_goes := by decide +kernel
set_option maxHeartbeats 4000000 in
set_option maxRecDepth 100000 in
theorem c_X7_goes (l : Launch) (G : KG) (mo s sv tx fa ea go qu : Nat) (st ty th un om : Int) (x y : Int) (hx : x = 0 ∨ x = 1) (hy : y = 0 ∨ y = 1) : Ct l G yX7_goes wsX7_goes (rmD 0 0 0) [.ref mo, .int (iI x), .int (iI y)] [(mo, .inr (6, [.ref s, .int (iI st), .ref sv, .ref tx, .int (iI ty), .int (iI th), .ref fa, .ref ea, .ref go, .ref qu, .int (iI un), .int (iI om)]))] (fun u : Int × Int => (u.1 = 1 ∧ u.2 = 0 ∧ x = 1 ∧ y = 1) ∨ (u.1 = 0 ∧ u.2 = 1 ∧ x = 0) ∨ (u.1 = 0 ∧ u.2 = 2 ∧ x = 1 ∧ y = 0)) (fun u : Int × Int => some (.int (iI u.1))) (fun u : Int × Int => [(mo, .inr (6, [.ref s, .int (iI st), .ref sv, .ref tx, .int (iI ty), .int (iI u.2), .ref fa, .ref ea, .ref go, .ref qu, .int (iI un), .int (iI om)]))]) := by
  refine Ct.of (cc := cX7_goes) (maxL := 3) (ret := (some .boolean)) (by decide +kernel) rfl (Nat.le_of_ble_eq_true rfl) ?_
  intro X C hG hL hnm hR
  subst hG
  subst hL
  have C : Cx X cX7_goes RX7 wsX7_goes (some .boolean) 3 (rmD 0 0 0) := C
  show K_ X 0 0 [(mo, .inr (6, [.ref s, .int (iI st), .ref sv, .ref tx, .int (iI ty), .int (iI th), .ref fa, .ref ea, .ref go, .ref qu, .int (iI un), .int (iI om)]))] 0 [(0, .ref mo), (1, .int (iI x)), (2, .int (iI y))] []
  refine k_aload_n C 0 rfl dX7_goes_0 rfl ?_
  refine k_iload_n C 1 rfl dX7_goes_1 rfl ?_
  refine k_if_ne C 9 (⟨by omega, by omega⟩) dX7_goes_2 (by decide) (fun c2 => ?_) (fun c2 => ?_)
  · skip
    refine k_iload_n C 2 rfl dX7_goes_9 rfl ?_
    refine k_if_ne C 17 (⟨by omega, by omega⟩) dX7_goes_10 (by decide) (fun c10 => ?_) (fun c10 => ?_)
    · skip
      refine k_iconst C dX7_goes_17 ?_
      refine k_put C (Cn := RX7) (T := TX7) (N := 12) (ci := 6) (ref := "StruckCountsModel") in_X7_goes_X7 tyX7 tyX7_ok nmX7 0 rfl rfl 5 (by decide) 1 rfl rfl rfl (v := .int (iI 0)) (rfl) (rfl) (Nat.le_of_ble_eq_true rfl) [(mo, .inr (6, [.ref s, .int (iI st), .ref sv, .ref tx, .int (iI ty), .int (iI 0), .ref fa, .ref ea, .ref go, .ref qu, .int (iI un), .int (iI om)]))] rfl dX7_goes_18 ?_
      refine k_aload_n C 0 rfl dX7_goes_21 rfl ?_
      refine k_get C (Cn := RX7) (T := TX7) (N := 12) (ci := 6) (ref := "StruckCountsModel") in_X7_goes_X7 0 rfl rfl 5 (by decide) 1 rfl rfl (v := .int (iI 0)) rfl dX7_goes_22 ?_
      refine k_if_ne C 32 (⟨by omega, by omega⟩) dX7_goes_25 (by decide) (fun c25 => ?_) (fun c25 => ?_)
      · skip
        refine k_iconst C dX7_goes_32 ?_
        exact k_zret C hR (by omega) (u := (0, 0)) rfl (by (try dsimp only) <;> exact (by omega)) rfl (Nat.le_of_ble_eq_true rfl) (Nat.le_of_ble_eq_true rfl) dX7_goes_33
      · skip
        refine k_iconst C dX7_goes_28 ?_
        refine k_goto C 33 dX7_goes_29 (by decide) ?_
        exact k_zret C hR (by omega) (u := (1, 0)) rfl (by (try dsimp only) <;> exact (by omega)) rfl (Nat.le_of_ble_eq_true rfl) (Nat.le_of_ble_eq_true rfl) dX7_goes_33
    · skip
      refine k_iconst C dX7_goes_13 ?_
      refine k_goto C 18 dX7_goes_14 (by decide) ?_
      refine k_put C (Cn := RX7) (T := TX7) (N := 12) (ci := 6) (ref := "StruckCountsModel") in_X7_goes_X7 tyX7 tyX7_ok nmX7 0 rfl rfl 5 (by decide) 1 rfl rfl rfl (v := .int (iI 2)) (rfl) (rfl) (Nat.le_of_ble_eq_true rfl) [(mo, .inr (6, [.ref s, .int (iI st), .ref sv, .ref tx, .int (iI ty), .int (iI 2), .ref fa, .ref ea, .ref go, .ref qu, .int (iI un), .int (iI om)]))] rfl dX7_goes_18 ?_
      refine k_aload_n C 0 rfl dX7_goes_21 rfl ?_
      refine k_get C (Cn := RX7) (T := TX7) (N := 12) (ci := 6) (ref := "StruckCountsModel") in_X7_goes_X7 0 rfl rfl 5 (by decide) 1 rfl rfl (v := .int (iI 2)) rfl dX7_goes_22 ?_
      refine k_if_ne C 32 (⟨by omega, by omega⟩) dX7_goes_25 (by decide) (fun c25 => ?_) (fun c25 => ?_)
      · skip
        refine k_iconst C dX7_goes_32 ?_
        exact k_zret C hR (by omega) (u := (0, 2)) rfl (by (try dsimp only) <;> exact (by omega)) rfl (Nat.le_of_ble_eq_true rfl) (Nat.le_of_ble_eq_true rfl) dX7_goes_33
      · skip
        refine k_iconst C dX7_goes_28 ?_
        refine k_goto C 33 dX7_goes_29 (by decide) ?_
        exact k_zret C hR (by omega) (u := (1, 2)) rfl (by (try dsimp only) <;> exact (by omega)) rfl (Nat.le_of_ble_eq_true rfl) (Nat.le_of_ble_eq_true rfl) dX7_goes_33
  · skip
    refine k_iconst C dX7_goes_5 ?_
    refine k_goto C 18 dX7_goes_6 (by decide) ?_
    refine k_put C (Cn := RX7) (T := TX7) (N := 12) (ci := 6) (ref := "StruckCountsModel") in_X7_goes_X7 tyX7 tyX7_ok nmX7 0 rfl rfl 5 (by decide) 1 rfl rfl rfl (v := .int (iI 1)) (rfl) (rfl) (Nat.le_of_ble_eq_true rfl) [(mo, .inr (6, [.ref s, .int (iI st), .ref sv, .ref tx, .int (iI ty), .int (iI 1), .ref fa, .ref ea, .ref go, .ref qu, .int (iI un), .int (iI om)]))] rfl dX7_goes_18 ?_
    refine k_aload_n C 0 rfl dX7_goes_21 rfl ?_
    refine k_get C (Cn := RX7) (T := TX7) (N := 12) (ci := 6) (ref := "StruckCountsModel") in_X7_goes_X7 0 rfl rfl 5 (by decide) 1 rfl rfl (v := .int (iI 1)) rfl dX7_goes_22 ?_
    refine k_if_ne C 32 (⟨by omega, by omega⟩) dX7_goes_25 (by decide) (fun c25 => ?_) (fun c25 => ?_)
    · skip
      refine k_iconst C dX7_goes_32 ?_
      exact k_zret C hR (by omega) (u := (0, 1)) rfl (by (try dsimp only) <;> exact (by omega)) rfl (Nat.le_of_ble_eq_true rfl) (Nat.le_of_ble_eq_true rfl) dX7_goes_33
    · skip
      refine k_iconst C dX7_goes_28 ?_
      refine k_goto C 33 dX7_goes_29 (by decide) ?_
      exact k_zret C hR (by omega) (u := (1, 1)) rfl (by (try dsimp only) <;> exact (by omega)) rfl (Nat.le_of_ble_eq_true rfl) (Nat.le_of_ble_eq_true rfl) dX7_goes_33
theorem in_X7_next_X7 : ∀ w ∈ wsX70, w ∈ wsX7_next := by decide +kernel
set_option maxHeartbeats 4000000 in
set_option maxRecDepth 100000 in
theorem c_X7_next (l : Launch) (G : KG) (mo s sv tx fa ea go qu : Nat) (st ty th un om : Int) (j : Int) (J : Nat) (n k m : Nat) (fs fe : Nat → Int) (hj : j = (J : Int)) (hJ : J < 18) (hM : MS fs J n k m) (hE : ∀ i : Nat, i < 40 → fe i = (sp i : Int)) : Ct l G yX7_next wsX7_next (rmD 0 0 0) [.ref mo, .int (iI j)] [(mo, .inr (6, [.ref s, .int (iI st), .ref sv, .ref tx, .int (iI ty), .int (iI th), .ref fa, .ref ea, .ref go, .ref qu, .int (iI un), .int (iI om)])), (s, .inl (g_I G, 756, .inl (aI fs))), (ea, .inl (g_I G, 40, .inl (aI fe)))] (fun u : Int => u = nxI n k) (fun u : Int => some (.int (iI u))) (fun u : Int => [(mo, .inr (6, [.ref s, .int (iI st), .ref sv, .ref tx, .int (iI ty), .int (iI th), .ref fa, .ref ea, .ref go, .ref qu, .int (iI un), .int (iI om)])), (s, .inl (g_I G, 756, .inl (aI fs))), (ea, .inl (g_I G, 40, .inl (aI fe)))]) := by
  refine Ct.of (cc := cX7_next) (maxL := 3) (ret := (some .int)) (by decide +kernel) rfl (Nat.le_of_ble_eq_true rfl) ?_
  intro X C hG hL hnm hR
  subst hG
  subst hL
  have C : Cx X cX7_next RX7 wsX7_next (some .int) 3 (rmD 0 0 0) := C
  obtain ⟨m1, m2, m3, m4⟩ := id hM
  have mk : k ≤ 40 := m4.2.2.1
  have mn1 : 1 ≤ n := m4.1
  have mn2 : n ≤ 99999 := m4.2.1
  show K_ X 0 0 [(mo, .inr (6, [.ref s, .int (iI st), .ref sv, .ref tx, .int (iI ty), .int (iI th), .ref fa, .ref ea, .ref go, .ref qu, .int (iI un), .int (iI om)])), (s, .inl (g_I (x_G X), 756, .inl (aI fs))), (ea, .inl (g_I (x_G X), 40, .inl (aI fe)))] 0 [(0, .ref mo), (1, .int (iI j))] []
  refine k_aload_n C 0 rfl dX7_next_0 rfl ?_
  refine k_get C (Cn := RX7) (T := TX7) (N := 12) (ci := 6) (ref := "StruckCountsModel") in_X7_next_X7 0 rfl rfl 0 (by decide) 1 rfl rfl (v := .ref s) rfl dX7_next_1 ?_
  refine k_bipush C dX7_next_4 (by decide) ?_
  refine k_iload_n C 1 rfl dX7_next_6 rfl ?_
  refine k_imul C dX7_next_7 ?_
  refine k_nmI (fun v7 e7 => ?_)
  refine k_iconst C dX7_next_8 ?_
  refine k_iadd C dX7_next_9 ?_
  refine k_nmI (fun v9 e9 => ?_)
  refine k_iald C (f := fs) 1 rfl (⟨by omega, by omega⟩) (by decide) dX7_next_10 ?_
  refine k_nmI (fun v10 e10 => ?_)
  have h1 : v10 = (k : Int) := by rw [e10, show v9.toNat = 42 * J + 1 by omega]; exact m2
  refine k_istore_n C (lo' := [(2, .int (iI v10)), (0, .ref mo), (1, .int (iI j))]) dX7_next_11 rfl (by decide) rfl ?_
  refine k_iload_n C 0 rfl dX7_next_12 rfl ?_
  refine k_bipush C dX7_next_13 (by decide) ?_
  refine k_icmp_ge C 45 (⟨by omega, by omega⟩) (⟨by omega, by omega⟩) dX7_next_15 (by decide) (fun c15 => ?_) (fun c15 => ?_)
  · skip
    refine k_iconst C dX7_next_45 ?_
    exact k_iret C hR (u := (-1)) rfl (by unfold nxI; rw [if_neg (by omega)]) rfl (Nat.le_of_ble_eq_true rfl) (Nat.le_of_ble_eq_true rfl) dX7_next_46
  · skip
    refine k_aload_n C 1 rfl dX7_next_18 rfl ?_
    refine k_get C (Cn := RX7) (T := TX7) (N := 12) (ci := 6) (ref := "StruckCountsModel") in_X7_next_X7 0 rfl rfl 7 (by decide) 2 rfl rfl (v := .ref ea) rfl dX7_next_19 ?_
    refine k_iload_n C 0 rfl dX7_next_22 rfl ?_
    refine k_iald C (f := fe) 2 rfl (⟨by omega, by omega⟩) (by decide) dX7_next_23 ?_
    refine k_nmI (fun v23 e23 => ?_)
    have hs1 := sp_le (show k < 65 by omega)
    have h2 : v23 = (sp k : Int) := by rw [e23, hE _ (by omega), show v10.toNat = k by omega]
    refine k_aload_n C 1 rfl dX7_next_24 rfl ?_
    refine k_get C (Cn := RX7) (T := TX7) (N := 12) (ci := 6) (ref := "StruckCountsModel") in_X7_next_X7 0 rfl rfl 0 (by decide) 1 rfl rfl (v := .ref s) rfl dX7_next_25 ?_
    refine k_bipush C dX7_next_28 (by decide) ?_
    refine k_iload_n C 2 rfl dX7_next_30 rfl ?_
    refine k_imul C dX7_next_31 ?_
    refine k_nmI (fun v31 e31 => ?_)
    refine k_iald C (f := fs) 1 rfl (⟨by omega, by omega⟩) (by decide) dX7_next_32 ?_
    refine k_nmI (fun v32 e32 => ?_)
    have h3 : v32 = (n : Int) := by rw [e32, show v31.toNat = 42 * J by omega]; exact m1
    refine k_icmp_gt C 45 (⟨by omega, by omega⟩) (⟨by omega, by omega⟩) dX7_next_33 (by decide) (fun c33 => ?_) (fun c33 => ?_)
    · skip
      refine k_iconst C dX7_next_45 ?_
      exact k_iret C hR (u := (-1)) rfl (by unfold nxI; rw [if_neg (by omega)]) rfl (Nat.le_of_ble_eq_true rfl) (Nat.le_of_ble_eq_true rfl) dX7_next_46
    · skip
      refine k_aload_n C 1 rfl dX7_next_36 rfl ?_
      refine k_get C (Cn := RX7) (T := TX7) (N := 12) (ci := 6) (ref := "StruckCountsModel") in_X7_next_X7 0 rfl rfl 7 (by decide) 2 rfl rfl (v := .ref ea) rfl dX7_next_37 ?_
      refine k_iload_n C 0 rfl dX7_next_40 rfl ?_
      refine k_iald C (f := fe) 2 rfl (⟨by omega, by omega⟩) (by decide) dX7_next_41 ?_
      refine k_nmI (fun v41 e41 => ?_)
      have h4 : v41 = (sp k : Int) := by rw [e41, hE _ (by omega), show v10.toNat = k by omega]
      refine k_goto C 46 dX7_next_42 (by decide) ?_
      exact k_iret C hR (u := v41) rfl (by unfold nxI; rw [if_pos ⟨by omega, by omega⟩]; exact h4) rfl (Nat.le_of_ble_eq_true rfl) (Nat.le_of_ble_eq_true rfl) dX7_next_46
theorem in_X7_bounds_X7 : ∀ w ∈ wsX70, w ∈ wsX7_bounds := by decide +kernel
set_option maxHeartbeats 4000000 in
set_option maxRecDepth 100000 in
theorem c_X7_bounds (l : Launch) (G : KG) (mo s sv tx fa ea go qu : Nat) (st ty th un om : Int) (j x : Int) (J X9 : Nat) (fs : Nat → Int) (hj : j = (J : Int)) (hJ : J < 18) (hx : x = (X9 : Int)) (hX : 1 ≤ X9 ∧ X9 ≤ 99999) : Ct l G yX7_bounds wsX7_bounds (rmD 0 0 0) [.ref mo, .int (iI j), .int (iI x)] [(mo, .inr (6, [.ref s, .int (iI st), .ref sv, .ref tx, .int (iI ty), .int (iI th), .ref fa, .ref ea, .ref go, .ref qu, .int (iI un), .int (iI om)])), (s, .inl (g_I G, 756, .inl (aI fs)))] (fun u : Nat → Int => MS u J X9 0 0 ∧ MO_ J fs u) (fun u : Nat → Int => none) (fun u : Nat → Int => [(mo, .inr (6, [.ref s, .int (iI st), .ref sv, .ref tx, .int (iI ty), .int (iI th), .ref fa, .ref ea, .ref go, .ref qu, .int (iI un), .int (iI om)])), (s, .inl (g_I G, 756, .inl (aI u)))]) := by
  refine Ct.of (cc := cX7_bounds) (maxL := 3) (ret := none) (by decide +kernel) rfl (Nat.le_of_ble_eq_true rfl) ?_
  intro X C hG hL hnm hR
  subst hG
  subst hL
  have C : Cx X cX7_bounds RX7 wsX7_bounds none 3 (rmD 0 0 0) := C
  show K_ X 0 0 [(mo, .inr (6, [.ref s, .int (iI st), .ref sv, .ref tx, .int (iI ty), .int (iI th), .ref fa, .ref ea, .ref go, .ref qu, .int (iI un), .int (iI om)])), (s, .inl (g_I (x_G X), 756, .inl (aI fs)))] 0 [(0, .ref mo), (1, .int (iI j)), (2, .int (iI x))] []
  refine k_aload_n C 0 rfl dX7_bounds_0 rfl ?_
  refine k_get C (Cn := RX7) (T := TX7) (N := 12) (ci := 6) (ref := "StruckCountsModel") in_X7_bounds_X7 0 rfl rfl 0 (by decide) 1 rfl rfl (v := .ref s) rfl dX7_bounds_1 ?_
  refine k_bipush C dX7_bounds_4 (by decide) ?_
  refine k_iload_n C 1 rfl dX7_bounds_6 rfl ?_
  refine k_imul C dX7_bounds_7 ?_
  refine k_nmI (fun v7 e7 => ?_)
  refine k_iload_n C 2 rfl dX7_bounds_8 rfl ?_
  refine k_iast C (f := fs) 1 rfl (⟨by omega, by omega⟩) (by decide) (fun gg => [(mo, .inr (6, [.ref s, .int (iI st), .ref sv, .ref tx, .int (iI ty), .int (iI th), .ref fa, .ref ea, .ref go, .ref qu, .int (iI un), .int (iI om)])), (s, .inl (g_I (x_G X), 756, .inl (aI gg)))]) (fun _ => rfl) dX7_bounds_9 (fun g9 e9 => ?_)
  refine k_aload_n C 0 rfl dX7_bounds_10 rfl ?_
  refine k_get C (Cn := RX7) (T := TX7) (N := 12) (ci := 6) (ref := "StruckCountsModel") in_X7_bounds_X7 0 rfl rfl 0 (by decide) 1 rfl rfl (v := .ref s) rfl dX7_bounds_11 ?_
  refine k_bipush C dX7_bounds_14 (by decide) ?_
  refine k_iload_n C 1 rfl dX7_bounds_16 rfl ?_
  refine k_imul C dX7_bounds_17 ?_
  refine k_nmI (fun v17 e17 => ?_)
  refine k_iconst C dX7_bounds_18 ?_
  refine k_iadd C dX7_bounds_19 ?_
  refine k_nmI (fun v19 e19 => ?_)
  refine k_iconst C dX7_bounds_20 ?_
  refine k_iast C (f := g9) 1 rfl (⟨by omega, by omega⟩) (by decide) (fun gg => [(mo, .inr (6, [.ref s, .int (iI st), .ref sv, .ref tx, .int (iI ty), .int (iI th), .ref fa, .ref ea, .ref go, .ref qu, .int (iI un), .int (iI om)])), (s, .inl (g_I (x_G X), 756, .inl (aI gg)))]) (fun _ => rfl) dX7_bounds_21 (fun g21 e21 => ?_)
  exact k_vret C hR (u := g21) rfl (MS_bound (g1 := g9) hx hX (by rw [e9, show v7.toNat = 42 * J by omega]) (by rw [e21, show v19.toNat = 42 * J + 1 by omega])) rfl (Nat.le_of_ble_eq_true rfl) (Nat.le_of_ble_eq_true rfl) dX7_bounds_22
theorem in_X7_comes_X7 : ∀ w ∈ wsX70, w ∈ wsX7_comes := by decide +kernel
set_option maxHeartbeats 4000000 in
set_option maxRecDepth 100000 in
theorem c_X7_comes (l : Launch) (G : KG) (mo s sv tx fa ea go qu : Nat) (st ty th un om : Int) (j x : Int) (J : Nat) (n k m : Nat) (fs : Nat → Int) (hj : j = (J : Int)) (hJ : J < 18) (hM : MS fs J n k m) (hk : k < 40) (hx : x = 0 ∨ x = 1) : Ct l G yX7_comes wsX7_comes (rmD 0 0 0) [.ref mo, .int (iI j), .int (iI x)] [(mo, .inr (6, [.ref s, .int (iI st), .ref sv, .ref tx, .int (iI ty), .int (iI th), .ref fa, .ref ea, .ref go, .ref qu, .int (iI un), .int (iI om)])), (s, .inl (g_I G, 756, .inl (aI fs)))] (fun u : Nat → Int => MS u J n (k + 1) (if x = 0 then m else m ||| 2 ^ k) ∧ MO_ J fs u) (fun u : Nat → Int => none) (fun u : Nat → Int => [(mo, .inr (6, [.ref s, .int (iI st), .ref sv, .ref tx, .int (iI ty), .int (iI th), .ref fa, .ref ea, .ref go, .ref qu, .int (iI un), .int (iI om)])), (s, .inl (g_I G, 756, .inl (aI u)))]) := by
  refine Ct.of (cc := cX7_comes) (maxL := 4) (ret := none) (by decide +kernel) rfl (Nat.le_of_ble_eq_true rfl) ?_
  intro X C hG hL hnm hR
  subst hG
  subst hL
  have C : Cx X cX7_comes RX7 wsX7_comes none 4 (rmD 0 0 0) := C
  obtain ⟨m1, m2, m3, m4⟩ := id hM
  have mk : k ≤ 40 := m4.2.2.1
  have mn1 : 1 ≤ n := m4.1
  have mn2 : n ≤ 99999 := m4.2.1
  show K_ X 0 0 [(mo, .inr (6, [.ref s, .int (iI st), .ref sv, .ref tx, .int (iI ty), .int (iI th), .ref fa, .ref ea, .ref go, .ref qu, .int (iI un), .int (iI om)])), (s, .inl (g_I (x_G X), 756, .inl (aI fs)))] 0 [(0, .ref mo), (1, .int (iI j)), (2, .int (iI x))] []
  refine k_bipush C dX7_comes_0 (by decide) ?_
  refine k_iload_n C 1 rfl dX7_comes_2 rfl ?_
  refine k_imul C dX7_comes_3 ?_
  refine k_nmI (fun v3 e3 => ?_)
  refine k_istore_n C (lo' := [(3, .int (iI v3)), (0, .ref mo), (1, .int (iI j)), (2, .int (iI x))]) dX7_comes_4 rfl (by decide) rfl ?_
  refine k_aload_n C 1 rfl dX7_comes_5 rfl ?_
  refine k_get C (Cn := RX7) (T := TX7) (N := 12) (ci := 6) (ref := "StruckCountsModel") in_X7_comes_X7 0 rfl rfl 0 (by decide) 1 rfl rfl (v := .ref s) rfl dX7_comes_6 ?_
  refine k_iload_n C 0 rfl dX7_comes_9 rfl ?_
  refine k_iconst C dX7_comes_10 ?_
  refine k_iadd C dX7_comes_11 ?_
  refine k_nmI (fun v11 e11 => ?_)
  refine k_aload_n C 1 rfl dX7_comes_12 rfl ?_
  refine k_get C (Cn := RX7) (T := TX7) (N := 12) (ci := 6) (ref := "StruckCountsModel") in_X7_comes_X7 0 rfl rfl 0 (by decide) 1 rfl rfl (v := .ref s) rfl dX7_comes_13 ?_
  refine k_iload_n C 0 rfl dX7_comes_16 rfl ?_
  refine k_iconst C dX7_comes_17 ?_
  refine k_iadd C dX7_comes_18 ?_
  refine k_nmI (fun v18 e18 => ?_)
  refine k_iald C (f := fs) 1 rfl (⟨by omega, by omega⟩) (by decide) dX7_comes_19 ?_
  refine k_nmI (fun v19 e19 => ?_)
  have h1 : v19 = (k : Int) := by rw [e19, show v18.toNat = 42 * J + 1 by omega]; exact m2
  refine k_iadd C dX7_comes_20 ?_
  refine k_nmI (fun v20 e20 => ?_)
  refine k_iload_n C 3 rfl dX7_comes_21 rfl ?_
  refine k_iast C (f := fs) 1 rfl (⟨by omega, by omega⟩) (by decide) (fun gg => [(mo, .inr (6, [.ref s, .int (iI st), .ref sv, .ref tx, .int (iI ty), .int (iI th), .ref fa, .ref ea, .ref go, .ref qu, .int (iI un), .int (iI om)])), (s, .inl (g_I (x_G X), 756, .inl (aI gg)))]) (fun _ => rfl) dX7_comes_22 (fun g22 e22 => ?_)
  refine k_aload_n C 1 rfl dX7_comes_23 rfl ?_
  refine k_get C (Cn := RX7) (T := TX7) (N := 12) (ci := 6) (ref := "StruckCountsModel") in_X7_comes_X7 0 rfl rfl 0 (by decide) 1 rfl rfl (v := .ref s) rfl dX7_comes_24 ?_
  refine k_iload_n C 0 rfl dX7_comes_27 rfl ?_
  refine k_iconst C dX7_comes_28 ?_
  refine k_iadd C dX7_comes_29 ?_
  refine k_nmI (fun v29 e29 => ?_)
  refine k_dup2 C dX7_comes_30 rfl rfl ?_
  refine k_iald C (f := g22) 1 rfl (⟨by omega, by omega⟩) (by decide) dX7_comes_31 ?_
  refine k_nmI (fun v31 e31 => ?_)
  have h2 : v31 = (k : Int) := by rw [e31, e22, upI_n (by omega), show v29.toNat = 42 * J + 1 by omega]; exact m2
  refine k_iconst C dX7_comes_32 ?_
  refine k_iadd C dX7_comes_33 ?_
  refine k_nmI (fun v33 e33 => ?_)
  refine k_iast C (f := g22) 1 rfl (⟨by omega, by omega⟩) (by decide) (fun gg => [(mo, .inr (6, [.ref s, .int (iI st), .ref sv, .ref tx, .int (iI ty), .int (iI th), .ref fa, .ref ea, .ref go, .ref qu, .int (iI un), .int (iI om)])), (s, .inl (g_I (x_G X), 756, .inl (aI gg)))]) (fun _ => rfl) dX7_comes_34 (fun g34 e34 => ?_)
  exact k_vret C hR (u := g34) rfl (MS_comes (g1 := g22) (x := v33) hM hk hx (by omega) (by rw [e22, show v20.toNat = 42 * J + 2 + k by omega]) (by rw [e34, show v29.toNat = 42 * J + 1 by omega])) rfl (Nat.le_of_ble_eq_true rfl) (Nat.le_of_ble_eq_true rfl) dX7_comes_35
