def wsI (n k m : Nat) (i : Int) : Int := if nxI n k = -1 then 0 else (cA m k (qv n i.toNat / sp k) : Int)
def tws (x : Nat) : Nat → Int
  | 0 => 0
  | i + 1 => tws x i + (if sp i * sp i ≤ x then (ct isP (x / sp i) : Int) - i else 0)
theorem tws_end {x i : Nat} (h : i < 65 → x < sp i * sp i) : ∀ d, i + d ≤ 65 → tws x (i + d) = tws x i
  | 0, _ => rfl
  | d + 1, hd => by
    have ih := tws_end h d (by omega)
    have e : tws x (i + (d + 1)) = tws x (i + d) + (if sp (i + d) * sp (i + d) ≤ x then (ct isP (x / sp (i + d)) : Int) - ((i + d : Nat) : Int) else 0) := rfl
    rw [e]
    have h1 := h (by omega)
    have h2 : sp i ≤ sp (i + d) := by
      rcases Nat.eq_zero_or_pos d with z | z
      · rw [z]; exact Nat.le_refl _
      · exact Nat.le_of_lt (sp_lt (by omega) (by omega))
    have := Nat.mul_le_mul h2 h2
    rw [if_neg (by omega), ih, Int.add_zero]
theorem tws_step {x i : Nat} (h : sp i * sp i ≤ x) : tws x (i + 1) = tws x i + ((ct isP (x / sp i) : Int) - i) := by
  show tws x i + (if sp i * sp i ≤ x then _ else _) = _
  rw [if_pos h]

theorem in_X6_primes_X6 : ∀ w ∈ wsX60, w ∈ wsX6_primes := by decide +kernel
set_option maxHeartbeats 4000000 in
set_option maxRecDepth 100000 in
theorem c_X6_primes (l : Launch) (G : KG) (sc tx so pr b2 : Nat) (b rw : Nat) (fw : Nat → Int) (x : Int) (hr : RowOK fw) (hx : -2147483648 ≤ x ∧ x < 2147483648) (hfl : l.stackTraces = false) : Cxt l G yX6_primes wsX6_primes (rmD 7 1 6) [.ref sc, .int (iI x)] [(sc, .inr (5, [.ref tx, .ref b, .ref so, .ref pr, .ref b2])), (pr, .inr (1, [.ref rw])), (rw, .inl (g_J G, 782, .inr (.inl (aL fw))))] (fun u : Int => (0 ≤ x ∧ x ≤ 99999) ∧ u = (ct isP x.toNat : Int)) (fun u : Int => some (.int (iI u))) (fun u : Int => [(sc, .inr (5, [.ref tx, .ref b, .ref so, .ref pr, .ref b2])), (pr, .inr (1, [.ref rw])), (rw, .inl (g_J G, 782, .inr (.inl (aL fw))))]) (fun v : Unit => ¬ (0 ≤ x ∧ x ≤ 99999)) (fun v : Unit => "java/lang/IllegalArgumentException") (fun v : Unit => [(sc, .inr (5, [.ref tx, .ref b, .ref so, .ref pr, .ref b2])), (pr, .inr (1, [.ref rw])), (rw, .inl (g_J G, 782, .inr (.inl (aL fw))))]) := by
  refine Cxt.of (cc := cX6_primes) (maxL := 2) (ret := (some .int)) (by decide +kernel) rfl (Nat.le_of_ble_eq_true rfl) ?_
  intro X C hG hL hnm hR hQ htab
  subst hG
  subst hL
  have C : Cx X cX6_primes RX6 wsX6_primes (some .int) 2 (rmD 7 1 6) := C
  have hTh : Thr X (fun v : Unit => ¬ (0 ≤ x ∧ x ≤ 99999)) (fun v : Unit => "java/lang/IllegalArgumentException") (fun v : Unit => [(sc, .inr (5, [.ref tx, .ref b, .ref so, .ref pr, .ref b2])), (pr, .inr (1, [.ref rw])), (rw, .inl (g_J (x_G X), 782, .inr (.inl (aL fw))))]) := ⟨_, by rw [C.R]; exact hQ⟩
  show K_ X 0 0 [(sc, .inr (5, [.ref tx, .ref b, .ref so, .ref pr, .ref b2])), (pr, .inr (1, [.ref rw])), (rw, .inl (g_J (x_G X), 782, .inr (.inl (aL fw))))] 0 [(0, .ref sc), (1, .int (iI x))] []
  refine k_iload_n C 1 rfl dX6_primes_0 rfl ?_
  refine k_iconst C dX6_primes_1 ?_
  refine k_callSx C hTh htab (y := yX6_checkUpToHighest) [.int (iI x), .int (iI 0)] 2 rfl (c_X6_checkUpToHighest (x_l X) (x_G X) x 0 (by omega) (by omega) (hfl)) gX6_primes_X6_checkUpToHighest rfl ⟨by decide +kernel, by decide +kernel, by decide +kernel⟩ ⟨by decide, by decide⟩ [] [0, 1, 2] [0, 1, 2] (by decide) (wc := []) rfl [] rfl (Nat.le_of_ble_eq_true rfl) ⟨Nat.le_of_ble_eq_true rfl, Nat.le_of_ble_eq_true rfl⟩ dX6_primes_2 (fun u2 => [(sc, .inr (5, [.ref tx, .ref b, .ref so, .ref pr, .ref b2])), (pr, .inr (1, [.ref rw])), (rw, .inl (g_J (x_G X), 782, .inr (.inl (aL fw))))]) (fun v => [(sc, .inr (5, [.ref tx, .ref b, .ref so, .ref pr, .ref b2])), (pr, .inr (1, [.ref rw])), (rw, .inl (g_J (x_G X), 782, .inr (.inl (aL fw))))]) (wr := [(sc, .inr (5, [.ref tx, .ref b, .ref so, .ref pr, .ref b2])), (pr, .inr (1, [.ref rw])), (rw, .inl (g_J (x_G X), 782, .inr (.inl (aL fw))))]) rfl (by decide) (by decide) (by decide) (fun _ => rfl) (fun _ => rfl) (fun u2 => []) (fun _ => rfl) 1 6 ⟨rfl, rfl⟩ (fun v hv => ⟨v, rfl, hv, rfl⟩) (fun u2 hu2 => ?_)
  refine k_aload_n C 0 rfl dX6_primes_5 rfl ?_
  refine k_get C (Cn := RX6) (T := TX6) (N := 5) (ci := 5) (ref := "StruckCounts") in_X6_primes_X6 0 rfl rfl 3 (by decide) 1 rfl rfl (v := .ref pr) rfl dX6_primes_6 ?_
  refine k_iload_n C 1 rfl dX6_primes_9 rfl ?_
  refine k_callV C (y := yX1_countUpTo) [.int (iI x)] 1 rfl (c_X1_countUpTo (x_l X) (x_G X) pr rw x fw (by first | assumption | omega) (by first | assumption | omega)) gX6_primes_X1_countUpTo rfl ⟨rfl, by decide +kernel, by decide +kernel, by decide +kernel⟩ ⟨by decide, by decide⟩ 1 (fs := [.ref rw]) rfl rfl rfl [1, 2] (by decide) (wc := [(pr, .inr (1, [.ref rw])), (rw, .inl (g_J (x_G X), 782, .inr (.inl (aL fw))))]) rfl [] rfl (Nat.le_of_ble_eq_true rfl) ⟨Nat.le_of_ble_eq_true rfl, Nat.le_of_ble_eq_true rfl⟩ dX6_primes_10 (fun _ => [(sc, .inr (5, [.ref tx, .ref b, .ref so, .ref pr, .ref b2])), (pr, .inr (1, [.ref rw])), (rw, .inl (g_J (x_G X), 782, .inr (.inl (aL fw))))]) (Or.inl (fun _ => ⟨rfl, rfl⟩)) (fun u10 => [.int (iI u10)]) (fun _ => rfl) 1 6 ⟨rfl, rfl⟩ (fun u10 hu10 => ?_)
  exact k_iret C hR (u := u10) rfl (⟨hu2, hu10⟩) rfl (Nat.le_of_ble_eq_true rfl) (Nat.le_of_ble_eq_true rfl) dX6_primes_13
theorem in_X6_sumOf_X6 : ∀ w ∈ wsX60, w ∈ wsX6_sumOf := by decide +kernel
set_option maxHeartbeats 4000000 in
set_option maxRecDepth 100000 in
theorem c_X6_sumOf (l : Launch) (G : KG) (sc tx so pr b2 : Nat) (b rw : Nat) (fw : Nat → Int) (x : Int) (hr : RowOK fw) (hx : -2147483648 ≤ x ∧ x < 2147483648) (hfl : l.stackTraces = false) : Cxt l G yX6_sumOf wsX6_sumOf (rmD 7 1 6) [.ref sc, .int (iI x)] [(sc, .inr (5, [.ref tx, .ref b, .ref so, .ref pr, .ref b2])), (pr, .inr (1, [.ref rw])), (rw, .inl (g_J G, 782, .inr (.inl (aL fw))))] (fun u : Int => (0 ≤ x ∧ x ≤ 99999) ∧ u = (sm (fun y => if isP y then y else 0) x.toNat : Int)) (fun u : Int => some (.long (jL u))) (fun u : Int => [(sc, .inr (5, [.ref tx, .ref b, .ref so, .ref pr, .ref b2])), (pr, .inr (1, [.ref rw])), (rw, .inl (g_J G, 782, .inr (.inl (aL fw))))]) (fun v : Unit => ¬ (0 ≤ x ∧ x ≤ 99999)) (fun v : Unit => "java/lang/IllegalArgumentException") (fun v : Unit => [(sc, .inr (5, [.ref tx, .ref b, .ref so, .ref pr, .ref b2])), (pr, .inr (1, [.ref rw])), (rw, .inl (g_J G, 782, .inr (.inl (aL fw))))]) := by
  refine Cxt.of (cc := cX6_sumOf) (maxL := 2) (ret := (some .long)) (by decide +kernel) rfl (Nat.le_of_ble_eq_true rfl) ?_
  intro X C hG hL hnm hR hQ htab
  subst hG
  subst hL
  have C : Cx X cX6_sumOf RX6 wsX6_sumOf (some .long) 2 (rmD 7 1 6) := C
  have hTh : Thr X (fun v : Unit => ¬ (0 ≤ x ∧ x ≤ 99999)) (fun v : Unit => "java/lang/IllegalArgumentException") (fun v : Unit => [(sc, .inr (5, [.ref tx, .ref b, .ref so, .ref pr, .ref b2])), (pr, .inr (1, [.ref rw])), (rw, .inl (g_J (x_G X), 782, .inr (.inl (aL fw))))]) := ⟨_, by rw [C.R]; exact hQ⟩
  show K_ X 0 0 [(sc, .inr (5, [.ref tx, .ref b, .ref so, .ref pr, .ref b2])), (pr, .inr (1, [.ref rw])), (rw, .inl (g_J (x_G X), 782, .inr (.inl (aL fw))))] 0 [(0, .ref sc), (1, .int (iI x))] []
  refine k_iload_n C 1 rfl dX6_sumOf_0 rfl ?_
  refine k_iconst C dX6_sumOf_1 ?_
  refine k_callSx C hTh htab (y := yX6_checkUpToHighest) [.int (iI x), .int (iI 0)] 2 rfl (c_X6_checkUpToHighest (x_l X) (x_G X) x 0 (by omega) (by omega) (hfl)) gX6_sumOf_X6_checkUpToHighest rfl ⟨by decide +kernel, by decide +kernel, by decide +kernel⟩ ⟨by decide, by decide⟩ [] [0, 1, 2] [0, 1, 2] (by decide) (wc := []) rfl [] rfl (Nat.le_of_ble_eq_true rfl) ⟨Nat.le_of_ble_eq_true rfl, Nat.le_of_ble_eq_true rfl⟩ dX6_sumOf_2 (fun u2 => [(sc, .inr (5, [.ref tx, .ref b, .ref so, .ref pr, .ref b2])), (pr, .inr (1, [.ref rw])), (rw, .inl (g_J (x_G X), 782, .inr (.inl (aL fw))))]) (fun v => [(sc, .inr (5, [.ref tx, .ref b, .ref so, .ref pr, .ref b2])), (pr, .inr (1, [.ref rw])), (rw, .inl (g_J (x_G X), 782, .inr (.inl (aL fw))))]) (wr := [(sc, .inr (5, [.ref tx, .ref b, .ref so, .ref pr, .ref b2])), (pr, .inr (1, [.ref rw])), (rw, .inl (g_J (x_G X), 782, .inr (.inl (aL fw))))]) rfl (by decide) (by decide) (by decide) (fun _ => rfl) (fun _ => rfl) (fun u2 => []) (fun _ => rfl) 1 6 ⟨rfl, rfl⟩ (fun v hv => ⟨v, rfl, hv, rfl⟩) (fun u2 hu2 => ?_)
  refine k_aload_n C 0 rfl dX6_sumOf_5 rfl ?_
  refine k_get C (Cn := RX6) (T := TX6) (N := 5) (ci := 5) (ref := "StruckCounts") in_X6_sumOf_X6 0 rfl rfl 3 (by decide) 1 rfl rfl (v := .ref pr) rfl dX6_sumOf_6 ?_
  refine k_iload_n C 1 rfl dX6_sumOf_9 rfl ?_
  refine k_callV C (y := yX1_sumUpTo) [.int (iI x)] 1 rfl (c_X1_sumUpTo (x_l X) (x_G X) pr rw x fw (by first | assumption | omega) (by first | assumption | omega)) gX6_sumOf_X1_sumUpTo rfl ⟨rfl, by decide +kernel, by decide +kernel, by decide +kernel⟩ ⟨by decide, by decide⟩ 1 (fs := [.ref rw]) rfl rfl rfl [1, 2] (by decide) (wc := [(pr, .inr (1, [.ref rw])), (rw, .inl (g_J (x_G X), 782, .inr (.inl (aL fw))))]) rfl [] rfl (Nat.le_of_ble_eq_true rfl) ⟨Nat.le_of_ble_eq_true rfl, Nat.le_of_ble_eq_true rfl⟩ dX6_sumOf_10 (fun _ => [(sc, .inr (5, [.ref tx, .ref b, .ref so, .ref pr, .ref b2])), (pr, .inr (1, [.ref rw])), (rw, .inl (g_J (x_G X), 782, .inr (.inl (aL fw))))]) (Or.inl (fun _ => ⟨rfl, rfl⟩)) (fun u10 => [.long (jL u10)]) (fun _ => rfl) 1 6 ⟨rfl, rfl⟩ (fun u10 hu10 => ?_)
  exact k_lret C hR (u := u10) rfl (⟨hu2, hu10⟩) rfl (Nat.le_of_ble_eq_true rfl) (Nat.le_of_ble_eq_true rfl) dX6_sumOf_13
theorem in_X6_inSpan_X6 : ∀ w ∈ wsX60, w ∈ wsX6_inSpan := by decide +kernel
set_option maxHeartbeats 4000000 in
set_option maxRecDepth 100000 in
theorem c_X6_inSpan (l : Launch) (G : KG) (sc tx so pr b2 : Nat) (b rw : Nat) (fw : Nat → Int) (x y : Int) (hr : RowOK fw) (hx : -2147483648 ≤ x ∧ x < 2147483648) (hy : -2147483648 ≤ y ∧ y < 2147483648) (hfl : l.stackTraces = false) : Cxt l G yX6_inSpan wsX6_inSpan (rmD 7 2 12) [.ref sc, .int (iI x), .int (iI y)] [(sc, .inr (5, [.ref tx, .ref b, .ref so, .ref pr, .ref b2])), (pr, .inr (1, [.ref rw])), (rw, .inl (g_J G, 782, .inr (.inl (aL fw))))] (fun u : Int => (0 ≤ x ∧ x ≤ y ∧ y ≤ 99999) ∧ u = (ct isP y.toNat : Int) - (ct isP (x - 1).toNat : Int)) (fun u : Int => some (.int (iI u))) (fun u : Int => [(sc, .inr (5, [.ref tx, .ref b, .ref so, .ref pr, .ref b2])), (pr, .inr (1, [.ref rw])), (rw, .inl (g_J G, 782, .inr (.inl (aL fw))))]) (fun v : Unit => ¬ (0 ≤ x ∧ x ≤ y ∧ y ≤ 99999)) (fun v : Unit => "java/lang/IllegalArgumentException") (fun v : Unit => [(sc, .inr (5, [.ref tx, .ref b, .ref so, .ref pr, .ref b2])), (pr, .inr (1, [.ref rw])), (rw, .inl (g_J G, 782, .inr (.inl (aL fw))))]) := by
  refine Cxt.of (cc := cX6_inSpan) (maxL := 3) (ret := (some .int)) (by decide +kernel) rfl (Nat.le_of_ble_eq_true rfl) ?_
  intro X C hG hL hnm hR hQ htab
  subst hG
  subst hL
  have C : Cx X cX6_inSpan RX6 wsX6_inSpan (some .int) 3 (rmD 7 2 12) := C
  have hTh : Thr X (fun v : Unit => ¬ (0 ≤ x ∧ x ≤ y ∧ y ≤ 99999)) (fun v : Unit => "java/lang/IllegalArgumentException") (fun v : Unit => [(sc, .inr (5, [.ref tx, .ref b, .ref so, .ref pr, .ref b2])), (pr, .inr (1, [.ref rw])), (rw, .inl (g_J (x_G X), 782, .inr (.inl (aL fw))))]) := ⟨_, by rw [C.R]; exact hQ⟩
  show K_ X 0 0 [(sc, .inr (5, [.ref tx, .ref b, .ref so, .ref pr, .ref b2])), (pr, .inr (1, [.ref rw])), (rw, .inl (g_J (x_G X), 782, .inr (.inl (aL fw))))] 0 [(0, .ref sc), (1, .int (iI x)), (2, .int (iI y))] []
  refine k_iload_n C 1 rfl dX6_inSpan_0 rfl ?_
  refine k_iconst C dX6_inSpan_1 ?_
  refine k_callSx C hTh htab (y := yX6_checkUpToHighest) [.int (iI x), .int (iI 0)] 2 rfl (c_X6_checkUpToHighest (x_l X) (x_G X) x 0 (by omega) (by omega) (hfl)) gX6_inSpan_X6_checkUpToHighest rfl ⟨by decide +kernel, by decide +kernel, by decide +kernel⟩ ⟨by decide, by decide⟩ [] [0, 1, 2] [0, 1, 2] (by decide) (wc := []) rfl [] rfl (Nat.le_of_ble_eq_true rfl) ⟨Nat.le_of_ble_eq_true rfl, Nat.le_of_ble_eq_true rfl⟩ dX6_inSpan_2 (fun u2 => [(sc, .inr (5, [.ref tx, .ref b, .ref so, .ref pr, .ref b2])), (pr, .inr (1, [.ref rw])), (rw, .inl (g_J (x_G X), 782, .inr (.inl (aL fw))))]) (fun v => [(sc, .inr (5, [.ref tx, .ref b, .ref so, .ref pr, .ref b2])), (pr, .inr (1, [.ref rw])), (rw, .inl (g_J (x_G X), 782, .inr (.inl (aL fw))))]) (wr := [(sc, .inr (5, [.ref tx, .ref b, .ref so, .ref pr, .ref b2])), (pr, .inr (1, [.ref rw])), (rw, .inl (g_J (x_G X), 782, .inr (.inl (aL fw))))]) rfl (by decide) (by decide) (by decide) (fun _ => rfl) (fun _ => rfl) (fun u2 => []) (fun _ => rfl) 1 6 ⟨rfl, rfl⟩ (fun v hv => ⟨v, rfl, by omega, rfl⟩) (fun u2 hu2 => ?_)
  refine k_iload_n C 2 rfl dX6_inSpan_5 rfl ?_
  refine k_iload_n C 1 rfl dX6_inSpan_6 rfl ?_
  refine k_callSx C hTh htab (y := yX6_checkUpToHighest) [.int (iI y), .int (iI x)] 2 rfl (c_X6_checkUpToHighest (x_l X) (x_G X) y x (by omega) (by omega) (hfl)) gX6_inSpan_X6_checkUpToHighest rfl ⟨by decide +kernel, by decide +kernel, by decide +kernel⟩ ⟨by decide, by decide⟩ [] [0, 1, 2] [0, 1, 2] (by decide) (wc := []) rfl [] rfl (Nat.le_of_ble_eq_true rfl) ⟨Nat.le_of_ble_eq_true rfl, Nat.le_of_ble_eq_true rfl⟩ dX6_inSpan_7 (fun u7 => [(sc, .inr (5, [.ref tx, .ref b, .ref so, .ref pr, .ref b2])), (pr, .inr (1, [.ref rw])), (rw, .inl (g_J (x_G X), 782, .inr (.inl (aL fw))))]) (fun v => [(sc, .inr (5, [.ref tx, .ref b, .ref so, .ref pr, .ref b2])), (pr, .inr (1, [.ref rw])), (rw, .inl (g_J (x_G X), 782, .inr (.inl (aL fw))))]) (wr := [(sc, .inr (5, [.ref tx, .ref b, .ref so, .ref pr, .ref b2])), (pr, .inr (1, [.ref rw])), (rw, .inl (g_J (x_G X), 782, .inr (.inl (aL fw))))]) rfl (by decide) (by decide) (by decide) (fun _ => rfl) (fun _ => rfl) (fun u7 => []) (fun _ => rfl) 2 12 ⟨rfl, rfl⟩ (fun v hv => ⟨v, rfl, by omega, rfl⟩) (fun u7 hu7 => ?_)
  refine k_aload_n C 0 rfl dX6_inSpan_10 rfl ?_
  refine k_get C (Cn := RX6) (T := TX6) (N := 5) (ci := 5) (ref := "StruckCounts") in_X6_inSpan_X6 0 rfl rfl 3 (by decide) 1 rfl rfl (v := .ref pr) rfl dX6_inSpan_11 ?_
  refine k_iload_n C 2 rfl dX6_inSpan_14 rfl ?_
  refine k_callV C (y := yX1_countUpTo) [.int (iI y)] 1 rfl (c_X1_countUpTo (x_l X) (x_G X) pr rw y fw (by first | assumption | omega) (by first | assumption | omega)) gX6_inSpan_X1_countUpTo rfl ⟨rfl, by decide +kernel, by decide +kernel, by decide +kernel⟩ ⟨by decide, by decide⟩ 1 (fs := [.ref rw]) rfl rfl rfl [1, 2] (by decide) (wc := [(pr, .inr (1, [.ref rw])), (rw, .inl (g_J (x_G X), 782, .inr (.inl (aL fw))))]) rfl [] rfl (Nat.le_of_ble_eq_true rfl) ⟨Nat.le_of_ble_eq_true rfl, Nat.le_of_ble_eq_true rfl⟩ dX6_inSpan_15 (fun _ => [(sc, .inr (5, [.ref tx, .ref b, .ref so, .ref pr, .ref b2])), (pr, .inr (1, [.ref rw])), (rw, .inl (g_J (x_G X), 782, .inr (.inl (aL fw))))]) (Or.inl (fun _ => ⟨rfl, rfl⟩)) (fun u15 => [.int (iI u15)]) (fun _ => rfl) 2 12 ⟨rfl, rfl⟩ (fun u15 hu15 => ?_)
  refine k_aload_n C 0 rfl dX6_inSpan_18 rfl ?_
  refine k_get C (Cn := RX6) (T := TX6) (N := 5) (ci := 5) (ref := "StruckCounts") in_X6_inSpan_X6 0 rfl rfl 3 (by decide) 1 rfl rfl (v := .ref pr) rfl dX6_inSpan_19 ?_
  refine k_iload_n C 1 rfl dX6_inSpan_22 rfl ?_
  refine k_iconst C dX6_inSpan_23 ?_
  refine k_isub C dX6_inSpan_24 ?_
  refine k_nmI (fun v24 e24 => ?_)
  refine k_callV C (y := yX1_countUpTo) [.int (iI v24)] 1 rfl (c_X1_countUpTo (x_l X) (x_G X) pr rw v24 fw (by first | assumption | omega) (by first | assumption | omega)) gX6_inSpan_X1_countUpTo rfl ⟨rfl, by decide +kernel, by decide +kernel, by decide +kernel⟩ ⟨by decide, by decide⟩ 1 (fs := [.ref rw]) rfl rfl rfl [1, 2] (by decide) (wc := [(pr, .inr (1, [.ref rw])), (rw, .inl (g_J (x_G X), 782, .inr (.inl (aL fw))))]) rfl [.int (iI u15)] rfl (Nat.le_of_ble_eq_true rfl) ⟨Nat.le_of_ble_eq_true rfl, Nat.le_of_ble_eq_true rfl⟩ dX6_inSpan_25 (fun _ => [(sc, .inr (5, [.ref tx, .ref b, .ref so, .ref pr, .ref b2])), (pr, .inr (1, [.ref rw])), (rw, .inl (g_J (x_G X), 782, .inr (.inl (aL fw))))]) (Or.inl (fun _ => ⟨rfl, rfl⟩)) (fun u25 => [.int (iI u25), .int (iI u15)]) (fun _ => rfl) 2 12 ⟨rfl, rfl⟩ (fun u25 hu25 => ?_)
  refine k_isub C dX6_inSpan_28 ?_
  refine k_nmI (fun v28 e28 => ?_)
  exact k_iret C hR (u := v28) rfl (⟨by omega, by rw [e28, hu15, hu25, e24]⟩) rfl (Nat.le_of_ble_eq_true rfl) (Nat.le_of_ble_eq_true rfl) dX6_inSpan_29
theorem in_X6_byRest_X6 : ∀ w ∈ wsX60, w ∈ wsX6_byRest := by decide +kernel
set_option maxHeartbeats 4000000 in
set_option maxRecDepth 100000 in
theorem c_X6_byRest (l : Launch) (G : KG) (sc tx so pr b2 : Nat) (b rw : Nat) (fw : Nat → Int) (x r : Int) (hr : RowOK fw) (hx : -2147483648 ≤ x ∧ x < 2147483648) (hr : -2147483648 ≤ r ∧ r < 2147483648) (hfl : l.stackTraces = false) : Cxt l G yX6_byRest wsX6_byRest (rmD 7 2 12) [.ref sc, .int (iI x), .int (iI r)] [(sc, .inr (5, [.ref tx, .ref b, .ref so, .ref pr, .ref b2])), (pr, .inr (1, [.ref rw])), (rw, .inl (g_J G, 782, .inr (.inl (aL fw))))] (fun u : Int => ((0 ≤ x ∧ x ≤ 99999) ∧ 0 ≤ r ∧ r ≤ 3) ∧ u = (ct (fun y => isP y && y % 4 == r.toNat) x.toNat : Int)) (fun u : Int => some (.int (iI u))) (fun u : Int => [(sc, .inr (5, [.ref tx, .ref b, .ref so, .ref pr, .ref b2])), (pr, .inr (1, [.ref rw])), (rw, .inl (g_J G, 782, .inr (.inl (aL fw))))]) (fun v : Unit => ¬ ((0 ≤ x ∧ x ≤ 99999) ∧ 0 ≤ r ∧ r ≤ 3)) (fun v : Unit => "java/lang/IllegalArgumentException") (fun v : Unit => [(sc, .inr (5, [.ref tx, .ref b, .ref so, .ref pr, .ref b2])), (pr, .inr (1, [.ref rw])), (rw, .inl (g_J G, 782, .inr (.inl (aL fw))))]) := by
  refine Cxt.of (cc := cX6_byRest) (maxL := 3) (ret := (some .int)) (by decide +kernel) rfl (Nat.le_of_ble_eq_true rfl) ?_
  intro X C hG hL hnm hR hQ htab
  subst hG
  subst hL
  have C : Cx X cX6_byRest RX6 wsX6_byRest (some .int) 3 (rmD 7 2 12) := C
  have hTh : Thr X (fun v : Unit => ¬ ((0 ≤ x ∧ x ≤ 99999) ∧ 0 ≤ r ∧ r ≤ 3)) (fun v : Unit => "java/lang/IllegalArgumentException") (fun v : Unit => [(sc, .inr (5, [.ref tx, .ref b, .ref so, .ref pr, .ref b2])), (pr, .inr (1, [.ref rw])), (rw, .inl (g_J (x_G X), 782, .inr (.inl (aL fw))))]) := ⟨_, by rw [C.R]; exact hQ⟩
  show K_ X 0 0 [(sc, .inr (5, [.ref tx, .ref b, .ref so, .ref pr, .ref b2])), (pr, .inr (1, [.ref rw])), (rw, .inl (g_J (x_G X), 782, .inr (.inl (aL fw))))] 0 [(0, .ref sc), (1, .int (iI x)), (2, .int (iI r))] []
  refine k_iload_n C 1 rfl dX6_byRest_0 rfl ?_
  refine k_iconst C dX6_byRest_1 ?_
  refine k_callSx C hTh htab (y := yX6_checkUpToHighest) [.int (iI x), .int (iI 0)] 2 rfl (c_X6_checkUpToHighest (x_l X) (x_G X) x 0 (by omega) (by omega) (hfl)) gX6_byRest_X6_checkUpToHighest rfl ⟨by decide +kernel, by decide +kernel, by decide +kernel⟩ ⟨by decide, by decide⟩ [] [0, 1, 2] [0, 1, 2] (by decide) (wc := []) rfl [] rfl (Nat.le_of_ble_eq_true rfl) ⟨Nat.le_of_ble_eq_true rfl, Nat.le_of_ble_eq_true rfl⟩ dX6_byRest_2 (fun u2 => [(sc, .inr (5, [.ref tx, .ref b, .ref so, .ref pr, .ref b2])), (pr, .inr (1, [.ref rw])), (rw, .inl (g_J (x_G X), 782, .inr (.inl (aL fw))))]) (fun v => [(sc, .inr (5, [.ref tx, .ref b, .ref so, .ref pr, .ref b2])), (pr, .inr (1, [.ref rw])), (rw, .inl (g_J (x_G X), 782, .inr (.inl (aL fw))))]) (wr := [(sc, .inr (5, [.ref tx, .ref b, .ref so, .ref pr, .ref b2])), (pr, .inr (1, [.ref rw])), (rw, .inl (g_J (x_G X), 782, .inr (.inl (aL fw))))]) rfl (by decide) (by decide) (by decide) (fun _ => rfl) (fun _ => rfl) (fun u2 => []) (fun _ => rfl) 1 6 ⟨rfl, rfl⟩ (fun v hv => ⟨v, rfl, by omega, rfl⟩) (fun u2 hu2 => ?_)
  refine k_iload_n C 2 rfl dX6_byRest_5 rfl ?_
  refine k_iconst C dX6_byRest_6 ?_
  refine k_iconst C dX6_byRest_7 ?_
  refine k_callS C (y := yX6_outside) [.int (iI r), .int (iI 0), .int (iI 3)] 3 rfl (c_X6_outside (x_l X) (x_G X) r 0 3 (by omega) (by omega) (by omega)) gX6_byRest_X6_outside rfl ⟨by decide +kernel, by decide +kernel, by decide +kernel⟩ ⟨by decide, by decide⟩ [] (by decide) (wc := []) rfl [] rfl (Nat.le_of_ble_eq_true rfl) ⟨Nat.le_of_ble_eq_true rfl, Nat.le_of_ble_eq_true rfl⟩ dX6_byRest_8 (fun _ => [(sc, .inr (5, [.ref tx, .ref b, .ref so, .ref pr, .ref b2])), (pr, .inr (1, [.ref rw])), (rw, .inl (g_J (x_G X), 782, .inr (.inl (aL fw))))]) (Or.inl (fun _ => ⟨rfl, rfl⟩)) (fun u8 => [.int (iI u8)]) (fun _ => rfl) 1 6 ⟨rfl, rfl⟩ (fun u8 hu8 => ?_)
  refine k_if_eq C 24 (⟨by omega, by omega⟩) dX6_byRest_11 (by decide) (fun c11 => ?_) (fun c11 => ?_)
  · skip
    have hu8 := bo_f hu8 c11
    refine k_aload_n C 0 rfl dX6_byRest_24 rfl ?_
    refine k_get C (Cn := RX6) (T := TX6) (N := 5) (ci := 5) (ref := "StruckCounts") in_X6_byRest_X6 0 rfl rfl 3 (by decide) 3 rfl rfl (v := .ref pr) rfl dX6_byRest_25 ?_
    refine k_iload_n C 1 rfl dX6_byRest_28 rfl ?_
    refine k_iload_n C 2 rfl dX6_byRest_29 rfl ?_
    refine k_callV C (y := yX1_countByRest) [.int (iI x), .int (iI r)] 2 rfl (c_X1_countByRest (x_l X) (x_G X) pr rw x r fw (by first | assumption | omega) (by first | assumption | omega) (by first | assumption | omega)) gX6_byRest_X1_countByRest rfl ⟨rfl, by decide +kernel, by decide +kernel, by decide +kernel⟩ ⟨by decide, by decide⟩ 1 (fs := [.ref rw]) rfl rfl rfl [1, 2] (by decide) (wc := [(pr, .inr (1, [.ref rw])), (rw, .inl (g_J (x_G X), 782, .inr (.inl (aL fw))))]) rfl [] rfl (Nat.le_of_ble_eq_true rfl) ⟨Nat.le_of_ble_eq_true rfl, Nat.le_of_ble_eq_true rfl⟩ dX6_byRest_30 (fun _ => [(sc, .inr (5, [.ref tx, .ref b, .ref so, .ref pr, .ref b2])), (pr, .inr (1, [.ref rw])), (rw, .inl (g_J (x_G X), 782, .inr (.inl (aL fw))))]) (Or.inl (fun _ => ⟨rfl, rfl⟩)) (fun u30 => [.int (iI u30)]) (fun _ => rfl) 1 6 ⟨rfl, rfl⟩ (fun u30 hu30 => ?_)
    exact k_iret C hR (u := u30) rfl (⟨by omega, hu30⟩) rfl (Nat.le_of_ble_eq_true rfl) (Nat.le_of_ble_eq_true rfl) dX6_byRest_33
  · skip
    have hu8 := bo_t hu8 c11
    exact k_throw C hTh htab hfl rfl 5 rfl 0 rfl 1 2 rfl rfl (by decide +kernel) (by decide +kernel) (by decide +kernel) (by decide +kernel) (by decide +kernel) dX6_byRest_14 dX6_byRest_17 dX6_byRest_18 dX6_byRest_20 dX6_byRest_23 (Nat.le_of_ble_eq_true rfl) (Nat.le_of_ble_eq_true rfl) (Nat.le_of_ble_eq_true rfl) (Nat.le_of_ble_eq_true rfl) () rfl (by first | trivial | omega) rfl
theorem in_X6_prime_X6 : ∀ w ∈ wsX60, w ∈ wsX6_prime := by decide +kernel
set_option maxHeartbeats 4000000 in
set_option maxRecDepth 100000 in
theorem c_X6_prime (l : Launch) (G : KG) (sc tx so pr b2 : Nat) (b rw : Nat) (fw : Nat → Int) (x : Int) (hr : RowOK fw) (hx : -2147483648 ≤ x ∧ x < 2147483648) (hfl : l.stackTraces = false) : Cxt l G yX6_prime wsX6_prime (rmD 7 1 6) [.ref sc, .int (iI x)] [(sc, .inr (5, [.ref tx, .ref b, .ref so, .ref pr, .ref b2])), (pr, .inr (1, [.ref rw])), (rw, .inl (g_J G, 782, .inr (.inl (aL fw))))] (fun u : Int => (1 ≤ x ∧ x ≤ 9592) ∧ ∃ p : Nat, u = (p : Int) ∧ isP p = true ∧ ct isP p = x.toNat ∧ p ≤ 99999) (fun u : Int => some (.int (iI u))) (fun u : Int => [(sc, .inr (5, [.ref tx, .ref b, .ref so, .ref pr, .ref b2])), (pr, .inr (1, [.ref rw])), (rw, .inl (g_J G, 782, .inr (.inl (aL fw))))]) (fun v : Unit => ¬ (1 ≤ x ∧ x ≤ 9592)) (fun v : Unit => "java/lang/IllegalArgumentException") (fun v : Unit => [(sc, .inr (5, [.ref tx, .ref b, .ref so, .ref pr, .ref b2])), (pr, .inr (1, [.ref rw])), (rw, .inl (g_J G, 782, .inr (.inl (aL fw))))]) := by
  refine Cxt.of (cc := cX6_prime) (maxL := 2) (ret := (some .int)) (by decide +kernel) rfl (Nat.le_of_ble_eq_true rfl) ?_
  intro X C hG hL hnm hR hQ htab
  subst hG
  subst hL
  have C : Cx X cX6_prime RX6 wsX6_prime (some .int) 2 (rmD 7 1 6) := C
  have hTh : Thr X (fun v : Unit => ¬ (1 ≤ x ∧ x ≤ 9592)) (fun v : Unit => "java/lang/IllegalArgumentException") (fun v : Unit => [(sc, .inr (5, [.ref tx, .ref b, .ref so, .ref pr, .ref b2])), (pr, .inr (1, [.ref rw])), (rw, .inl (g_J (x_G X), 782, .inr (.inl (aL fw))))]) := ⟨_, by rw [C.R]; exact hQ⟩
  show K_ X 0 0 [(sc, .inr (5, [.ref tx, .ref b, .ref so, .ref pr, .ref b2])), (pr, .inr (1, [.ref rw])), (rw, .inl (g_J (x_G X), 782, .inr (.inl (aL fw))))] 0 [(0, .ref sc), (1, .int (iI x))] []
  refine k_iload_n C 1 rfl dX6_prime_0 rfl ?_
  refine k_iconst C dX6_prime_1 ?_
  refine k_sipush C dX6_prime_2 (by decide) ?_
  refine k_callS C (y := yX6_outside) [.int (iI x), .int (iI 1), .int (iI 9592)] 3 rfl (c_X6_outside (x_l X) (x_G X) x 1 9592 (by omega) (by omega) (by omega)) gX6_prime_X6_outside rfl ⟨by decide +kernel, by decide +kernel, by decide +kernel⟩ ⟨by decide, by decide⟩ [] (by decide) (wc := []) rfl [] rfl (Nat.le_of_ble_eq_true rfl) ⟨Nat.le_of_ble_eq_true rfl, Nat.le_of_ble_eq_true rfl⟩ dX6_prime_5 (fun _ => [(sc, .inr (5, [.ref tx, .ref b, .ref so, .ref pr, .ref b2])), (pr, .inr (1, [.ref rw])), (rw, .inl (g_J (x_G X), 782, .inr (.inl (aL fw))))]) (Or.inl (fun _ => ⟨rfl, rfl⟩)) (fun u5 => [.int (iI u5)]) (fun _ => rfl) 0 0 ⟨rfl, rfl⟩ (fun u5 hu5 => ?_)
  refine k_if_eq C 21 (⟨by omega, by omega⟩) dX6_prime_8 (by decide) (fun c8 => ?_) (fun c8 => ?_)
  · skip
    have hu5 := bo_f hu5 c8
    refine k_aload_n C 0 rfl dX6_prime_21 rfl ?_
    refine k_get C (Cn := RX6) (T := TX6) (N := 5) (ci := 5) (ref := "StruckCounts") in_X6_prime_X6 0 rfl rfl 3 (by decide) 3 rfl rfl (v := .ref pr) rfl dX6_prime_22 ?_
    refine k_iload_n C 1 rfl dX6_prime_25 rfl ?_
    refine k_callV C (y := yX1_ofRank) [.int (iI x)] 1 rfl (c_X1_ofRank (x_l X) (x_G X) pr rw x x.toNat fw (by first | assumption | omega) (by first | assumption | omega) (by first | assumption | omega)) gX6_prime_X1_ofRank rfl ⟨rfl, by decide +kernel, by decide +kernel, by decide +kernel⟩ ⟨by decide, by decide⟩ 1 (fs := [.ref rw]) rfl rfl rfl [1, 2] (by decide) (wc := [(pr, .inr (1, [.ref rw])), (rw, .inl (g_J (x_G X), 782, .inr (.inl (aL fw))))]) rfl [] rfl (Nat.le_of_ble_eq_true rfl) ⟨Nat.le_of_ble_eq_true rfl, Nat.le_of_ble_eq_true rfl⟩ dX6_prime_26 (fun _ => [(sc, .inr (5, [.ref tx, .ref b, .ref so, .ref pr, .ref b2])), (pr, .inr (1, [.ref rw])), (rw, .inl (g_J (x_G X), 782, .inr (.inl (aL fw))))]) (Or.inl (fun _ => ⟨rfl, rfl⟩)) (fun u26 => [.int (iI u26)]) (fun _ => rfl) 0 0 ⟨rfl, rfl⟩ (fun u26 hu26 => ?_)
    exact k_iret C hR (u := u26) rfl (⟨by omega, hu26⟩) rfl (Nat.le_of_ble_eq_true rfl) (Nat.le_of_ble_eq_true rfl) dX6_prime_29
  · skip
    have hu5 := bo_t hu5 c8
    exact k_throw C hTh htab hfl rfl 12 rfl 0 rfl 1 2 rfl rfl (by decide +kernel) (by decide +kernel) (by decide +kernel) (by decide +kernel) (by decide +kernel) dX6_prime_11 dX6_prime_14 dX6_prime_15 dX6_prime_17 dX6_prime_20 (Nat.le_of_ble_eq_true rfl) (Nat.le_of_ble_eq_true rfl) (Nat.le_of_ble_eq_true rfl) (Nat.le_of_ble_eq_true rfl) () rfl (by first | trivial | omega) rfl
set_option maxHeartbeats 4000000 in
set_option maxRecDepth 100000 in
theorem c_X6_leastFactor (l : Launch) (G : KG) (sc tx so pr b2 : Nat) (b rw : Nat) (fw : Nat → Int) (x : Int) (hx : -2147483648 ≤ x ∧ x < 2147483648) (hfl : l.stackTraces = false) : Cxt l G yX6_leastFactor wsX6_leastFactor (rmD 7 1 6) [.ref sc, .int (iI x)] [(sc, .inr (5, [.ref tx, .ref b, .ref so, .ref pr, .ref b2])), (pr, .inr (1, [.ref rw])), (rw, .inl (g_J G, 782, .inr (.inl (aL fw))))] (fun u : Int => (2 ≤ x ∧ x ≤ 99999) ∧ u = (lf x.toNat : Int)) (fun u : Int => some (.int (iI u))) (fun u : Int => [(sc, .inr (5, [.ref tx, .ref b, .ref so, .ref pr, .ref b2])), (pr, .inr (1, [.ref rw])), (rw, .inl (g_J G, 782, .inr (.inl (aL fw))))]) (fun v : Unit => ¬ (2 ≤ x ∧ x ≤ 99999)) (fun v : Unit => "java/lang/IllegalArgumentException") (fun v : Unit => [(sc, .inr (5, [.ref tx, .ref b, .ref so, .ref pr, .ref b2])), (pr, .inr (1, [.ref rw])), (rw, .inl (g_J G, 782, .inr (.inl (aL fw))))]) := by
  refine Cxt.of (cc := cX6_leastFactor) (maxL := 2) (ret := (some .int)) (by decide +kernel) rfl (Nat.le_of_ble_eq_true rfl) ?_
  intro X C hG hL hnm hR hQ htab
  subst hG
  subst hL
  have C : Cx X cX6_leastFactor RX6 wsX6_leastFactor (some .int) 2 (rmD 7 1 6) := C
  have hTh : Thr X (fun v : Unit => ¬ (2 ≤ x ∧ x ≤ 99999)) (fun v : Unit => "java/lang/IllegalArgumentException") (fun v : Unit => [(sc, .inr (5, [.ref tx, .ref b, .ref so, .ref pr, .ref b2])), (pr, .inr (1, [.ref rw])), (rw, .inl (g_J (x_G X), 782, .inr (.inl (aL fw))))]) := ⟨_, by rw [C.R]; exact hQ⟩
  show K_ X 0 0 [(sc, .inr (5, [.ref tx, .ref b, .ref so, .ref pr, .ref b2])), (pr, .inr (1, [.ref rw])), (rw, .inl (g_J (x_G X), 782, .inr (.inl (aL fw))))] 0 [(0, .ref sc), (1, .int (iI x))] []
  refine k_iload_n C 1 rfl dX6_leastFactor_0 rfl ?_
  refine k_iconst C dX6_leastFactor_1 ?_
  refine k_callSx C hTh htab (y := yX6_checkUpToHighest) [.int (iI x), .int (iI 2)] 2 rfl (c_X6_checkUpToHighest (x_l X) (x_G X) x 2 (by omega) (by omega) (hfl)) gX6_leastFactor_X6_checkUpToHighest rfl ⟨by decide +kernel, by decide +kernel, by decide +kernel⟩ ⟨by decide, by decide⟩ [] [0, 1, 2] [0, 1, 2] (by decide) (wc := []) rfl [] rfl (Nat.le_of_ble_eq_true rfl) ⟨Nat.le_of_ble_eq_true rfl, Nat.le_of_ble_eq_true rfl⟩ dX6_leastFactor_2 (fun u2 => [(sc, .inr (5, [.ref tx, .ref b, .ref so, .ref pr, .ref b2])), (pr, .inr (1, [.ref rw])), (rw, .inl (g_J (x_G X), 782, .inr (.inl (aL fw))))]) (fun v => [(sc, .inr (5, [.ref tx, .ref b, .ref so, .ref pr, .ref b2])), (pr, .inr (1, [.ref rw])), (rw, .inl (g_J (x_G X), 782, .inr (.inl (aL fw))))]) (wr := [(sc, .inr (5, [.ref tx, .ref b, .ref so, .ref pr, .ref b2])), (pr, .inr (1, [.ref rw])), (rw, .inl (g_J (x_G X), 782, .inr (.inl (aL fw))))]) rfl (by decide) (by decide) (by decide) (fun _ => rfl) (fun _ => rfl) (fun u2 => []) (fun _ => rfl) 1 6 ⟨rfl, rfl⟩ (fun v hv => ⟨v, rfl, hv, rfl⟩) (fun u2 hu2 => ?_)
  refine k_iload_n C 1 rfl dX6_leastFactor_5 rfl ?_
  refine k_callS C (y := yX1_leastDividing) [.int (iI x)] 1 rfl (c_X1_leastDividing (x_l X) (x_G X) x x.toNat (by omega) (by omega)) gX6_leastFactor_X1_leastDividing rfl ⟨by decide +kernel, by decide +kernel, by decide +kernel⟩ ⟨by decide, by decide⟩ [] (by decide) (wc := []) rfl [] rfl (Nat.le_of_ble_eq_true rfl) ⟨Nat.le_of_ble_eq_true rfl, Nat.le_of_ble_eq_true rfl⟩ dX6_leastFactor_6 (fun _ => [(sc, .inr (5, [.ref tx, .ref b, .ref so, .ref pr, .ref b2])), (pr, .inr (1, [.ref rw])), (rw, .inl (g_J (x_G X), 782, .inr (.inl (aL fw))))]) (Or.inl (fun _ => ⟨rfl, rfl⟩)) (fun u6 => [.int (iI u6)]) (fun _ => rfl) 1 6 ⟨rfl, rfl⟩ (fun u6 hu6 => ?_)
  exact k_iret C hR (u := u6) rfl (⟨hu2, hu6⟩) rfl (Nat.le_of_ble_eq_true rfl) (Nat.le_of_ble_eq_true rfl) dX6_leastFactor_9
theorem in_X6_twoFactors_X6 : ∀ w ∈ wsX60, w ∈ wsX6_twoFactors := by decide +kernel
set_option maxHeartbeats 4000000 in
set_option maxRecDepth 100000 in
theorem c_X6_twoFactors (l : Launch) (G : KG) (sc tx so pr b2 : Nat) (b rw : Nat) (fw : Nat → Int) (x : Int) (hr : RowOK fw) (hx : -2147483648 ≤ x ∧ x < 2147483648) (hfl : l.stackTraces = false) : Cxt l G yX6_twoFactors wsX6_twoFactors (rmD 7 1 6) [.ref sc, .int (iI x)] [(sc, .inr (5, [.ref tx, .ref b, .ref so, .ref pr, .ref b2])), (pr, .inr (1, [.ref rw])), (rw, .inl (g_J G, 782, .inr (.inl (aL fw))))] (fun u : Int => (0 ≤ x ∧ x ≤ 99999) ∧ u = tws x.toNat 65) (fun u : Int => some (.int (iI u))) (fun u : Int => [(sc, .inr (5, [.ref tx, .ref b, .ref so, .ref pr, .ref b2])), (pr, .inr (1, [.ref rw])), (rw, .inl (g_J G, 782, .inr (.inl (aL fw))))]) (fun v : Unit => ¬ (0 ≤ x ∧ x ≤ 99999)) (fun v : Unit => "java/lang/IllegalArgumentException") (fun v : Unit => [(sc, .inr (5, [.ref tx, .ref b, .ref so, .ref pr, .ref b2])), (pr, .inr (1, [.ref rw])), (rw, .inl (g_J G, 782, .inr (.inl (aL fw))))]) := by
  refine Cxt.of (cc := cX6_twoFactors) (maxL := 5) (ret := (some .int)) (by decide +kernel) rfl (Nat.le_of_ble_eq_true rfl) ?_
  intro X C hG hL hnm hR hQ htab
  subst hG
  subst hL
  have C : Cx X cX6_twoFactors RX6 wsX6_twoFactors (some .int) 5 (rmD 7 1 6) := C
  have hTh : Thr X (fun v : Unit => ¬ (0 ≤ x ∧ x ≤ 99999)) (fun v : Unit => "java/lang/IllegalArgumentException") (fun v : Unit => [(sc, .inr (5, [.ref tx, .ref b, .ref so, .ref pr, .ref b2])), (pr, .inr (1, [.ref rw])), (rw, .inl (g_J (x_G X), 782, .inr (.inl (aL fw))))]) := ⟨_, by rw [C.R]; exact hQ⟩
  show K_ X 0 0 [(sc, .inr (5, [.ref tx, .ref b, .ref so, .ref pr, .ref b2])), (pr, .inr (1, [.ref rw])), (rw, .inl (g_J (x_G X), 782, .inr (.inl (aL fw))))] 0 [(0, .ref sc), (1, .int (iI x))] []
  refine k_iload_n C 1 rfl dX6_twoFactors_0 rfl ?_
  refine k_iconst C dX6_twoFactors_1 ?_
  refine k_callSx C hTh htab (y := yX6_checkUpToHighest) [.int (iI x), .int (iI 0)] 2 rfl (c_X6_checkUpToHighest (x_l X) (x_G X) x 0 (by omega) (by omega) (hfl)) gX6_twoFactors_X6_checkUpToHighest rfl ⟨by decide +kernel, by decide +kernel, by decide +kernel⟩ ⟨by decide, by decide⟩ [] [0, 1, 2] [0, 1, 2] (by decide) (wc := []) rfl [] rfl (Nat.le_of_ble_eq_true rfl) ⟨Nat.le_of_ble_eq_true rfl, Nat.le_of_ble_eq_true rfl⟩ dX6_twoFactors_2 (fun u2 => [(sc, .inr (5, [.ref tx, .ref b, .ref so, .ref pr, .ref b2])), (pr, .inr (1, [.ref rw])), (rw, .inl (g_J (x_G X), 782, .inr (.inl (aL fw))))]) (fun v => [(sc, .inr (5, [.ref tx, .ref b, .ref so, .ref pr, .ref b2])), (pr, .inr (1, [.ref rw])), (rw, .inl (g_J (x_G X), 782, .inr (.inl (aL fw))))]) (wr := [(sc, .inr (5, [.ref tx, .ref b, .ref so, .ref pr, .ref b2])), (pr, .inr (1, [.ref rw])), (rw, .inl (g_J (x_G X), 782, .inr (.inl (aL fw))))]) rfl (by decide) (by decide) (by decide) (fun _ => rfl) (fun _ => rfl) (fun u2 => []) (fun _ => rfl) 1 6 ⟨rfl, rfl⟩ (fun v hv => ⟨v, rfl, hv, rfl⟩) (fun u2 hu2 => ?_)
  refine k_iconst C dX6_twoFactors_5 ?_
  refine k_istore_n C (lo' := [(2, .int (iI 0)), (0, .ref sc), (1, .int (iI x))]) dX6_twoFactors_6 rfl (by decide) rfl ?_
  refine k_iconst C dX6_twoFactors_7 ?_
  refine k_istore_n C (lo' := [(3, .int (iI 0)), (2, .int (iI 0)), (0, .ref sc), (1, .int (iI x))]) dX6_twoFactors_8 rfl (by decide) rfl ?_
  have L9 : ∀ (nf : Nat) (i : Int) (pa : Int), (0 ≤ i ∧ i ≤ 65 ∧ pa = tws x.toNat i.toNat) → (65 - i).toNat < nf → K_ X 1 6 [(sc, .inr (5, [.ref tx, .ref b, .ref so, .ref pr, .ref b2])), (pr, .inr (1, [.ref rw])), (rw, .inl (g_J (x_G X), 782, .inr (.inl (aL fw))))] 9 [(3, .int (iI i)), (2, .int (iI pa)), (0, .ref sc), (1, .int (iI x))] [] := by
    intro nf
    induction nf with
    | zero => intro i pa hI hm; exact absurd hm (Nat.not_lt_zero _)
    | succ nf ih9 =>
      intro i pa hI9 hm9
      obtain ⟨i1, i2, i3⟩ := hI9
      refine k_iload_n C 0 rfl dX6_twoFactors_9 rfl ?_
      refine k_gets C (ref := "StruckCounts") (nm := "SMALL_PRIMES") C.S.1.1 1 rfl rfl dX6_twoFactors_10 ?_
      refine k_tlen C C.S.1.2 dX6_twoFactors_13 ?_
      refine k_eq (st2 := [.int (iI 65), .int (iI i)]) rfl rfl rfl rfl ?_
      refine k_icmp_ge C 58 (⟨by omega, by omega⟩) (⟨by omega, by omega⟩) dX6_twoFactors_14 (by decide) (fun c14 => ?_) (fun c14 => ?_)
      · skip
        have hE : pa = tws x.toNat 65 := by rw [i3, show i.toNat = 65 by omega]
        refine k_iload_n C 1 rfl dX6_twoFactors_58 rfl ?_
        exact k_iret C hR (u := pa) rfl (⟨hu2, hE⟩) rfl (Nat.le_of_ble_eq_true rfl) (Nat.le_of_ble_eq_true rfl) dX6_twoFactors_59
      · skip
        refine k_gets C (ref := "StruckCounts") (nm := "SMALL_PRIMES") C.S.1.1 1 rfl rfl dX6_twoFactors_17 ?_
        refine k_iload_n C 0 rfl dX6_twoFactors_20 rfl ?_
        refine k_ti C C.S.1.2 (⟨by omega, by omega⟩) (by decide) dX6_twoFactors_21 ?_
        refine k_nmI (fun v21 e21 => ?_)
        have hsp : v21 = (sp i.toNat : Int) := by rw [e21]; exact spA_sp (by omega)
        have hs1 := sp_le (show i.toNat < 65 by omega)
        have hs2 := sp_ge2 (show i.toNat < 65 by omega)
        refine k_istore C (lo' := [(4, .int (iI v21)), (3, .int (iI i)), (2, .int (iI pa)), (0, .ref sc), (1, .int (iI x))]) dX6_twoFactors_22 (by decide) rfl ?_
        refine k_iload C 0 rfl dX6_twoFactors_24 ?_
        refine k_iload C 0 rfl dX6_twoFactors_26 ?_
        refine k_imul C dX6_twoFactors_28 ?_
        refine k_nmI (fun v28 e28 => ?_)
        have hmm : v28 = ((sp i.toNat * sp i.toNat : Nat) : Int) := by rw [e28, hsp, ← Int.natCast_mul]
        have hsb := Nat.mul_le_mul hs1 hs1
        refine k_iload_n C 4 rfl dX6_twoFactors_29 rfl ?_
        refine k_icmp_le C 36 (⟨by omega, by omega⟩) (⟨by omega, by omega⟩) dX6_twoFactors_30 (by decide) (fun c30 => ?_) (fun c30 => ?_)
        · skip
          have hle : sp i.toNat * sp i.toNat ≤ x.toNat := by omega
          refine k_iload_n C 2 rfl dX6_twoFactors_36 rfl ?_
          refine k_aload_n C 3 rfl dX6_twoFactors_37 rfl ?_
          refine k_get C (Cn := RX6) (T := TX6) (N := 5) (ci := 5) (ref := "StruckCounts") in_X6_twoFactors_X6 0 rfl rfl 3 (by decide) 2 rfl rfl (v := .ref pr) rfl dX6_twoFactors_38 ?_
          refine k_iload_n C 4 rfl dX6_twoFactors_41 rfl ?_
          refine k_iload C 0 rfl dX6_twoFactors_42 ?_
          refine k_idiv C ⟨by omega, by omega⟩ ⟨by omega, by omega⟩ dX6_twoFactors_44 ?_
          refine k_nmI (fun v44 e44 => ?_)
          have hdv : (x / (sp i.toNat : Int)).toNat = x.toNat / sp i.toNat := by rw [show x = (x.toNat : Int) by omega, ← Int.natCast_ediv, Int.toNat_natCast, Int.toNat_natCast]
          have hd1 : 0 ≤ v44 := by rw [e44]; exact Int.ediv_nonneg (by omega) (by omega)
          have hd2 : v44 ≤ x := by rw [e44]; exact Int.ediv_le_self _ (by omega)
          refine k_callV C (y := yX1_countUpTo) [.int (iI v44)] 1 rfl (c_X1_countUpTo (x_l X) (x_G X) pr rw v44 fw (by first | assumption | exact ⟨by omega, by omega⟩) (by first | assumption | exact ⟨by omega, by omega⟩)) gX6_twoFactors_X1_countUpTo rfl ⟨rfl, by decide +kernel, by decide +kernel, by decide +kernel⟩ ⟨by decide, by decide⟩ 1 (fs := [.ref rw]) rfl rfl rfl [1, 2] (by decide) (wc := [(pr, .inr (1, [.ref rw])), (rw, .inl (g_J (x_G X), 782, .inr (.inl (aL fw))))]) rfl [.int (iI pa)] rfl (Nat.le_of_ble_eq_true rfl) ⟨Nat.le_of_ble_eq_true rfl, Nat.le_of_ble_eq_true rfl⟩ dX6_twoFactors_45 (fun _ => [(sc, .inr (5, [.ref tx, .ref b, .ref so, .ref pr, .ref b2])), (pr, .inr (1, [.ref rw])), (rw, .inl (g_J (x_G X), 782, .inr (.inl (aL fw))))]) (Or.inl (fun _ => ⟨rfl, rfl⟩)) (fun u45 => [.int (iI u45), .int (iI pa)]) (fun _ => rfl) 1 6 ⟨rfl, rfl⟩ (fun u45 hu45 => ?_)
          refine k_iload_n C 1 rfl dX6_twoFactors_48 rfl ?_
          refine k_isub C dX6_twoFactors_49 ?_
          refine k_nmI (fun v49 e49 => ?_)
          refine k_iadd C dX6_twoFactors_50 ?_
          refine k_nmI (fun v50 e50 => ?_)
          refine k_istore_n C (lo' := [(2, .int (iI v50)), (4, .int (iI v21)), (3, .int (iI i)), (0, .ref sc), (1, .int (iI x))]) dX6_twoFactors_51 rfl (by decide) rfl ?_
          obtain ⟨v52, e52⟩ : ∃ y : Int, y = i + 1 := ⟨_, rfl⟩
          refine k_iinc C (lo' := [(3, .int (iI v52)), (2, .int (iI v50)), (4, .int (iI v21)), (0, .ref sc), (1, .int (iI x))]) 2 rfl dX6_twoFactors_52 (by decide) v52 e52 rfl ?_
          refine k_goto C 9 dX6_twoFactors_55 (by decide) ?_
          refine k_lo (lo' := [(3, .int (iI v52)), (2, .int (iI v50)), (0, .ref sc), (1, .int (iI x))]) [0, 1, 3, 4] rfl ?_
          exact ih9 v52 v50 (⟨by omega, by omega, by rw [show v52.toNat = i.toNat + 1 by omega, tws_step hle, ← i3, e50, e49, hu45, e44, hsp, hdv]; omega⟩) (by omega)
        · skip
          have hE : pa = tws x.toNat 65 := by rw [i3]; have := tws_end (x := x.toNat) (i := i.toNat) (fun _ => by omega) (65 - i.toNat) (by omega); rw [show i.toNat + (65 - i.toNat) = 65 by omega] at this; exact this.symm
          refine k_goto C 58 dX6_twoFactors_33 (by decide) ?_
          refine k_iload_n C 2 rfl dX6_twoFactors_58 rfl ?_
          exact k_iret C hR (u := pa) rfl (⟨hu2, hE⟩) rfl (Nat.le_of_ble_eq_true rfl) (Nat.le_of_ble_eq_true rfl) dX6_twoFactors_59
  exact L9 _ 0 0 (⟨by omega, by omega, rfl⟩) (Nat.lt_succ_self _)
theorem in_X6_wouldStrike_X6 : ∀ w ∈ wsX60, w ∈ wsX6_wouldStrike := by decide +kernel
set_option maxHeartbeats 4000000 in
set_option maxRecDepth 100000 in
theorem c_X6_wouldStrike (l : Launch) (G : KG) (sc tx so pr b2 : Nat) (b t va re su : Nat) (tl tb ts bd cm sk : Int) (n k m : Nat) (fv fr fs : Nat → Int) (i : Int) (hS : BdS n k m bd cm sk) (hT : BdT n k m tl tb ts fv fr fs) (hi : -2147483648 ≤ i ∧ i < 2147483648) (hfl : l.stackTraces = false) : Cxt l G yX6_wouldStrike wsX6_wouldStrike (rmD 7 1 6) [.ref sc, .int (iI i)] [(sc, .inr (5, [.ref tx, .ref b, .ref so, .ref pr, .ref b2])), (b, .inr (0, [.ref t, .int (iI tl), .int (iI bd), .int (iI cm), .long (jL sk)])), (t, .inr (3, [.ref va, .ref re, .ref su, .int (iI tb), .int (iI ts)])), (va, .inl (g_I G, 631, .inl (aI fv))), (re, .inl (g_I G, 2524, .inl (aI fr))), (su, .inl (g_J G, 631, .inr (.inl (aL fs))))] (fun u : Int × Int × Int × Int × (Nat → Int) × (Nat → Int) × (Nat → Int) => (0 ≤ i ∧ i < (SZ n : Int)) ∧ u.1 = wsI n k m i ∧ BdT n k m u.2.1 u.2.2.1 u.2.2.2.1 u.2.2.2.2.1 u.2.2.2.2.2.1 u.2.2.2.2.2.2) (fun u : Int × Int × Int × Int × (Nat → Int) × (Nat → Int) × (Nat → Int) => some (.int (iI u.1))) (fun u : Int × Int × Int × Int × (Nat → Int) × (Nat → Int) × (Nat → Int) => [(sc, .inr (5, [.ref tx, .ref b, .ref so, .ref pr, .ref b2])), (b, .inr (0, [.ref t, .int (iI u.2.1), .int (iI bd), .int (iI cm), .long (jL sk)])), (t, .inr (3, [.ref va, .ref re, .ref su, .int (iI u.2.2.1), .int (iI u.2.2.2.1)])), (va, .inl (g_I G, 631, .inl (aI u.2.2.2.2.1))), (re, .inl (g_I G, 2524, .inl (aI u.2.2.2.2.2.1))), (su, .inl (g_J G, 631, .inr (.inl (aL u.2.2.2.2.2.2))))]) (fun v : Int × Int × Int × (Nat → Int) × (Nat → Int) × (Nat → Int) => ¬ (0 ≤ i ∧ i < (SZ n : Int)) ∧ BdT n k m v.1 v.2.1 v.2.2.1 v.2.2.2.1 v.2.2.2.2.1 v.2.2.2.2.2) (fun v : Int × Int × Int × (Nat → Int) × (Nat → Int) × (Nat → Int) => "java/lang/IndexOutOfBoundsException") (fun v : Int × Int × Int × (Nat → Int) × (Nat → Int) × (Nat → Int) => [(sc, .inr (5, [.ref tx, .ref b, .ref so, .ref pr, .ref b2])), (b, .inr (0, [.ref t, .int (iI v.1), .int (iI bd), .int (iI cm), .long (jL sk)])), (t, .inr (3, [.ref va, .ref re, .ref su, .int (iI v.2.1), .int (iI v.2.2.1)])), (va, .inl (g_I G, 631, .inl (aI v.2.2.2.1))), (re, .inl (g_I G, 2524, .inl (aI v.2.2.2.2.1))), (su, .inl (g_J G, 631, .inr (.inl (aL v.2.2.2.2.2))))]) := by
  refine Cxt.of (cc := cX6_wouldStrike) (maxL := 3) (ret := (some .int)) (by decide +kernel) rfl (Nat.le_of_ble_eq_true rfl) ?_
  intro X C hG hL hnm hR hQ htab
  subst hG
  subst hL
  have C : Cx X cX6_wouldStrike RX6 wsX6_wouldStrike (some .int) 3 (rmD 7 1 6) := C
  have hTh : Thr X (fun v : Int × Int × Int × (Nat → Int) × (Nat → Int) × (Nat → Int) => ¬ (0 ≤ i ∧ i < (SZ n : Int)) ∧ BdT n k m v.1 v.2.1 v.2.2.1 v.2.2.2.1 v.2.2.2.2.1 v.2.2.2.2.2) (fun v : Int × Int × Int × (Nat → Int) × (Nat → Int) × (Nat → Int) => "java/lang/IndexOutOfBoundsException") (fun v : Int × Int × Int × (Nat → Int) × (Nat → Int) × (Nat → Int) => [(sc, .inr (5, [.ref tx, .ref b, .ref so, .ref pr, .ref b2])), (b, .inr (0, [.ref t, .int (iI v.1), .int (iI bd), .int (iI cm), .long (jL sk)])), (t, .inr (3, [.ref va, .ref re, .ref su, .int (iI v.2.1), .int (iI v.2.2.1)])), (va, .inl (g_I (x_G X), 631, .inl (aI v.2.2.2.1))), (re, .inl (g_I (x_G X), 2524, .inl (aI v.2.2.2.2.1))), (su, .inl (g_J (x_G X), 631, .inr (.inl (aL v.2.2.2.2.2))))]) := ⟨_, by rw [C.R]; exact hQ⟩
  obtain ⟨s1, s2, s3, s4, s5, s6, s7⟩ := id hS
  show K_ X 0 0 [(sc, .inr (5, [.ref tx, .ref b, .ref so, .ref pr, .ref b2])), (b, .inr (0, [.ref t, .int (iI tl), .int (iI bd), .int (iI cm), .long (jL sk)])), (t, .inr (3, [.ref va, .ref re, .ref su, .int (iI tb), .int (iI ts)])), (va, .inl (g_I (x_G X), 631, .inl (aI fv))), (re, .inl (g_I (x_G X), 2524, .inl (aI fr))), (su, .inl (g_J (x_G X), 631, .inr (.inl (aL fs))))] 0 [(0, .ref sc), (1, .int (iI i))] []
  refine k_aload_n C 0 rfl dX6_wouldStrike_0 rfl ?_
  refine k_iload_n C 1 rfl dX6_wouldStrike_1 rfl ?_
  refine k_callVx C hTh htab (y := yX6_checkQuotient) [.int (iI i)] 1 rfl (c_X6_checkQuotient (x_l X) (x_G X) sc tx so pr b2 b t va re su tl tb ts bd cm sk n k m fv fr fs i (by assumption) (by assumption) (by assumption) (hfl)) gX6_wouldStrike_X6_checkQuotient rfl ⟨rfl, by decide +kernel, by decide +kernel, by decide +kernel⟩ ⟨by decide, by decide⟩ 0 (fs := [.ref tx, .ref b, .ref so, .ref pr, .ref b2]) rfl rfl rfl [0, 1, 2, 3, 4, 5] [] [0, 1, 2, 3, 4, 5] (by decide) (wc := [(sc, .inr (5, [.ref tx, .ref b, .ref so, .ref pr, .ref b2])), (b, .inr (0, [.ref t, .int (iI tl), .int (iI bd), .int (iI cm), .long (jL sk)])), (t, .inr (3, [.ref va, .ref re, .ref su, .int (iI tb), .int (iI ts)])), (va, .inl (g_I (x_G X), 631, .inl (aI fv))), (re, .inl (g_I (x_G X), 2524, .inl (aI fr))), (su, .inl (g_J (x_G X), 631, .inr (.inl (aL fs))))]) rfl [] rfl (Nat.le_of_ble_eq_true rfl) ⟨Nat.le_of_ble_eq_true rfl, Nat.le_of_ble_eq_true rfl⟩ dX6_wouldStrike_2 (fun u2 => [(sc, .inr (5, [.ref tx, .ref b, .ref so, .ref pr, .ref b2])), (b, .inr (0, [.ref t, .int (iI u2.1), .int (iI bd), .int (iI cm), .long (jL sk)])), (t, .inr (3, [.ref va, .ref re, .ref su, .int (iI u2.2.1), .int (iI u2.2.2.1)])), (va, .inl (g_I (x_G X), 631, .inl (aI u2.2.2.2.1))), (re, .inl (g_I (x_G X), 2524, .inl (aI u2.2.2.2.2.1))), (su, .inl (g_J (x_G X), 631, .inr (.inl (aL u2.2.2.2.2.2))))]) (fun v => [(sc, .inr (5, [.ref tx, .ref b, .ref so, .ref pr, .ref b2])), (b, .inr (0, [.ref t, .int (iI v.1), .int (iI bd), .int (iI cm), .long (jL sk)])), (t, .inr (3, [.ref va, .ref re, .ref su, .int (iI v.2.1), .int (iI v.2.2.1)])), (va, .inl (g_I (x_G X), 631, .inl (aI v.2.2.2.1))), (re, .inl (g_I (x_G X), 2524, .inl (aI v.2.2.2.2.1))), (su, .inl (g_J (x_G X), 631, .inr (.inl (aL v.2.2.2.2.2))))]) (wr := []) rfl (by decide) (by decide) (by decide) (fun _ => rfl) (fun _ => rfl) (fun u2 => []) (fun _ => rfl) 1 6 ⟨rfl, rfl⟩ (fun v hv => ⟨v, rfl, hv, rfl⟩) (fun u2 hu2 => ?_)
  refine k_aload_n C 0 rfl dX6_wouldStrike_5 rfl ?_
  refine k_get C (Cn := RX6) (T := TX6) (N := 5) (ci := 5) (ref := "StruckCounts") in_X6_wouldStrike_X6 0 rfl rfl 1 (by decide) 1 rfl rfl (v := .ref b) rfl dX6_wouldStrike_6 ?_
  refine k_callV C (y := yX0_nextPrime) [] 0 rfl (c_X0_nextPrime (x_l X) (x_G X) b t u2.1 bd cm sk n k m (by assumption)) gX6_wouldStrike_X0_nextPrime rfl ⟨rfl, by decide +kernel, by decide +kernel, by decide +kernel⟩ ⟨by decide, by decide⟩ 1 (fs := [.ref t, .int (iI u2.1), .int (iI bd), .int (iI cm), .long (jL sk)]) rfl rfl rfl [1] (by decide) (wc := [(b, .inr (0, [.ref t, .int (iI u2.1), .int (iI bd), .int (iI cm), .long (jL sk)]))]) rfl [] rfl (Nat.le_of_ble_eq_true rfl) ⟨Nat.le_of_ble_eq_true rfl, Nat.le_of_ble_eq_true rfl⟩ dX6_wouldStrike_9 (fun _ => [(sc, .inr (5, [.ref tx, .ref b, .ref so, .ref pr, .ref b2])), (b, .inr (0, [.ref t, .int (iI u2.1), .int (iI bd), .int (iI cm), .long (jL sk)])), (t, .inr (3, [.ref va, .ref re, .ref su, .int (iI u2.2.1), .int (iI u2.2.2.1)])), (va, .inl (g_I (x_G X), 631, .inl (aI u2.2.2.2.1))), (re, .inl (g_I (x_G X), 2524, .inl (aI u2.2.2.2.2.1))), (su, .inl (g_J (x_G X), 631, .inr (.inl (aL u2.2.2.2.2.2))))]) (Or.inl (fun _ => ⟨rfl, rfl⟩)) (fun u9 => [.int (iI u9)]) (fun _ => rfl) 1 6 ⟨rfl, rfl⟩ (fun u9 hu9 => ?_)
  have hr := nxI_rng n k
  refine k_istore_n C (lo' := [(2, .int (iI u9)), (0, .ref sc), (1, .int (iI i))]) dX6_wouldStrike_12 rfl (by decide) rfl ?_
  refine k_iload_n C 0 rfl dX6_wouldStrike_13 rfl ?_
  refine k_iconst C dX6_wouldStrike_14 ?_
  refine k_icmp_ne C 22 (⟨by omega, by omega⟩) (⟨by omega, by omega⟩) dX6_wouldStrike_15 (by decide) (fun c15 => ?_) (fun c15 => ?_)
  · skip
    refine k_aload_n C 1 rfl dX6_wouldStrike_22 rfl ?_
    refine k_get C (Cn := RX6) (T := TX6) (N := 5) (ci := 5) (ref := "StruckCounts") in_X6_wouldStrike_X6 0 rfl rfl 1 (by decide) 1 rfl rfl (v := .ref b) rfl dX6_wouldStrike_23 ?_
    refine k_callV C (y := yX0_tally) [] 0 rfl (c_X0_tally (x_l X) (x_G X) b t va re su u2.1 u2.2.1 u2.2.2.1 bd cm sk n k m u2.2.2.2.1 u2.2.2.2.2.1 u2.2.2.2.2.2 (by first | assumption | omega) (hu2.2)) gX6_wouldStrike_X0_tally rfl ⟨rfl, by decide +kernel, by decide +kernel, by decide +kernel⟩ ⟨by decide, by decide⟩ 1 (fs := [.ref t, .int (iI u2.1), .int (iI bd), .int (iI cm), .long (jL sk)]) rfl rfl rfl [1, 2, 3, 4, 5] (by decide) (wc := [(b, .inr (0, [.ref t, .int (iI u2.1), .int (iI bd), .int (iI cm), .long (jL sk)])), (t, .inr (3, [.ref va, .ref re, .ref su, .int (iI u2.2.1), .int (iI u2.2.2.1)])), (va, .inl (g_I (x_G X), 631, .inl (aI u2.2.2.2.1))), (re, .inl (g_I (x_G X), 2524, .inl (aI u2.2.2.2.2.1))), (su, .inl (g_J (x_G X), 631, .inr (.inl (aL u2.2.2.2.2.2))))]) rfl [] rfl (Nat.le_of_ble_eq_true rfl) ⟨Nat.le_of_ble_eq_true rfl, Nat.le_of_ble_eq_true rfl⟩ dX6_wouldStrike_26 (fun u26 => [(sc, .inr (5, [.ref tx, .ref b, .ref so, .ref pr, .ref b2])), (b, .inr (0, [.ref t, .int (iI cm), .int (iI bd), .int (iI cm), .long (jL sk)])), (t, .inr (3, [.ref va, .ref re, .ref su, .int (iI u26.1), .int (iI u26.2.1)])), (va, .inl (g_I (x_G X), 631, .inl (aI u26.2.2.1))), (re, .inl (g_I (x_G X), 2524, .inl (aI u26.2.2.2.1))), (su, .inl (g_J (x_G X), 631, .inr (.inl (aL u26.2.2.2.2))))]) (Or.inr ⟨[0], [0, 1, 2, 3, 4, 5], [(sc, .inr (5, [.ref tx, .ref b, .ref so, .ref pr, .ref b2]))], rfl, by decide, by decide, by decide, fun _ => rfl⟩) (fun u26 => [.ref t]) (fun _ => rfl) 1 6 ⟨rfl, rfl⟩ (fun u26 hu26 => ?_)
    have hB := Tl_up hS hu26
    have hz := hu26.2.1
    have hz2 := SZ_631 s5
    obtain ⟨y1, y2, y3⟩ := nxI_some (n := n) (k := k) (by omega)
    refine k_iload_n C 2 rfl dX6_wouldStrike_29 rfl ?_
    refine k_iload_n C 0 rfl dX6_wouldStrike_30 rfl ?_
    refine k_callV C (y := yX3_multiplesAt) [.int (iI i), .int (iI u9)] 2 rfl (c_X3_multiplesAt (x_l X) (x_G X) t va re su u26.1 u26.2.1 i u9 n k m u26.2.2.1 u26.2.2.2.1 u26.2.2.2.2 (by omega) (by omega) (by omega) (hu26) (by omega)) gX6_wouldStrike_X3_multiplesAt rfl ⟨rfl, by decide +kernel, by decide +kernel, by decide +kernel⟩ ⟨by decide, by decide⟩ 2 (fs := [.ref va, .ref re, .ref su, .int (iI u26.1), .int (iI u26.2.1)]) rfl rfl rfl [2, 3, 4, 5] (by decide) (wc := [(t, .inr (3, [.ref va, .ref re, .ref su, .int (iI u26.1), .int (iI u26.2.1)])), (va, .inl (g_I (x_G X), 631, .inl (aI u26.2.2.1))), (re, .inl (g_I (x_G X), 2524, .inl (aI u26.2.2.2.1))), (su, .inl (g_J (x_G X), 631, .inr (.inl (aL u26.2.2.2.2))))]) rfl [] rfl (Nat.le_of_ble_eq_true rfl) ⟨Nat.le_of_ble_eq_true rfl, Nat.le_of_ble_eq_true rfl⟩ dX6_wouldStrike_31 (fun _ => [(sc, .inr (5, [.ref tx, .ref b, .ref so, .ref pr, .ref b2])), (b, .inr (0, [.ref t, .int (iI cm), .int (iI bd), .int (iI cm), .long (jL sk)])), (t, .inr (3, [.ref va, .ref re, .ref su, .int (iI u26.1), .int (iI u26.2.1)])), (va, .inl (g_I (x_G X), 631, .inl (aI u26.2.2.1))), (re, .inl (g_I (x_G X), 2524, .inl (aI u26.2.2.2.1))), (su, .inl (g_J (x_G X), 631, .inr (.inl (aL u26.2.2.2.2))))]) (Or.inl (fun _ => ⟨rfl, rfl⟩)) (fun u31 => [.int (iI u31)]) (fun _ => rfl) 1 6 ⟨rfl, rfl⟩ (fun u31 hu31 => ?_)
    exact k_iret C hR (u := (u31, cm, u26.1, u26.2.1, u26.2.2.1, u26.2.2.2.1, u26.2.2.2.2)) rfl (by (try dsimp only) <;> exact (⟨hu2.1, by unfold wsI; rw [if_neg (by omega)]; exact hu31, hB⟩)) rfl (Nat.le_of_ble_eq_true rfl) (Nat.le_of_ble_eq_true rfl) dX6_wouldStrike_34
  · skip
    refine k_iconst C dX6_wouldStrike_18 ?_
    refine k_goto C 34 dX6_wouldStrike_19 (by decide) ?_
    exact k_iret C hR (u := (0, u2.1, u2.2.1, u2.2.2.1, u2.2.2.2.1, u2.2.2.2.2.1, u2.2.2.2.2.2)) rfl (by (try dsimp only) <;> exact (⟨hu2.1, by unfold wsI; rw [if_pos (by omega)], hu2.2⟩)) rfl (Nat.le_of_ble_eq_true rfl) (Nat.le_of_ble_eq_true rfl) dX6_wouldStrike_34
