set_option maxHeartbeats 4000000 in
set_option maxRecDepth 100000 in
theorem c_X6_checkSlot (l : Launch) (G : KG) (i : Int) (hi : -2147483648 ≤ i ∧ i < 2147483648) (hfl : l.stackTraces = false) : Cxt l G yX6_checkSlot wsX6_checkSlot (rmD 6 1 6) [.int (iI i)] [] (fun u : Unit => 0 ≤ i ∧ i ≤ 1) (fun u : Unit => none) (fun u : Unit => []) (fun v : Unit => ¬ (0 ≤ i ∧ i ≤ 1)) (fun v : Unit => "java/lang/IndexOutOfBoundsException") (fun v : Unit => []) := by
  refine Cxt.of (cc := cX6_checkSlot) (maxL := 1) (ret := none) (by decide +kernel) rfl (Nat.le_of_ble_eq_true rfl) ?_
  intro X C hG hL hnm hR hQ htab
  subst hG
  subst hL
  have C : Cx X cX6_checkSlot RX6 wsX6_checkSlot none 1 (rmD 6 1 6) := C
  have hTh : Thr X (fun v : Unit => ¬ (0 ≤ i ∧ i ≤ 1)) (fun v : Unit => "java/lang/IndexOutOfBoundsException") (fun v : Unit => []) := ⟨_, by rw [C.R]; exact hQ⟩
  show K_ X 0 0 [] 0 [(0, .int (iI i))] []
  refine k_iload_n C 0 rfl dX6_checkSlot_0 rfl ?_
  refine k_iconst C dX6_checkSlot_1 ?_
  refine k_iconst C dX6_checkSlot_2 ?_
  refine k_callS C (y := yX6_outside) [.int (iI i), .int (iI 0), .int (iI 1)] 3 rfl (c_X6_outside (x_l X) (x_G X) i 0 1 (by omega) (by omega) (by omega)) gX6_checkSlot_X6_outside rfl ⟨by decide +kernel, by decide +kernel, by decide +kernel⟩ ⟨by decide, by decide⟩ [] (by decide) (wc := []) rfl [] rfl (Nat.le_of_ble_eq_true rfl) ⟨Nat.le_of_ble_eq_true rfl, Nat.le_of_ble_eq_true rfl⟩ dX6_checkSlot_3 (fun _ => []) (Or.inl (fun _ => ⟨rfl, rfl⟩)) (fun u3 => [.int (iI u3)]) (fun _ => rfl) 0 0 ⟨rfl, rfl⟩ (fun u3 hu3 => ?_)
  refine k_if_eq C 20 (⟨by omega, by omega⟩) dX6_checkSlot_6 (by decide) (fun c6 => ?_) (fun c6 => ?_)
  · skip
    have hu3 := bo_f hu3 c6
    exact k_vret C hR (u := ()) rfl (by first | trivial | omega) rfl (Nat.le_of_ble_eq_true rfl) (Nat.le_of_ble_eq_true rfl) dX6_checkSlot_20
  · skip
    have hu3 := bo_t hu3 c6
    exact k_throwW C hTh htab hfl rfl 16 rfl 2 rfl 1 2 rfl rfl (by decide +kernel) (by decide +kernel) (by decide +kernel) (by decide +kernel) (by decide +kernel) dX6_checkSlot_9 dX6_checkSlot_12 dX6_checkSlot_13 dX6_checkSlot_16 dX6_checkSlot_19 (Nat.le_of_ble_eq_true rfl) (Nat.le_of_ble_eq_true rfl) (Nat.le_of_ble_eq_true rfl) (Nat.le_of_ble_eq_true rfl) () rfl (by first | trivial | omega) rfl
set_option maxHeartbeats 4000000 in
set_option maxRecDepth 100000 in
theorem c_X6_checkUpToHighest (l : Launch) (G : KG) (x lo : Int) (hx : -2147483648 ≤ x ∧ x < 2147483648) (hlo : -2147483648 ≤ lo ∧ lo < 2147483648) (hfl : l.stackTraces = false) : Cxt l G yX6_checkUpToHighest wsX6_checkUpToHighest (rmD 6 1 6) [.int (iI x), .int (iI lo)] [] (fun u : Unit => lo ≤ x ∧ x ≤ 99999) (fun u : Unit => none) (fun u : Unit => []) (fun v : Unit => ¬ (lo ≤ x ∧ x ≤ 99999)) (fun v : Unit => "java/lang/IllegalArgumentException") (fun v : Unit => []) := by
  refine Cxt.of (cc := cX6_checkUpToHighest) (maxL := 2) (ret := none) (by decide +kernel) rfl (Nat.le_of_ble_eq_true rfl) ?_
  intro X C hG hL hnm hR hQ htab
  subst hG
  subst hL
  have C : Cx X cX6_checkUpToHighest RX6 wsX6_checkUpToHighest none 2 (rmD 6 1 6) := C
  have hTh : Thr X (fun v : Unit => ¬ (lo ≤ x ∧ x ≤ 99999)) (fun v : Unit => "java/lang/IllegalArgumentException") (fun v : Unit => []) := ⟨_, by rw [C.R]; exact hQ⟩
  show K_ X 0 0 [] 0 [(0, .int (iI x)), (1, .int (iI lo))] []
  refine k_iload_n C 0 rfl dX6_checkUpToHighest_0 rfl ?_
  refine k_iload_n C 1 rfl dX6_checkUpToHighest_1 rfl ?_
  refine k_ldc C 99999 3 rfl (by decide) dX6_checkUpToHighest_2 ?_
  refine k_callS C (y := yX6_outside) [.int (iI x), .int (iI lo), .int (iI 99999)] 3 rfl (c_X6_outside (x_l X) (x_G X) x lo 99999 (by omega) (by omega) (by omega)) gX6_checkUpToHighest_X6_outside rfl ⟨by decide +kernel, by decide +kernel, by decide +kernel⟩ ⟨by decide, by decide⟩ [] (by decide) (wc := []) rfl [] rfl (Nat.le_of_ble_eq_true rfl) ⟨Nat.le_of_ble_eq_true rfl, Nat.le_of_ble_eq_true rfl⟩ dX6_checkUpToHighest_4 (fun _ => []) (Or.inl (fun _ => ⟨rfl, rfl⟩)) (fun u4 => [.int (iI u4)]) (fun _ => rfl) 0 0 ⟨rfl, rfl⟩ (fun u4 hu4 => ?_)
  refine k_if_eq C 21 (⟨by omega, by omega⟩) dX6_checkUpToHighest_7 (by decide) (fun c7 => ?_) (fun c7 => ?_)
  · skip
    have hu4 := bo_f hu4 c7
    exact k_vret C hR (u := ()) rfl (by first | trivial | omega) rfl (Nat.le_of_ble_eq_true rfl) (Nat.le_of_ble_eq_true rfl) dX6_checkUpToHighest_21
  · skip
    have hu4 := bo_t hu4 c7
    exact k_throwW C hTh htab hfl rfl 11 rfl 0 rfl 1 2 rfl rfl (by decide +kernel) (by decide +kernel) (by decide +kernel) (by decide +kernel) (by decide +kernel) dX6_checkUpToHighest_10 dX6_checkUpToHighest_13 dX6_checkUpToHighest_14 dX6_checkUpToHighest_17 dX6_checkUpToHighest_20 (Nat.le_of_ble_eq_true rfl) (Nat.le_of_ble_eq_true rfl) (Nat.le_of_ble_eq_true rfl) (Nat.le_of_ble_eq_true rfl) () rfl (by first | trivial | omega) rfl
theorem in_X6_checkNextPrime_X6 : ∀ w ∈ wsX60, w ∈ wsX6_checkNextPrime := by decide +kernel
set_option maxHeartbeats 4000000 in
set_option maxRecDepth 100000 in
theorem c_X6_checkNextPrime (l : Launch) (G : KG) (sc tx so pr b2 : Nat) (b t : Nat) (tl bd cm sk : Int) (n k m : Nat) (hS : BdS n k m bd cm sk) (hfl : l.stackTraces = false) : Cxt l G yX6_checkNextPrime wsX6_checkNextPrime (rmD 6 1 6) [.ref sc] [(sc, .inr (5, [.ref tx, .ref b, .ref so, .ref pr, .ref b2])), (b, .inr (0, [.ref t, .int (iI tl), .int (iI bd), .int (iI cm), .long (jL sk)]))] (fun u : Unit => ¬ nxI n k = -1) (fun u : Unit => none) (fun u : Unit => [(sc, .inr (5, [.ref tx, .ref b, .ref so, .ref pr, .ref b2])), (b, .inr (0, [.ref t, .int (iI tl), .int (iI bd), .int (iI cm), .long (jL sk)]))]) (fun v : Unit => nxI n k = -1) (fun v : Unit => "java/lang/IllegalStateException") (fun v : Unit => [(sc, .inr (5, [.ref tx, .ref b, .ref so, .ref pr, .ref b2])), (b, .inr (0, [.ref t, .int (iI tl), .int (iI bd), .int (iI cm), .long (jL sk)]))]) := by
  refine Cxt.of (cc := cX6_checkNextPrime) (maxL := 1) (ret := none) (by decide +kernel) rfl (Nat.le_of_ble_eq_true rfl) ?_
  intro X C hG hL hnm hR hQ htab
  subst hG
  subst hL
  have C : Cx X cX6_checkNextPrime RX6 wsX6_checkNextPrime none 1 (rmD 6 1 6) := C
  have hTh : Thr X (fun v : Unit => nxI n k = -1) (fun v : Unit => "java/lang/IllegalStateException") (fun v : Unit => [(sc, .inr (5, [.ref tx, .ref b, .ref so, .ref pr, .ref b2])), (b, .inr (0, [.ref t, .int (iI tl), .int (iI bd), .int (iI cm), .long (jL sk)]))]) := ⟨_, by rw [C.R]; exact hQ⟩
  show K_ X 0 0 [(sc, .inr (5, [.ref tx, .ref b, .ref so, .ref pr, .ref b2])), (b, .inr (0, [.ref t, .int (iI tl), .int (iI bd), .int (iI cm), .long (jL sk)]))] 0 [(0, .ref sc)] []
  refine k_aload_n C 0 rfl dX6_checkNextPrime_0 rfl ?_
  refine k_get C (Cn := RX6) (T := TX6) (N := 5) (ci := 5) (ref := "StruckCounts") in_X6_checkNextPrime_X6 0 rfl rfl 1 (by decide) 3 rfl rfl (v := .ref b) rfl dX6_checkNextPrime_1 ?_
  refine k_callV C (y := yX0_nextPrime) [] 0 rfl (c_X0_nextPrime (x_l X) (x_G X) b t tl bd cm sk n k m (by first | assumption | omega)) gX6_checkNextPrime_X0_nextPrime rfl ⟨rfl, by decide +kernel, by decide +kernel, by decide +kernel⟩ ⟨by decide, by decide⟩ 1 (fs := [.ref t, .int (iI tl), .int (iI bd), .int (iI cm), .long (jL sk)]) rfl rfl rfl [1] (by decide) (wc := [(b, .inr (0, [.ref t, .int (iI tl), .int (iI bd), .int (iI cm), .long (jL sk)]))]) rfl [] rfl (Nat.le_of_ble_eq_true rfl) ⟨Nat.le_of_ble_eq_true rfl, Nat.le_of_ble_eq_true rfl⟩ dX6_checkNextPrime_4 (fun _ => [(sc, .inr (5, [.ref tx, .ref b, .ref so, .ref pr, .ref b2])), (b, .inr (0, [.ref t, .int (iI tl), .int (iI bd), .int (iI cm), .long (jL sk)]))]) (Or.inl (fun _ => ⟨rfl, rfl⟩)) (fun u4 => [.int (iI u4)]) (fun _ => rfl) 0 0 ⟨rfl, rfl⟩ (fun u4 hu4 => ?_)
  have hr := nxI_rng n k
  refine k_iconst C dX6_checkNextPrime_7 ?_
  refine k_icmp_ne C 22 (⟨by omega, by omega⟩) (⟨by omega, by omega⟩) dX6_checkNextPrime_8 (by decide) (fun c8 => ?_) (fun c8 => ?_)
  · skip
    exact k_vret C hR (u := ()) rfl (by first | trivial | omega) rfl (Nat.le_of_ble_eq_true rfl) (Nat.le_of_ble_eq_true rfl) dX6_checkNextPrime_22
  · skip
    exact k_throwW C hTh htab hfl rfl 8 rfl 1 rfl 1 2 rfl rfl (by decide +kernel) (by decide +kernel) (by decide +kernel) (by decide +kernel) (by decide +kernel) dX6_checkNextPrime_11 dX6_checkNextPrime_14 dX6_checkNextPrime_15 dX6_checkNextPrime_18 dX6_checkNextPrime_21 (Nat.le_of_ble_eq_true rfl) (Nat.le_of_ble_eq_true rfl) (Nat.le_of_ble_eq_true rfl) (Nat.le_of_ble_eq_true rfl) () rfl (by first | trivial | omega) rfl
