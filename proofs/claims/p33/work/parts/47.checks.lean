theorem in_X6_checkNextPrime_X6 : ∀ w ∈ wsX60, w ∈ wsX6_checkNextPrime := by decide +kernel
set_option maxHeartbeats 4000000 in
set_option maxRecDepth 100000 in
theorem c_X6_checkNextPrime (l : Launch) (G : KG) (sc tx so pr b2 : Nat) (b t : Nat) (tl bd cm sk : Int) (n k m : Nat) (hS : BdS n k m bd cm sk) (hfl : l.stackTraces = false) : Cxt l G yX6_checkNextPrime wsX6_checkNextPrime (rmD 6 1 6) [.ref sc] [(sc, .inr (5, [.ref tx, .ref b, .ref so, .ref pr, .ref b2])), (b, .inr (0, [.ref t, .int (iI tl), .int (iI bd), .int (iI cm), .long (jL sk)]))] (fun u : Unit => ¬ nxI n k = -1) (fun u : Unit => none) (fun u : Unit => [(sc, .inr (5, [.ref tx, .ref b, .ref so, .ref pr, .ref b2])), (b, .inr (0, [.ref t, .int (iI tl), .int (iI bd), .int (iI cm), .long (jL sk)]))]) (fun v : Unit => nxI n k = -1) (fun v : Unit => "java/lang/IllegalStateException") (fun v : Unit => [(sc, .inr (5, [.ref tx, .ref b, .ref so, .ref pr, .ref b2])), (b, .inr (0, [.ref t, .int (iI tl), .int (iI bd), .int (iI cm), .long (jL sk)]))]) := by
  refine Cxt.of (cc := cX6_checkNextPrime) (maxL := 1) (ret := none) (by decide +kernel) rfl (Nat.le_of_ble_eq_true rfl) ?_
  intro X C hG hL hnm hR hQ htab
  subst hG
  subst hL
  have C : Cx X cX6_checkNextPrime RX6 wsX6_checkNextPrime none 1 (rmD 6 1 6) := C
  have hTh : Thr X (fun v : Unit => nxI n k = -1) (fun v : Unit => "java/lang/IllegalStateException") (fun v : Unit => [(sc, .inr (5, [.ref tx, .ref b, .ref so, .ref pr, .ref b2])), (b, .inr (0, [.ref t, .int (iI tl), .int (iI bd), .int (iI cm), .long (jL sk)]))]) := ⟨_, by rw [C.R]; exact hQ⟩
  show K_ X 0 0 [(sc, .inr (5, [.ref tx, .ref b, .ref so, .ref pr, .ref b2])), (b, .inr (0, [.ref t, .int (iI tl), .int (iI bd), .int (iI cm), .long (jL sk)]))] 0 [(0, .ref sc)] []
  refine k_aload_n C 0 rfl dX6_checkNextPrime_0 rfl ?_
  refine k_get C (Cn := RX6) (T := TX6) (N := 5) (ci := 5) (ref := "StruckCounts") in_X6_checkNextPrime_X6 0 rfl rfl 1 (by decide) 3 rfl rfl (v := .ref b) rfl dX6_checkNextPrime_1 ?_
  refine k_callV C (y := yX0_nextPrime) [] 0 rfl (c_X0_nextPrime (x_l X) (x_G X) b t tl bd cm sk n k m (by first | assumption | omega)) gX6_checkNextPrime_X0_nextPrime rfl ⟨rfl, by decide +kernel, by decide +kernel, by decide +kernel⟩ ⟨by decide, by decide⟩ 1 (fs := [.ref t, .int (iI tl), .int (iI bd), .int (iI cm), .long (jL sk)]) rfl rfl rfl [1] (by decide) (wc := [(b, .inr (0, [.ref t, .int (iI tl), .int (iI bd), .int (iI cm), .long (jL sk)]))]) rfl [] rfl (Nat.le_of_ble_eq_true rfl) ⟨Nat.le_of_ble_eq_true rfl, Nat.le_of_ble_eq_true rfl⟩ dX6_checkNextPrime_4 (fun _ => [(sc, .inr (5, [.ref tx, .ref b, .ref so, .ref pr, .ref b2])), (b, .inr (0, [.ref t, .int (iI tl), .int (iI bd), .int (iI cm), .long (jL sk)]))]) (Or.inl (fun _ => ⟨rfl, rfl⟩)) (fun u4 => [.int (iI u4)]) (fun _ => rfl) 0 0 ⟨rfl, rfl⟩ (fun u4 hu4 => ?_)
  have hr := nxI_rng n k
  refine k_iconst C dX6_checkNextPrime_7 ?_
  refine k_icmp_ne C 22 (⟨by omega, by omega⟩) (⟨by omega, by omega⟩) dX6_checkNextPrime_8 (by decide) (fun c8 => ?_) (fun c8 => ?_)
  · skip
    exact k_vret C hR (u := ()) rfl (by first | trivial | omega) rfl (Nat.le_of_ble_eq_true rfl) (Nat.le_of_ble_eq_true rfl) dX6_checkNextPrime_22
  · skip
    exact k_throwW C hTh htab hfl rfl 1 rfl 1 rfl 1 2 rfl rfl (by decide +kernel) (by decide +kernel) (by decide +kernel) (by decide +kernel) (by decide +kernel) dX6_checkNextPrime_11 dX6_checkNextPrime_14 dX6_checkNextPrime_15 dX6_checkNextPrime_18 dX6_checkNextPrime_21 (Nat.le_of_ble_eq_true rfl) (Nat.le_of_ble_eq_true rfl) (Nat.le_of_ble_eq_true rfl) (Nat.le_of_ble_eq_true rfl) () rfl (by first | trivial | omega) rfl
