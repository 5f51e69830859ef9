theorem in_X7_at_X7 : ∀ w ∈ wsX70, w ∈ wsX7_at := by decide +kernel
set_option maxHeartbeats 4000000 in
set_option maxRecDepth 100000 in
theorem c_X7_at (l : Launch) (G : KG) (mo s sv tx fa ea go qu : Nat) (st ty th un om : Int) (i : Int) (ff : Nat → Int) (hi : 0 ≤ i ∧ i < 2147483648) (hty : 0 ≤ ty ∧ ty ≤ 60) : Ct l G yX7_at wsX7_at (rmD 0 0 0) [.ref mo, .int (iI i)] [(mo, .inr (6, [.ref s, .int (iI st), .ref sv, .ref tx, .int (iI ty), .int (iI th), .ref fa, .ref ea, .ref go, .ref qu, .int (iI un), .int (iI om)])), (tx, .inl (g_C G, 60, .inl (aI ff)))] (fun u : Int => u = tA ff ty i.toNat) (fun u : Int => some (.int (iI u))) (fun u : Int => [(mo, .inr (6, [.ref s, .int (iI st), .ref sv, .ref tx, .int (iI ty), .int (iI th), .ref fa, .ref ea, .ref go, .ref qu, .int (iI un), .int (iI om)])), (tx, .inl (g_C G, 60, .inl (aI ff)))]) := by
  refine Ct.of (cc := cX7_at) (maxL := 2) (ret := (some .int)) (by decide +kernel) rfl (Nat.le_of_ble_eq_true rfl) ?_
  intro X C hG hL hnm hR
  subst hG
  subst hL
  have C : Cx X cX7_at RX7 wsX7_at (some .int) 2 (rmD 0 0 0) := C
  show K_ X 0 0 [(mo, .inr (6, [.ref s, .int (iI st), .ref sv, .ref tx, .int (iI ty), .int (iI th), .ref fa, .ref ea, .ref go, .ref qu, .int (iI un), .int (iI om)])), (tx, .inl (g_C (x_G X), 60, .inl (aI ff)))] 0 [(0, .ref mo), (1, .int (iI i))] []
  refine k_iload_n C 1 rfl dX7_at_0 rfl ?_
  refine k_aload_n C 0 rfl dX7_at_1 rfl ?_
  refine k_get C (Cn := RX7) (T := TX7) (N := 12) (ci := 6) (ref := "StruckCountsModel") in_X7_at_X7 0 rfl rfl 4 (by decide) 1 rfl rfl (v := .int (iI ty)) rfl dX7_at_2 ?_
  refine k_icmp_ge C 17 (⟨by omega, by omega⟩) (⟨by omega, by omega⟩) dX7_at_5 (by decide) (fun c5 => ?_) (fun c5 => ?_)
  · skip
    refine k_iconst C dX7_at_17 ?_
    exact k_iret C hR (u := 0) rfl (by rw [tA_ge (by omega)]) rfl (Nat.le_of_ble_eq_true rfl) (Nat.le_of_ble_eq_true rfl) dX7_at_18
  · skip
    refine k_aload_n C 0 rfl dX7_at_8 rfl ?_
    refine k_get C (Cn := RX7) (T := TX7) (N := 12) (ci := 6) (ref := "StruckCountsModel") in_X7_at_X7 0 rfl rfl 3 (by decide) 2 rfl rfl (v := .ref tx) rfl dX7_at_9 ?_
    refine k_iload_n C 1 rfl dX7_at_12 rfl ?_
    refine k_cald C (f := ff) 1 rfl (⟨by omega, by omega⟩) (by decide) dX7_at_13 ?_
    refine k_nmI (fun v13 e13 => ?_)
    refine k_goto C 18 dX7_at_14 (by decide) ?_
    exact k_iret C hR (u := v13) rfl (by rw [e13, tA_lt (by omega)]) rfl (Nat.le_of_ble_eq_true rfl) (Nat.le_of_ble_eq_true rfl) dX7_at_18
theorem in_X7_clearText_X7 : ∀ w ∈ wsX70, w ∈ wsX7_clearText := by decide +kernel
set_option maxHeartbeats 4000000 in
set_option maxRecDepth 100000 in
theorem c_X7_clearText (l : Launch) (G : KG) (mo s sv tx fa ea go qu : Nat) (st ty th un om : Int)  : Ct l G yX7_clearText wsX7_clearText (rmD 0 0 0) [.ref mo] [(mo, .inr (6, [.ref s, .int (iI st), .ref sv, .ref tx, .int (iI ty), .int (iI th), .ref fa, .ref ea, .ref go, .ref qu, .int (iI un), .int (iI om)]))] (fun u : Unit => True) (fun u : Unit => some (.int (iI ty))) (fun u : Unit => [(mo, .inr (6, [.ref s, .int (iI st), .ref sv, .ref tx, .int (iI 0), .int (iI 0), .ref fa, .ref ea, .ref go, .ref qu, .int (iI un), .int (iI om)]))]) := by
  refine Ct.of (cc := cX7_clearText) (maxL := 2) (ret := (some .int)) (by decide +kernel) rfl (Nat.le_of_ble_eq_true rfl) ?_
  intro X C hG hL hnm hR
  subst hG
  subst hL
  have C : Cx X cX7_clearText RX7 wsX7_clearText (some .int) 2 (rmD 0 0 0) := C
  show K_ X 0 0 [(mo, .inr (6, [.ref s, .int (iI st), .ref sv, .ref tx, .int (iI ty), .int (iI th), .ref fa, .ref ea, .ref go, .ref qu, .int (iI un), .int (iI om)]))] 0 [(0, .ref mo)] []
  refine k_aload_n C 0 rfl dX7_clearText_0 rfl ?_
  refine k_iconst C dX7_clearText_1 ?_
  refine k_put C (Cn := RX7) (T := TX7) (N := 12) (ci := 6) (ref := "StruckCountsModel") in_X7_clearText_X7 tyX7 tyX7_ok nmX7 0 rfl rfl 5 (by decide) 1 rfl rfl rfl (v := .int (iI 0)) (rfl) (rfl) (Nat.le_of_ble_eq_true rfl) [(mo, .inr (6, [.ref s, .int (iI st), .ref sv, .ref tx, .int (iI ty), .int (iI 0), .ref fa, .ref ea, .ref go, .ref qu, .int (iI un), .int (iI om)]))] rfl dX7_clearText_2 ?_
  refine k_aload_n C 0 rfl dX7_clearText_5 rfl ?_
  refine k_get C (Cn := RX7) (T := TX7) (N := 12) (ci := 6) (ref := "StruckCountsModel") in_X7_clearText_X7 0 rfl rfl 4 (by decide) 2 rfl rfl (v := .int (iI ty)) rfl dX7_clearText_6 ?_
  refine k_istore_n C (lo' := [(1, .int (iI ty)), (0, .ref mo)]) dX7_clearText_9 rfl (by decide) rfl ?_
  refine k_aload_n C 1 rfl dX7_clearText_10 rfl ?_
  refine k_iconst C dX7_clearText_11 ?_
  refine k_put C (Cn := RX7) (T := TX7) (N := 12) (ci := 6) (ref := "StruckCountsModel") in_X7_clearText_X7 tyX7 tyX7_ok nmX7 0 rfl rfl 4 (by decide) 2 rfl rfl rfl (v := .int (iI 0)) (rfl) (rfl) (Nat.le_of_ble_eq_true rfl) [(mo, .inr (6, [.ref s, .int (iI st), .ref sv, .ref tx, .int (iI 0), .int (iI 0), .ref fa, .ref ea, .ref go, .ref qu, .int (iI un), .int (iI om)]))] rfl dX7_clearText_12 ?_
  refine k_iload_n C 0 rfl dX7_clearText_15 rfl ?_
  exact k_iret C hR (u := ()) rfl (by first | trivial | omega) rfl (Nat.le_of_ble_eq_true rfl) (Nat.le_of_ble_eq_true rfl) dX7_clearText_16
