theorem in_X7_again_X7 : ∀ w ∈ wsX70, w ∈ wsX7_again := by decide +kernel
set_option maxHeartbeats 4000000 in
set_option maxRecDepth 100000 in
theorem c_X7_again (l : Launch) (G : KG) (mo s sv tx fa ea go qu : Nat) (st ty th un om : Int) (R : List (Nat × Nat × Nat)) (sw : Nat → Option (Nat × Nat × Nat)) (n k m : Nat) (fs fv : Nat → Int) (hI : MI R sw n k m st fs fv) : Ct l G yX7_again wsX7_again (rmD 2 0 0) [.ref mo] [(mo, .inr (6, [.ref s, .int (iI st), .ref sv, .ref tx, .int (iI ty), .int (iI th), .ref fa, .ref ea, .ref go, .ref qu, .int (iI un), .int (iI om)])), (s, .inl (g_I G, 756, .inl (aI fs))), (sv, .inl (g_Z G, 2, .inl (aI fv)))] (fun u : Int × Int × (Nat → Int) => u.1 = (k : Int) ∧ MI (((n, k, m) :: R).take 14) sw n 0 0 u.2.1 u.2.2 fv) (fun u : Int × Int × (Nat → Int) => some (.int (iI u.1))) (fun u : Int × Int × (Nat → Int) => [(mo, .inr (6, [.ref s, .int (iI u.2.1), .ref sv, .ref tx, .int (iI ty), .int (iI 0), .ref fa, .ref ea, .ref go, .ref qu, .int (iI un), .int (iI om)])), (s, .inl (g_I G, 756, .inl (aI u.2.2))), (sv, .inl (g_Z G, 2, .inl (aI fv)))]) := by
  refine Ct.of (cc := cX7_again) (maxL := 2) (ret := (some .int)) (by decide +kernel) rfl (Nat.le_of_ble_eq_true rfl) ?_
  intro X C hG hL hnm hR
  subst hG
  subst hL
  have C : Cx X cX7_again RX7 wsX7_again (some .int) 2 (rmD 2 0 0) := C
  obtain ⟨m1, m2, m3, m4⟩ := id hI.2.1
  have mk : k ≤ 40 := m4.2.2.1
  have mn1 : 1 ≤ n := m4.1
  have mn2 : n ≤ 99999 := m4.2.1
  show K_ X 0 0 [(mo, .inr (6, [.ref s, .int (iI st), .ref sv, .ref tx, .int (iI ty), .int (iI th), .ref fa, .ref ea, .ref go, .ref qu, .int (iI un), .int (iI om)])), (s, .inl (g_I (x_G X), 756, .inl (aI fs))), (sv, .inl (g_Z (x_G X), 2, .inl (aI fv)))] 0 [(0, .ref mo)] []
  refine k_aload_n C 0 rfl dX7_again_0 rfl ?_
  refine k_iconst C dX7_again_1 ?_
  refine k_put C (Cn := RX7) (T := TX7) (N := 12) (ci := 6) (ref := "StruckCountsModel") in_X7_again_X7 tyX7 tyX7_ok nmX7 0 rfl rfl 5 (by decide) 1 rfl rfl rfl (v := .int (iI 0)) (rfl) (rfl) (Nat.le_of_ble_eq_true rfl) [(mo, .inr (6, [.ref s, .int (iI st), .ref sv, .ref tx, .int (iI ty), .int (iI 0), .ref fa, .ref ea, .ref go, .ref qu, .int (iI un), .int (iI om)])), (s, .inl (g_I (x_G X), 756, .inl (aI fs))), (sv, .inl (g_Z (x_G X), 2, .inl (aI fv)))] rfl dX7_again_2 ?_
  refine k_aload_n C 0 rfl dX7_again_5 rfl ?_
  refine k_callV C (y := yX7_remembers) [] 0 rfl (c_X7_remembers (x_l X) (x_G X) mo s sv tx fa ea go qu st ty 0 un om R n k m fs (hI.1) (hI.2.1)) gX7_again_X7_remembers rfl ⟨rfl, by decide +kernel, by decide +kernel, by decide +kernel⟩ ⟨by decide, by decide⟩ 0 (fs := [.ref s, .int (iI st), .ref sv, .ref tx, .int (iI ty), .int (iI 0), .ref fa, .ref ea, .ref go, .ref qu, .int (iI un), .int (iI om)]) rfl rfl rfl [0, 1] (by decide) (wc := [(mo, .inr (6, [.ref s, .int (iI st), .ref sv, .ref tx, .int (iI ty), .int (iI 0), .ref fa, .ref ea, .ref go, .ref qu, .int (iI un), .int (iI om)])), (s, .inl (g_I (x_G X), 756, .inl (aI fs)))]) rfl [] rfl (Nat.le_of_ble_eq_true rfl) ⟨Nat.le_of_ble_eq_true rfl, Nat.le_of_ble_eq_true rfl⟩ dX7_again_6 (fun u6 => [(mo, .inr (6, [.ref s, .int (iI u6.1), .ref sv, .ref tx, .int (iI ty), .int (iI 0), .ref fa, .ref ea, .ref go, .ref qu, .int (iI un), .int (iI om)])), (s, .inl (g_I (x_G X), 756, .inl (aI u6.2))), (sv, .inl (g_Z (x_G X), 2, .inl (aI fv)))]) (Or.inr ⟨[2], [1, 2, 0], [(sv, .inl (g_Z (x_G X), 2, .inl (aI fv)))], rfl, by decide, by decide, by decide, fun _ => rfl⟩) (fun u6 => []) (fun _ => rfl) 0 0 ⟨rfl, rfl⟩ (fun u6 hu6 => ?_)
  have hI2 := MI_rem hI hu6
  refine k_aload_n C 0 rfl dX7_again_9 rfl ?_
  refine k_get C (Cn := RX7) (T := TX7) (N := 12) (ci := 6) (ref := "StruckCountsModel") in_X7_again_X7 0 rfl rfl 0 (by decide) 2 rfl rfl (v := .ref s) rfl dX7_again_10 ?_
  refine k_iconst C dX7_again_13 ?_
  refine k_iald C (f := u6.2) 1 rfl (⟨by omega, by omega⟩) (by decide) dX7_again_14 ?_
  refine k_nmI (fun v14 e14 => ?_)
  have hk : v14 = (k : Int) := by rw [e14]; exact hI2.2.1.2.1
  refine k_istore_n C (lo' := [(1, .int (iI v14)), (0, .ref mo)]) dX7_again_15 rfl (by decide) rfl ?_
  refine k_aload_n C 1 rfl dX7_again_16 rfl ?_
  refine k_get C (Cn := RX7) (T := TX7) (N := 12) (ci := 6) (ref := "StruckCountsModel") in_X7_again_X7 0 rfl rfl 0 (by decide) 2 rfl rfl (v := .ref s) rfl dX7_again_17 ?_
  refine k_iconst C dX7_again_20 ?_
  refine k_iconst C dX7_again_21 ?_
  refine k_iast C (f := u6.2) 1 rfl (⟨by omega, by omega⟩) (by decide) (fun gg => [(mo, .inr (6, [.ref s, .int (iI u6.1), .ref sv, .ref tx, .int (iI ty), .int (iI 0), .ref fa, .ref ea, .ref go, .ref qu, .int (iI un), .int (iI om)])), (s, .inl (g_I (x_G X), 756, .inl (aI gg))), (sv, .inl (g_Z (x_G X), 2, .inl (aI fv)))]) (fun _ => rfl) dX7_again_22 (fun g22 e22 => ?_)
  have hb := MS_ag (J := 0) hI2.2.1 e22
  refine k_iload_n C 0 rfl dX7_again_23 rfl ?_
  exact k_iret C hR (u := (v14, u6.1, g22)) rfl (by (try dsimp only) <;> exact (⟨hk, MI_0 hI2 hb.2 hb.1⟩)) rfl (Nat.le_of_ble_eq_true rfl) (Nat.le_of_ble_eq_true rfl) dX7_again_24
theorem in_X7_undo_X7 : ∀ w ∈ wsX70, w ∈ wsX7_undo := by decide +kernel
set_option maxHeartbeats 4000000 in
set_option maxRecDepth 100000 in
theorem c_X7_undo (l : Launch) (G : KG) (mo s sv tx fa ea go qu : Nat) (st ty th un om : Int) (R : List (Nat × Nat × Nat)) (sw : Nat → Option (Nat × Nat × Nat)) (n k m : Nat) (fs fv : Nat → Int) (hI : MI R sw n k m st fs fv) : Ct l G yX7_undo wsX7_undo (rmD 1 0 0) [.ref mo] [(mo, .inr (6, [.ref s, .int (iI st), .ref sv, .ref tx, .int (iI ty), .int (iI th), .ref fa, .ref ea, .ref go, .ref qu, .int (iI un), .int (iI om)])), (s, .inl (g_I G, 756, .inl (aI fs))), (sv, .inl (g_Z G, 2, .inl (aI fv)))] (fun u : Int × Int × Int × (Nat → Int) => (∃ x R2, R = x :: R2 ∧ u.1 = u.2.2.1 ∧ u.2.1 = 0 ∧ MI R2 sw x.1 x.2.1 x.2.2 u.2.2.1 u.2.2.2 fv) ∨ (R = [] ∧ u.2.1 = 1 ∧ MI R sw n k m u.2.2.1 u.2.2.2 fv)) (fun u : Int × Int × Int × (Nat → Int) => some (.int (iI u.1))) (fun u : Int × Int × Int × (Nat → Int) => [(mo, .inr (6, [.ref s, .int (iI u.2.2.1), .ref sv, .ref tx, .int (iI ty), .int (iI u.2.1), .ref fa, .ref ea, .ref go, .ref qu, .int (iI un), .int (iI om)])), (s, .inl (g_I G, 756, .inl (aI u.2.2.2))), (sv, .inl (g_Z G, 2, .inl (aI fv)))]) := by
  refine Ct.of (cc := cX7_undo) (maxL := 1) (ret := (some .int)) (by decide +kernel) rfl (Nat.le_of_ble_eq_true rfl) ?_
  intro X C hG hL hnm hR
  subst hG
  subst hL
  have C : Cx X cX7_undo RX7 wsX7_undo (some .int) 1 (rmD 1 0 0) := C
  obtain ⟨m1, m2, m3, m4⟩ := id hI.2.1
  have mk : k ≤ 40 := m4.2.2.1
  have mn1 : 1 ≤ n := m4.1
  have mn2 : n ≤ 99999 := m4.2.1
  have hl1 := hI.1.1
  have hl2 := hI.1.2.1
  show K_ X 0 0 [(mo, .inr (6, [.ref s, .int (iI st), .ref sv, .ref tx, .int (iI ty), .int (iI th), .ref fa, .ref ea, .ref go, .ref qu, .int (iI un), .int (iI om)])), (s, .inl (g_I (x_G X), 756, .inl (aI fs))), (sv, .inl (g_Z (x_G X), 2, .inl (aI fv)))] 0 [(0, .ref mo)] []
  refine k_aload_n C 0 rfl dX7_undo_0 rfl ?_
  refine k_aload_n C 0 rfl dX7_undo_1 rfl ?_
  refine k_get C (Cn := RX7) (T := TX7) (N := 12) (ci := 6) (ref := "StruckCountsModel") in_X7_undo_X7 0 rfl rfl 1 (by decide) 1 rfl rfl (v := .int (iI st)) rfl dX7_undo_2 ?_
  refine k_if_le C 12 (⟨by omega, by omega⟩) dX7_undo_5 (by decide) (fun c5 => ?_) (fun c5 => ?_)
  · skip
    refine k_iconst C dX7_undo_12 ?_
    refine k_iconst C dX7_undo_13 ?_
    refine k_callV C (y := yX7_goes) [.int (iI 0), .int (iI 1)] 2 rfl (c_X7_goes (x_l X) (x_G X) mo s sv tx fa ea go qu st ty th un om 0 1 (by omega) (by omega)) gX7_undo_X7_goes rfl ⟨rfl, by decide +kernel, by decide +kernel, by decide +kernel⟩ ⟨by decide, by decide⟩ 0 (fs := [.ref s, .int (iI st), .ref sv, .ref tx, .int (iI ty), .int (iI th), .ref fa, .ref ea, .ref go, .ref qu, .int (iI un), .int (iI om)]) rfl rfl rfl [0] (by decide) (wc := [(mo, .inr (6, [.ref s, .int (iI st), .ref sv, .ref tx, .int (iI ty), .int (iI th), .ref fa, .ref ea, .ref go, .ref qu, .int (iI un), .int (iI om)]))]) rfl [] rfl (Nat.le_of_ble_eq_true rfl) ⟨Nat.le_of_ble_eq_true rfl, Nat.le_of_ble_eq_true rfl⟩ dX7_undo_14 (fun u14 => [(mo, .inr (6, [.ref s, .int (iI st), .ref sv, .ref tx, .int (iI ty), .int (iI u14.2), .ref fa, .ref ea, .ref go, .ref qu, .int (iI un), .int (iI om)])), (s, .inl (g_I (x_G X), 756, .inl (aI fs))), (sv, .inl (g_Z (x_G X), 2, .inl (aI fv)))]) (Or.inr ⟨[1, 2], [2, 0, 1], [(s, .inl (g_I (x_G X), 756, .inl (aI fs))), (sv, .inl (g_Z (x_G X), 2, .inl (aI fv)))], rfl, by decide, by decide, by decide, fun _ => rfl⟩) (fun u14 => [.int (iI u14.1)]) (fun _ => rfl) 0 0 ⟨rfl, rfl⟩ (fun u14 hu14 => ?_)
    refine k_if_ne C 22 (⟨by omega, by omega⟩) dX7_undo_17 (by decide) (fun c17 => ?_) (fun c17 => ?_)
    · exfalso; omega
    · skip
      refine k_iconst C dX7_undo_20 ?_
      exact k_iret C hR (u := (0, u14.2, st, fs)) rfl (by (try dsimp only) <;> exact (Or.inr ⟨List.eq_nil_of_length_eq_zero (by omega), by omega, hI⟩)) rfl (Nat.le_of_ble_eq_true rfl) (Nat.le_of_ble_eq_true rfl) dX7_undo_21
  · skip
    refine k_iconst C dX7_undo_8 ?_
    refine k_goto C 13 dX7_undo_9 (by decide) ?_
    refine k_iconst C dX7_undo_13 ?_
    refine k_callV C (y := yX7_goes) [.int (iI 1), .int (iI 1)] 2 rfl (c_X7_goes (x_l X) (x_G X) mo s sv tx fa ea go qu st ty th un om 1 1 (by omega) (by omega)) gX7_undo_X7_goes rfl ⟨rfl, by decide +kernel, by decide +kernel, by decide +kernel⟩ ⟨by decide, by decide⟩ 0 (fs := [.ref s, .int (iI st), .ref sv, .ref tx, .int (iI ty), .int (iI th), .ref fa, .ref ea, .ref go, .ref qu, .int (iI un), .int (iI om)]) rfl rfl rfl [0] (by decide) (wc := [(mo, .inr (6, [.ref s, .int (iI st), .ref sv, .ref tx, .int (iI ty), .int (iI th), .ref fa, .ref ea, .ref go, .ref qu, .int (iI un), .int (iI om)]))]) rfl [] rfl (Nat.le_of_ble_eq_true rfl) ⟨Nat.le_of_ble_eq_true rfl, Nat.le_of_ble_eq_true rfl⟩ dX7_undo_14 (fun u14 => [(mo, .inr (6, [.ref s, .int (iI st), .ref sv, .ref tx, .int (iI ty), .int (iI u14.2), .ref fa, .ref ea, .ref go, .ref qu, .int (iI un), .int (iI om)])), (s, .inl (g_I (x_G X), 756, .inl (aI fs))), (sv, .inl (g_Z (x_G X), 2, .inl (aI fv)))]) (Or.inr ⟨[1, 2], [2, 0, 1], [(s, .inl (g_I (x_G X), 756, .inl (aI fs))), (sv, .inl (g_Z (x_G X), 2, .inl (aI fv)))], rfl, by decide, by decide, by decide, fun _ => rfl⟩) (fun u14 => [.int (iI u14.1)]) (fun _ => rfl) 0 0 ⟨rfl, rfl⟩ (fun u14 hu14 => ?_)
    refine k_if_ne C 22 (⟨by omega, by omega⟩) dX7_undo_17 (by decide) (fun c17 => ?_) (fun c17 => ?_)
    · skip
      refine k_aload_n C 0 rfl dX7_undo_22 rfl ?_
      refine k_aload_n C 0 rfl dX7_undo_23 rfl ?_
      refine k_get C (Cn := RX7) (T := TX7) (N := 12) (ci := 6) (ref := "StruckCountsModel") in_X7_undo_X7 0 rfl rfl 1 (by decide) 1 rfl rfl (v := .int (iI st)) rfl dX7_undo_24 ?_
      refine k_iconst C dX7_undo_27 ?_
      refine k_callV C (y := yX7_copies) [.int (iI st), .int (iI 0)] 2 rfl (c_X7_copies (x_l X) (x_G X) mo s sv tx fa ea go qu st ty u14.2 un om st 0 st.toNat 0 fs (by omega) (by omega) (by omega) (by omega) (by omega)) gX7_undo_X7_copies rfl ⟨rfl, by decide +kernel, by decide +kernel, by decide +kernel⟩ ⟨by decide, by decide⟩ 0 (fs := [.ref s, .int (iI st), .ref sv, .ref tx, .int (iI ty), .int (iI u14.2), .ref fa, .ref ea, .ref go, .ref qu, .int (iI un), .int (iI om)]) rfl rfl rfl [0, 1] (by decide) (wc := [(mo, .inr (6, [.ref s, .int (iI st), .ref sv, .ref tx, .int (iI ty), .int (iI u14.2), .ref fa, .ref ea, .ref go, .ref qu, .int (iI un), .int (iI om)])), (s, .inl (g_I (x_G X), 756, .inl (aI fs)))]) rfl [] rfl (Nat.le_of_ble_eq_true rfl) ⟨Nat.le_of_ble_eq_true rfl, Nat.le_of_ble_eq_true rfl⟩ dX7_undo_28 (fun u28 => [(mo, .inr (6, [.ref s, .int (iI st), .ref sv, .ref tx, .int (iI ty), .int (iI u14.2), .ref fa, .ref ea, .ref go, .ref qu, .int (iI un), .int (iI om)])), (s, .inl (g_I (x_G X), 756, .inl (aI u28))), (sv, .inl (g_Z (x_G X), 2, .inl (aI fv)))]) (Or.inr ⟨[2], [1, 2, 0], [(sv, .inl (g_Z (x_G X), 2, .inl (aI fv)))], rfl, by decide, by decide, by decide, fun _ => rfl⟩) (fun u28 => []) (fun _ => rfl) 0 0 ⟨rfl, rfl⟩ (fun u28 hu28 => ?_)
      refine k_aload_n C 0 rfl dX7_undo_31 rfl ?_
      refine k_dup C dX7_undo_32 rfl ?_
      refine k_get C (Cn := RX7) (T := TX7) (N := 12) (ci := 6) (ref := "StruckCountsModel") in_X7_undo_X7 0 rfl rfl 1 (by decide) 1 rfl rfl (v := .int (iI st)) rfl dX7_undo_33 ?_
      refine k_iconst C dX7_undo_36 ?_
      refine k_isub C dX7_undo_37 ?_
      refine k_nmI (fun v37 e37 => ?_)
      refine k_put C (Cn := RX7) (T := TX7) (N := 12) (ci := 6) (ref := "StruckCountsModel") in_X7_undo_X7 tyX7 tyX7_ok nmX7 0 rfl rfl 1 (by decide) 1 rfl rfl rfl (v := .int (iI v37)) (rfl) (rfl) (Nat.le_of_ble_eq_true rfl) [(mo, .inr (6, [.ref s, .int (iI v37), .ref sv, .ref tx, .int (iI ty), .int (iI u14.2), .ref fa, .ref ea, .ref go, .ref qu, .int (iI un), .int (iI om)])), (s, .inl (g_I (x_G X), 756, .inl (aI u28))), (sv, .inl (g_Z (x_G X), 2, .inl (aI fv)))] rfl dX7_undo_38 ?_
      refine k_aload_n C 0 rfl dX7_undo_41 rfl ?_
      refine k_get C (Cn := RX7) (T := TX7) (N := 12) (ci := 6) (ref := "StruckCountsModel") in_X7_undo_X7 0 rfl rfl 1 (by decide) 1 rfl rfl (v := .int (iI v37)) rfl dX7_undo_42 ?_
      exact k_iret C hR (u := (v37, u14.2, v37, u28)) rfl (by (try dsimp only) <;> exact (Or.inl (by rcases R with _ | ⟨x, R2⟩; (rw [List.length_nil] at hl1; omega); exact ⟨x, R2, rfl, rfl, by omega, MI_undo hI rfl hu28 (by omega)⟩))) rfl (Nat.le_of_ble_eq_true rfl) (Nat.le_of_ble_eq_true rfl) dX7_undo_45
    · exfalso; omega
theorem in_X7_save_X7 : ∀ w ∈ wsX70, w ∈ wsX7_save := by decide +kernel
set_option maxHeartbeats 4000000 in
set_option maxRecDepth 100000 in
theorem c_X7_save (l : Launch) (G : KG) (mo s sv tx fa ea go qu : Nat) (st ty th un om : Int) (R : List (Nat × Nat × Nat)) (sw : Nat → Option (Nat × Nat × Nat)) (n k m : Nat) (q : Int) (fs fv : Nat → Int) (hI : MI R sw n k m st fs fv) (hq : -2147483648 ≤ q ∧ q < 2147483648) : Ct l G yX7_save wsX7_save (rmD 1 0 0) [.ref mo, .int (iI q)] [(mo, .inr (6, [.ref s, .int (iI st), .ref sv, .ref tx, .int (iI ty), .int (iI th), .ref fa, .ref ea, .ref go, .ref qu, .int (iI un), .int (iI om)])), (s, .inl (g_I G, 756, .inl (aI fs))), (sv, .inl (g_Z G, 2, .inl (aI fv)))] (fun u : Int × Int × (Nat → Int) × (Nat → Int) => ((0 ≤ q ∧ q ≤ 1) ∧ u.1 = (n : Int) ∧ u.2.1 = 0 ∧ MI R (svU sw q.toNat (n, k, m)) n k m st u.2.2.1 u.2.2.2) ∨ (¬ (0 ≤ q ∧ q ≤ 1) ∧ u.2.1 = 1 ∧ MI R sw n k m st u.2.2.1 u.2.2.2)) (fun u : Int × Int × (Nat → Int) × (Nat → Int) => some (.int (iI u.1))) (fun u : Int × Int × (Nat → Int) × (Nat → Int) => [(mo, .inr (6, [.ref s, .int (iI st), .ref sv, .ref tx, .int (iI ty), .int (iI u.2.1), .ref fa, .ref ea, .ref go, .ref qu, .int (iI un), .int (iI om)])), (s, .inl (g_I G, 756, .inl (aI u.2.2.1))), (sv, .inl (g_Z G, 2, .inl (aI u.2.2.2)))]) := by
  refine Ct.of (cc := cX7_save) (maxL := 2) (ret := (some .int)) (by decide +kernel) rfl (Nat.le_of_ble_eq_true rfl) ?_
  intro X C hG hL hnm hR
  subst hG
  subst hL
  have C : Cx X cX7_save RX7 wsX7_save (some .int) 2 (rmD 1 0 0) := C
  obtain ⟨m1, m2, m3, m4⟩ := id hI.2.1
  have mk : k ≤ 40 := m4.2.2.1
  have mn1 : 1 ≤ n := m4.1
  have mn2 : n ≤ 99999 := m4.2.1
  show K_ X 0 0 [(mo, .inr (6, [.ref s, .int (iI st), .ref sv, .ref tx, .int (iI ty), .int (iI th), .ref fa, .ref ea, .ref go, .ref qu, .int (iI un), .int (iI om)])), (s, .inl (g_I (x_G X), 756, .inl (aI fs))), (sv, .inl (g_Z (x_G X), 2, .inl (aI fv)))] 0 [(0, .ref mo), (1, .int (iI q))] []
  refine k_aload_n C 0 rfl dX7_save_0 rfl ?_
  refine k_iload_n C 1 rfl dX7_save_1 rfl ?_
  refine k_iconst C dX7_save_2 ?_
  refine k_iconst C dX7_save_3 ?_
  refine k_callS C (y := yX7_in) [.int (iI q), .int (iI 0), .int (iI 1)] 3 rfl (c_X7_in (x_l X) (x_G X) q 0 1 (by omega) (by omega) (by omega)) gX7_save_X7_in rfl ⟨by decide +kernel, by decide +kernel, by decide +kernel⟩ ⟨by decide, by decide⟩ [] (by decide) (wc := []) rfl [.ref mo] rfl (Nat.le_of_ble_eq_true rfl) ⟨Nat.le_of_ble_eq_true rfl, Nat.le_of_ble_eq_true rfl⟩ dX7_save_4 (fun _ => [(mo, .inr (6, [.ref s, .int (iI st), .ref sv, .ref tx, .int (iI ty), .int (iI th), .ref fa, .ref ea, .ref go, .ref qu, .int (iI un), .int (iI om)])), (s, .inl (g_I (x_G X), 756, .inl (aI fs))), (sv, .inl (g_Z (x_G X), 2, .inl (aI fv)))]) (Or.inl (fun _ => ⟨rfl, rfl⟩)) (fun u4 => [.int (iI u4), .ref mo]) (fun _ => rfl) 0 0 ⟨rfl, rfl⟩ (fun u4 hu4 => ?_)
  refine k_iconst C dX7_save_7 ?_
  refine k_callV C (y := yX7_goes) [.int (iI u4), .int (iI 1)] 2 rfl (c_X7_goes (x_l X) (x_G X) mo s sv tx fa ea go qu st ty th un om u4 1 (by omega) (by omega)) gX7_save_X7_goes rfl ⟨rfl, by decide +kernel, by decide +kernel, by decide +kernel⟩ ⟨by decide, by decide⟩ 0 (fs := [.ref s, .int (iI st), .ref sv, .ref tx, .int (iI ty), .int (iI th), .ref fa, .ref ea, .ref go, .ref qu, .int (iI un), .int (iI om)]) rfl rfl rfl [0] (by decide) (wc := [(mo, .inr (6, [.ref s, .int (iI st), .ref sv, .ref tx, .int (iI ty), .int (iI th), .ref fa, .ref ea, .ref go, .ref qu, .int (iI un), .int (iI om)]))]) rfl [] rfl (Nat.le_of_ble_eq_true rfl) ⟨Nat.le_of_ble_eq_true rfl, Nat.le_of_ble_eq_true rfl⟩ dX7_save_8 (fun u8 => [(mo, .inr (6, [.ref s, .int (iI st), .ref sv, .ref tx, .int (iI ty), .int (iI u8.2), .ref fa, .ref ea, .ref go, .ref qu, .int (iI un), .int (iI om)])), (s, .inl (g_I (x_G X), 756, .inl (aI fs))), (sv, .inl (g_Z (x_G X), 2, .inl (aI fv)))]) (Or.inr ⟨[1, 2], [2, 0, 1], [(s, .inl (g_I (x_G X), 756, .inl (aI fs))), (sv, .inl (g_Z (x_G X), 2, .inl (aI fv)))], rfl, by decide, by decide, by decide, fun _ => rfl⟩) (fun u8 => [.int (iI u8.1)]) (fun _ => rfl) 0 0 ⟨rfl, rfl⟩ (fun u8 hu8 => ?_)
  refine k_if_ne C 16 (⟨by omega, by omega⟩) dX7_save_11 (by decide) (fun c11 => ?_) (fun c11 => ?_)
  · skip
    refine k_aload_n C 0 rfl dX7_save_16 rfl ?_
    refine k_iconst C dX7_save_17 ?_
    refine k_bipush C dX7_save_18 (by decide) ?_
    refine k_iload_n C 1 rfl dX7_save_20 rfl ?_
    refine k_iadd C dX7_save_21 ?_
    refine k_nmI (fun v21 e21 => ?_)
    refine k_callV C (y := yX7_copies) [.int (iI 0), .int (iI v21)] 2 rfl (c_X7_copies (x_l X) (x_G X) mo s sv tx fa ea go qu st ty u8.2 un om 0 v21 0 (15 + q.toNat) fs (rfl) (by omega) (by omega) (by omega) (by omega)) gX7_save_X7_copies rfl ⟨rfl, by decide +kernel, by decide +kernel, by decide +kernel⟩ ⟨by decide, by decide⟩ 0 (fs := [.ref s, .int (iI st), .ref sv, .ref tx, .int (iI ty), .int (iI u8.2), .ref fa, .ref ea, .ref go, .ref qu, .int (iI un), .int (iI om)]) rfl rfl rfl [0, 1] (by decide) (wc := [(mo, .inr (6, [.ref s, .int (iI st), .ref sv, .ref tx, .int (iI ty), .int (iI u8.2), .ref fa, .ref ea, .ref go, .ref qu, .int (iI un), .int (iI om)])), (s, .inl (g_I (x_G X), 756, .inl (aI fs)))]) rfl [] rfl (Nat.le_of_ble_eq_true rfl) ⟨Nat.le_of_ble_eq_true rfl, Nat.le_of_ble_eq_true rfl⟩ dX7_save_22 (fun u22 => [(mo, .inr (6, [.ref s, .int (iI st), .ref sv, .ref tx, .int (iI ty), .int (iI u8.2), .ref fa, .ref ea, .ref go, .ref qu, .int (iI un), .int (iI om)])), (s, .inl (g_I (x_G X), 756, .inl (aI u22))), (sv, .inl (g_Z (x_G X), 2, .inl (aI fv)))]) (Or.inr ⟨[2], [1, 2, 0], [(sv, .inl (g_Z (x_G X), 2, .inl (aI fv)))], rfl, by decide, by decide, by decide, fun _ => rfl⟩) (fun u22 => []) (fun _ => rfl) 0 0 ⟨rfl, rfl⟩ (fun u22 hu22 => ?_)
    refine k_aload_n C 0 rfl dX7_save_25 rfl ?_
    refine k_get C (Cn := RX7) (T := TX7) (N := 12) (ci := 6) (ref := "StruckCountsModel") in_X7_save_X7 0 rfl rfl 2 (by decide) 1 rfl rfl (v := .ref sv) rfl dX7_save_26 ?_
    refine k_iload_n C 1 rfl dX7_save_29 rfl ?_
    refine k_iconst C dX7_save_30 ?_
    refine k_zast C (f := fv) 2 rfl (⟨by omega, by omega⟩) (by decide) (by decide) (fun gg => [(mo, .inr (6, [.ref s, .int (iI st), .ref sv, .ref tx, .int (iI ty), .int (iI u8.2), .ref fa, .ref ea, .ref go, .ref qu, .int (iI un), .int (iI om)])), (s, .inl (g_I (x_G X), 756, .inl (aI u22))), (sv, .inl (g_Z (x_G X), 2, .inl (aI gg)))]) (fun _ => rfl) dX7_save_31 (fun g31 e31 => ?_)
    have hI2 := MI_save hI (sl := q.toNat) (by omega) rfl hu22 e31
    refine k_aload_n C 0 rfl dX7_save_32 rfl ?_
    refine k_get C (Cn := RX7) (T := TX7) (N := 12) (ci := 6) (ref := "StruckCountsModel") in_X7_save_X7 0 rfl rfl 0 (by decide) 2 rfl rfl (v := .ref s) rfl dX7_save_33 ?_
    refine k_iconst C dX7_save_36 ?_
    refine k_iald C (f := u22) 1 rfl (⟨by omega, by omega⟩) (by decide) dX7_save_37 ?_
    refine k_nmI (fun v37 e37 => ?_)
    have hn : v37 = (n : Int) := by rw [e37]; exact hI2.2.1.1
    exact k_iret C hR (u := (v37, u8.2, u22, g31)) rfl (by (try dsimp only) <;> exact (Or.inl ⟨by omega, hn, by omega, hI2⟩)) rfl (Nat.le_of_ble_eq_true rfl) (Nat.le_of_ble_eq_true rfl) dX7_save_38
  · skip
    refine k_iconst C dX7_save_14 ?_
    exact k_iret C hR (u := (0, u8.2, fs, fv)) rfl (by (try dsimp only) <;> exact (Or.inr ⟨by omega, by omega, hI⟩)) rfl (Nat.le_of_ble_eq_true rfl) (Nat.le_of_ble_eq_true rfl) dX7_save_15
theorem in_X7_restore_X7 : ∀ w ∈ wsX70, w ∈ wsX7_restore := by decide +kernel
set_option maxHeartbeats 4000000 in
set_option maxRecDepth 100000 in
theorem c_X7_restore (l : Launch) (G : KG) (mo s sv tx fa ea go qu : Nat) (st ty th un om : Int) (R : List (Nat × Nat × Nat)) (sw : Nat → Option (Nat × Nat × Nat)) (n k m : Nat) (q : Int) (fs fv : Nat → Int) (hI : MI R sw n k m st fs fv) (hq : -2147483648 ≤ q ∧ q < 2147483648) : Ct l G yX7_restore wsX7_restore (rmD 1 0 0) [.ref mo, .int (iI q)] [(mo, .inr (6, [.ref s, .int (iI st), .ref sv, .ref tx, .int (iI ty), .int (iI th), .ref fa, .ref ea, .ref go, .ref qu, .int (iI un), .int (iI om)])), (s, .inl (g_I G, 756, .inl (aI fs))), (sv, .inl (g_Z G, 2, .inl (aI fv)))] (fun u : Int × Int × Int × (Nat → Int) => ((0 ≤ q ∧ q ≤ 1) ∧ ∃ x, sw q.toNat = some x ∧ u.1 = (x.1 : Int) ∧ u.2.1 = 0 ∧ MI [] sw x.1 x.2.1 x.2.2 u.2.2.1 u.2.2.2 fv) ∨ (¬ (0 ≤ q ∧ q ≤ 1) ∧ u.2.1 = 1 ∧ MI R sw n k m u.2.2.1 u.2.2.2 fv) ∨ ((0 ≤ q ∧ q ≤ 1) ∧ sw q.toNat = none ∧ u.2.1 = 2 ∧ MI R sw n k m u.2.2.1 u.2.2.2 fv)) (fun u : Int × Int × Int × (Nat → Int) => some (.int (iI u.1))) (fun u : Int × Int × Int × (Nat → Int) => [(mo, .inr (6, [.ref s, .int (iI u.2.2.1), .ref sv, .ref tx, .int (iI ty), .int (iI u.2.1), .ref fa, .ref ea, .ref go, .ref qu, .int (iI un), .int (iI om)])), (s, .inl (g_I G, 756, .inl (aI u.2.2.2))), (sv, .inl (g_Z G, 2, .inl (aI fv)))]) := by
  refine Ct.of (cc := cX7_restore) (maxL := 3) (ret := (some .int)) (by decide +kernel) rfl (Nat.le_of_ble_eq_true rfl) ?_
  intro X C hG hL hnm hR
  subst hG
  subst hL
  have C : Cx X cX7_restore RX7 wsX7_restore (some .int) 3 (rmD 1 0 0) := C
  obtain ⟨m1, m2, m3, m4⟩ := id hI.2.1
  have mk : k ≤ 40 := m4.2.2.1
  have mn1 : 1 ≤ n := m4.1
  have mn2 : n ≤ 99999 := m4.2.1
  show K_ X 0 0 [(mo, .inr (6, [.ref s, .int (iI st), .ref sv, .ref tx, .int (iI ty), .int (iI th), .ref fa, .ref ea, .ref go, .ref qu, .int (iI un), .int (iI om)])), (s, .inl (g_I (x_G X), 756, .inl (aI fs))), (sv, .inl (g_Z (x_G X), 2, .inl (aI fv)))] 0 [(0, .ref mo), (1, .int (iI q))] []
  refine k_iload_n C 1 rfl dX7_restore_0 rfl ?_
  refine k_iconst C dX7_restore_1 ?_
  refine k_iconst C dX7_restore_2 ?_
  refine k_callS C (y := yX7_in) [.int (iI q), .int (iI 0), .int (iI 1)] 3 rfl (c_X7_in (x_l X) (x_G X) q 0 1 (by omega) (by omega) (by omega)) gX7_restore_X7_in rfl ⟨by decide +kernel, by decide +kernel, by decide +kernel⟩ ⟨by decide, by decide⟩ [] (by decide) (wc := []) rfl [] rfl (Nat.le_of_ble_eq_true rfl) ⟨Nat.le_of_ble_eq_true rfl, Nat.le_of_ble_eq_true rfl⟩ dX7_restore_3 (fun _ => [(mo, .inr (6, [.ref s, .int (iI st), .ref sv, .ref tx, .int (iI ty), .int (iI th), .ref fa, .ref ea, .ref go, .ref qu, .int (iI un), .int (iI om)])), (s, .inl (g_I (x_G X), 756, .inl (aI fs))), (sv, .inl (g_Z (x_G X), 2, .inl (aI fv)))]) (Or.inl (fun _ => ⟨rfl, rfl⟩)) (fun u3 => [.int (iI u3)]) (fun _ => rfl) 0 0 ⟨rfl, rfl⟩ (fun u3 hu3 => ?_)
  refine k_istore_n C (lo' := [(2, .int (iI u3)), (0, .ref mo), (1, .int (iI q))]) dX7_restore_6 rfl (by decide) rfl ?_
  refine k_aload_n C 1 rfl dX7_restore_7 rfl ?_
  refine k_iload_n C 0 rfl dX7_restore_8 rfl ?_
  refine k_iload_n C 0 rfl dX7_restore_9 rfl ?_
  refine k_if_eq C 26 (⟨by omega, by omega⟩) dX7_restore_10 (by decide) (fun c10 => ?_) (fun c10 => ?_)
  · skip
    have hu3 := bo_f hu3 c10
    refine k_iconst C dX7_restore_26 ?_
    refine k_callV C (y := yX7_goes) [.int (iI u3), .int (iI 0)] 2 rfl (c_X7_goes (x_l X) (x_G X) mo s sv tx fa ea go qu st ty th un om u3 0 (by omega) (by omega)) gX7_restore_X7_goes rfl ⟨rfl, by decide +kernel, by decide +kernel, by decide +kernel⟩ ⟨by decide, by decide⟩ 0 (fs := [.ref s, .int (iI st), .ref sv, .ref tx, .int (iI ty), .int (iI th), .ref fa, .ref ea, .ref go, .ref qu, .int (iI un), .int (iI om)]) rfl rfl rfl [0] (by decide) (wc := [(mo, .inr (6, [.ref s, .int (iI st), .ref sv, .ref tx, .int (iI ty), .int (iI th), .ref fa, .ref ea, .ref go, .ref qu, .int (iI un), .int (iI om)]))]) rfl [] rfl (Nat.le_of_ble_eq_true rfl) ⟨Nat.le_of_ble_eq_true rfl, Nat.le_of_ble_eq_true rfl⟩ dX7_restore_27 (fun u27 => [(mo, .inr (6, [.ref s, .int (iI st), .ref sv, .ref tx, .int (iI ty), .int (iI u27.2), .ref fa, .ref ea, .ref go, .ref qu, .int (iI un), .int (iI om)])), (s, .inl (g_I (x_G X), 756, .inl (aI fs))), (sv, .inl (g_Z (x_G X), 2, .inl (aI fv)))]) (Or.inr ⟨[1, 2], [2, 0, 1], [(s, .inl (g_I (x_G X), 756, .inl (aI fs))), (sv, .inl (g_Z (x_G X), 2, .inl (aI fv)))], rfl, by decide, by decide, by decide, fun _ => rfl⟩) (fun u27 => [.int (iI u27.1)]) (fun _ => rfl) 0 0 ⟨rfl, rfl⟩ (fun u27 hu27 => ?_)
    refine k_if_ne C 35 (⟨by omega, by omega⟩) dX7_restore_30 (by decide) (fun c30 => ?_) (fun c30 => ?_)
    · exfalso; omega
    · skip
      refine k_iconst C dX7_restore_33 ?_
      exact k_iret C hR (u := (0, u27.2, st, fs)) rfl (by (try dsimp only) <;> exact (by first | exact Or.inr (Or.inl ⟨by omega, by omega, hI⟩) | exact Or.inr (Or.inr ⟨by omega, y2, by omega, hI⟩))) rfl (Nat.le_of_ble_eq_true rfl) (Nat.le_of_ble_eq_true rfl) dX7_restore_34
  · skip
    have hu3 := bo_t hu3 c10
    refine k_aload_n C 1 rfl dX7_restore_13 rfl ?_
    refine k_get C (Cn := RX7) (T := TX7) (N := 12) (ci := 6) (ref := "StruckCountsModel") in_X7_restore_X7 0 rfl rfl 2 (by decide) 1 rfl rfl (v := .ref sv) rfl dX7_restore_14 ?_
    refine k_iload_n C 2 rfl dX7_restore_17 rfl ?_
    refine k_zald C (f := fv) 2 rfl (⟨by omega, by omega⟩) (by decide) dX7_restore_18 ?_
    refine k_nmI (fun v18 e18 => ?_)
    have hsv := hI.2.2 q.toNat (by omega)
    rw [← e18] at hsv
    refine k_if_eq C 26 (⟨by omega, by omega⟩) dX7_restore_19 (by decide) (fun c19 => ?_) (fun c19 => ?_)
    · skip
      obtain ⟨y1, y2⟩ := hsv.resolve_left (fun z => by have := z.1; omega)
      refine k_iconst C dX7_restore_26 ?_
      refine k_callV C (y := yX7_goes) [.int (iI u3), .int (iI 0)] 2 rfl (c_X7_goes (x_l X) (x_G X) mo s sv tx fa ea go qu st ty th un om u3 0 (by omega) (by omega)) gX7_restore_X7_goes rfl ⟨rfl, by decide +kernel, by decide +kernel, by decide +kernel⟩ ⟨by decide, by decide⟩ 0 (fs := [.ref s, .int (iI st), .ref sv, .ref tx, .int (iI ty), .int (iI th), .ref fa, .ref ea, .ref go, .ref qu, .int (iI un), .int (iI om)]) rfl rfl rfl [0] (by decide) (wc := [(mo, .inr (6, [.ref s, .int (iI st), .ref sv, .ref tx, .int (iI ty), .int (iI th), .ref fa, .ref ea, .ref go, .ref qu, .int (iI un), .int (iI om)]))]) rfl [] rfl (Nat.le_of_ble_eq_true rfl) ⟨Nat.le_of_ble_eq_true rfl, Nat.le_of_ble_eq_true rfl⟩ dX7_restore_27 (fun u27 => [(mo, .inr (6, [.ref s, .int (iI st), .ref sv, .ref tx, .int (iI ty), .int (iI u27.2), .ref fa, .ref ea, .ref go, .ref qu, .int (iI un), .int (iI om)])), (s, .inl (g_I (x_G X), 756, .inl (aI fs))), (sv, .inl (g_Z (x_G X), 2, .inl (aI fv)))]) (Or.inr ⟨[1, 2], [2, 0, 1], [(s, .inl (g_I (x_G X), 756, .inl (aI fs))), (sv, .inl (g_Z (x_G X), 2, .inl (aI fv)))], rfl, by decide, by decide, by decide, fun _ => rfl⟩) (fun u27 => [.int (iI u27.1)]) (fun _ => rfl) 0 0 ⟨rfl, rfl⟩ (fun u27 hu27 => ?_)
      refine k_if_ne C 35 (⟨by omega, by omega⟩) dX7_restore_30 (by decide) (fun c30 => ?_) (fun c30 => ?_)
      · exfalso; omega
      · skip
        refine k_iconst C dX7_restore_33 ?_
        exact k_iret C hR (u := (0, u27.2, st, fs)) rfl (by (try dsimp only) <;> exact (by first | exact Or.inr (Or.inl ⟨by omega, by omega, hI⟩) | exact Or.inr (Or.inr ⟨by omega, y2, by omega, hI⟩))) rfl (Nat.le_of_ble_eq_true rfl) (Nat.le_of_ble_eq_true rfl) dX7_restore_34
    · skip
      refine k_iconst C dX7_restore_22 ?_
      refine k_goto C 27 dX7_restore_23 (by decide) ?_
      refine k_callV C (y := yX7_goes) [.int (iI u3), .int (iI 1)] 2 rfl (c_X7_goes (x_l X) (x_G X) mo s sv tx fa ea go qu st ty th un om u3 1 (by omega) (by omega)) gX7_restore_X7_goes rfl ⟨rfl, by decide +kernel, by decide +kernel, by decide +kernel⟩ ⟨by decide, by decide⟩ 0 (fs := [.ref s, .int (iI st), .ref sv, .ref tx, .int (iI ty), .int (iI th), .ref fa, .ref ea, .ref go, .ref qu, .int (iI un), .int (iI om)]) rfl rfl rfl [0] (by decide) (wc := [(mo, .inr (6, [.ref s, .int (iI st), .ref sv, .ref tx, .int (iI ty), .int (iI th), .ref fa, .ref ea, .ref go, .ref qu, .int (iI un), .int (iI om)]))]) rfl [] rfl (Nat.le_of_ble_eq_true rfl) ⟨Nat.le_of_ble_eq_true rfl, Nat.le_of_ble_eq_true rfl⟩ dX7_restore_27 (fun u27 => [(mo, .inr (6, [.ref s, .int (iI st), .ref sv, .ref tx, .int (iI ty), .int (iI u27.2), .ref fa, .ref ea, .ref go, .ref qu, .int (iI un), .int (iI om)])), (s, .inl (g_I (x_G X), 756, .inl (aI fs))), (sv, .inl (g_Z (x_G X), 2, .inl (aI fv)))]) (Or.inr ⟨[1, 2], [2, 0, 1], [(s, .inl (g_I (x_G X), 756, .inl (aI fs))), (sv, .inl (g_Z (x_G X), 2, .inl (aI fv)))], rfl, by decide, by decide, by decide, fun _ => rfl⟩) (fun u27 => [.int (iI u27.1)]) (fun _ => rfl) 0 0 ⟨rfl, rfl⟩ (fun u27 hu27 => ?_)
      refine k_if_ne C 35 (⟨by omega, by omega⟩) dX7_restore_30 (by decide) (fun c30 => ?_) (fun c30 => ?_)
      · skip
        refine k_aload_n C 1 rfl dX7_restore_35 rfl ?_
        refine k_bipush C dX7_restore_36 (by decide) ?_
        refine k_iload_n C 2 rfl dX7_restore_38 rfl ?_
        refine k_iadd C dX7_restore_39 ?_
        refine k_nmI (fun v39 e39 => ?_)
        refine k_iconst C dX7_restore_40 ?_
        refine k_callV C (y := yX7_copies) [.int (iI v39), .int (iI 0)] 2 rfl (c_X7_copies (x_l X) (x_G X) mo s sv tx fa ea go qu st ty u27.2 un om v39 0 (15 + q.toNat) 0 fs (by omega) (rfl) (by omega) (by omega) (by omega)) gX7_restore_X7_copies rfl ⟨rfl, by decide +kernel, by decide +kernel, by decide +kernel⟩ ⟨by decide, by decide⟩ 0 (fs := [.ref s, .int (iI st), .ref sv, .ref tx, .int (iI ty), .int (iI u27.2), .ref fa, .ref ea, .ref go, .ref qu, .int (iI un), .int (iI om)]) rfl rfl rfl [0, 1] (by decide) (wc := [(mo, .inr (6, [.ref s, .int (iI st), .ref sv, .ref tx, .int (iI ty), .int (iI u27.2), .ref fa, .ref ea, .ref go, .ref qu, .int (iI un), .int (iI om)])), (s, .inl (g_I (x_G X), 756, .inl (aI fs)))]) rfl [] rfl (Nat.le_of_ble_eq_true rfl) ⟨Nat.le_of_ble_eq_true rfl, Nat.le_of_ble_eq_true rfl⟩ dX7_restore_41 (fun u41 => [(mo, .inr (6, [.ref s, .int (iI st), .ref sv, .ref tx, .int (iI ty), .int (iI u27.2), .ref fa, .ref ea, .ref go, .ref qu, .int (iI un), .int (iI om)])), (s, .inl (g_I (x_G X), 756, .inl (aI u41))), (sv, .inl (g_Z (x_G X), 2, .inl (aI fv)))]) (Or.inr ⟨[2], [1, 2, 0], [(sv, .inl (g_Z (x_G X), 2, .inl (aI fv)))], rfl, by decide, by decide, by decide, fun _ => rfl⟩) (fun u41 => []) (fun _ => rfl) 0 0 ⟨rfl, rfl⟩ (fun u41 hu41 => ?_)
        obtain ⟨y1, x, y2, y3⟩ := hsv.resolve_right (fun z => c19 z.1)
        have hI2 := MI_restore hI (sl := q.toNat) rfl y3 hu41
        refine k_aload_n C 1 rfl dX7_restore_44 rfl ?_
        refine k_iconst C dX7_restore_45 ?_
        refine k_put C (Cn := RX7) (T := TX7) (N := 12) (ci := 6) (ref := "StruckCountsModel") in_X7_restore_X7 tyX7 tyX7_ok nmX7 0 rfl rfl 1 (by decide) 2 rfl rfl rfl (v := .int (iI 0)) (rfl) (rfl) (Nat.le_of_ble_eq_true rfl) [(mo, .inr (6, [.ref s, .int (iI 0), .ref sv, .ref tx, .int (iI ty), .int (iI u27.2), .ref fa, .ref ea, .ref go, .ref qu, .int (iI un), .int (iI om)])), (s, .inl (g_I (x_G X), 756, .inl (aI u41))), (sv, .inl (g_Z (x_G X), 2, .inl (aI fv)))] rfl dX7_restore_46 ?_
        refine k_aload_n C 1 rfl dX7_restore_49 rfl ?_
        refine k_get C (Cn := RX7) (T := TX7) (N := 12) (ci := 6) (ref := "StruckCountsModel") in_X7_restore_X7 0 rfl rfl 0 (by decide) 3 rfl rfl (v := .ref s) rfl dX7_restore_50 ?_
        refine k_iconst C dX7_restore_53 ?_
        refine k_iald C (f := u41) 1 rfl (⟨by omega, by omega⟩) (by decide) dX7_restore_54 ?_
        refine k_nmI (fun v54 e54 => ?_)
        have hn : v54 = (x.1 : Int) := by rw [e54]; exact hI2.2.1.1
        exact k_iret C hR (u := (v54, u27.2, 0, u41)) rfl (by (try dsimp only) <;> exact (Or.inl ⟨by omega, x, y2, hn, by omega, hI2⟩)) rfl (Nat.le_of_ble_eq_true rfl) (Nat.le_of_ble_eq_true rfl) dX7_restore_55
      · skip
        refine k_iconst C dX7_restore_33 ?_
        exact k_iret C hR (u := (0, u27.2, st, fs)) rfl (by (try dsimp only) <;> exact (by first | exact Or.inr (Or.inl ⟨by omega, by omega, hI⟩) | exact Or.inr (Or.inr ⟨by omega, y2, by omega, hI⟩))) rfl (Nat.le_of_ble_eq_true rfl) (Nat.le_of_ble_eq_true rfl) dX7_restore_34
