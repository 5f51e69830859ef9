theorem in_X7_copies_X7 : ∀ w ∈ wsX70, w ∈ wsX7_copies := by decide +kernel
set_option maxHeartbeats 4000000 in
set_option maxRecDepth 100000 in
theorem c_X7_copies (l : Launch) (G : KG) (mo s sv tx fa ea go qu : Nat) (st ty th un om : Int) (a b : Int) (A B : Nat) (fs : Nat → Int) (ha : a = (A : Int)) (hb : b = (B : Int)) (hA : A < 18) (hB : B < 18) (hne : A ≠ B) : Ct l G yX7_copies wsX7_copies (rmD 0 0 0) [.ref mo, .int (iI a), .int (iI b)] [(mo, .inr (6, [.ref s, .int (iI st), .ref sv, .ref tx, .int (iI ty), .int (iI th), .ref fa, .ref ea, .ref go, .ref qu, .int (iI un), .int (iI om)])), (s, .inl (g_I G, 756, .inl (aI fs)))] (fun u : Nat → Int => CpOK A B fs u) (fun u : Nat → Int => none) (fun u : Nat → Int => [(mo, .inr (6, [.ref s, .int (iI st), .ref sv, .ref tx, .int (iI ty), .int (iI th), .ref fa, .ref ea, .ref go, .ref qu, .int (iI un), .int (iI om)])), (s, .inl (g_I G, 756, .inl (aI u)))]) := by
  refine Ct.of (cc := cX7_copies) (maxL := 4) (ret := none) (by decide +kernel) rfl (Nat.le_of_ble_eq_true rfl) ?_
  intro X C hG hL hnm hR
  subst hG
  subst hL
  have C : Cx X cX7_copies RX7 wsX7_copies none 4 (rmD 0 0 0) := C
  show K_ X 0 0 [(mo, .inr (6, [.ref s, .int (iI st), .ref sv, .ref tx, .int (iI ty), .int (iI th), .ref fa, .ref ea, .ref go, .ref qu, .int (iI un), .int (iI om)])), (s, .inl (g_I (x_G X), 756, .inl (aI fs)))] 0 [(0, .ref mo), (1, .int (iI a)), (2, .int (iI b))] []
  refine k_iconst C dX7_copies_0 ?_
  refine k_istore_n C (lo' := [(3, .int (iI 0)), (0, .ref mo), (1, .int (iI a)), (2, .int (iI b))]) dX7_copies_1 rfl (by decide) rfl ?_
  have L2 : ∀ (nf : Nat) (i : Int) (g1 : Nat → Int), (0 ≤ i ∧ i ≤ 42 ∧ (∀ q, q < i.toNat → g1 (42 * B + q) = fs (42 * A + q)) ∧ (∀ q, (q < 42 * B ∨ 42 * B + i.toNat ≤ q) → g1 q = fs q)) → (42 - i).toNat < nf → K_ X 0 0 [(mo, .inr (6, [.ref s, .int (iI st), .ref sv, .ref tx, .int (iI ty), .int (iI th), .ref fa, .ref ea, .ref go, .ref qu, .int (iI un), .int (iI om)])), (s, .inl (g_I (x_G X), 756, .inl (aI g1)))] 2 [(3, .int (iI i)), (0, .ref mo), (1, .int (iI a)), (2, .int (iI b))] [] := by
    intro nf
    induction nf with
    | zero => intro i g1 hI hm; exact absurd hm (Nat.not_lt_zero _)
    | succ nf ih2 =>
      intro i g1 hI2 hm2
      obtain ⟨i1, i2, i3, i4⟩ := hI2
      refine k_iload_n C 0 rfl dX7_copies_2 rfl ?_
      refine k_bipush C dX7_copies_3 (by decide) ?_
      refine k_icmp_ge C 36 (⟨by omega, by omega⟩) (⟨by omega, by omega⟩) dX7_copies_5 (by decide) (fun c5 => ?_) (fun c5 => ?_)
      · skip
        exact k_vret C hR (u := g1) rfl (⟨fun q hq => i3 q (by omega), fun q hq => i4 q (by omega)⟩) rfl (Nat.le_of_ble_eq_true rfl) (Nat.le_of_ble_eq_true rfl) dX7_copies_36
      · skip
        refine k_aload_n C 1 rfl dX7_copies_8 rfl ?_
        refine k_get C (Cn := RX7) (T := TX7) (N := 12) (ci := 6) (ref := "StruckCountsModel") in_X7_copies_X7 0 rfl rfl 0 (by decide) 1 rfl rfl (v := .ref s) rfl dX7_copies_9 ?_
        refine k_bipush C dX7_copies_12 (by decide) ?_
        refine k_iload_n C 3 rfl dX7_copies_14 rfl ?_
        refine k_imul C dX7_copies_15 ?_
        refine k_nmI (fun v15 e15 => ?_)
        refine k_iload_n C 0 rfl dX7_copies_16 rfl ?_
        refine k_iadd C dX7_copies_17 ?_
        refine k_nmI (fun v17 e17 => ?_)
        refine k_aload_n C 1 rfl dX7_copies_18 rfl ?_
        refine k_get C (Cn := RX7) (T := TX7) (N := 12) (ci := 6) (ref := "StruckCountsModel") in_X7_copies_X7 0 rfl rfl 0 (by decide) 1 rfl rfl (v := .ref s) rfl dX7_copies_19 ?_
        refine k_bipush C dX7_copies_22 (by decide) ?_
        refine k_iload_n C 2 rfl dX7_copies_24 rfl ?_
        refine k_imul C dX7_copies_25 ?_
        refine k_nmI (fun v25 e25 => ?_)
        refine k_iload_n C 0 rfl dX7_copies_26 rfl ?_
        refine k_iadd C dX7_copies_27 ?_
        refine k_nmI (fun v27 e27 => ?_)
        refine k_iald C (f := g1) 1 rfl (⟨by omega, by omega⟩) (by decide) dX7_copies_28 ?_
        refine k_nmI (fun v28 e28 => ?_)
        refine k_iast C (f := g1) 1 rfl (⟨by omega, by omega⟩) (by decide) (fun gg => [(mo, .inr (6, [.ref s, .int (iI st), .ref sv, .ref tx, .int (iI ty), .int (iI th), .ref fa, .ref ea, .ref go, .ref qu, .int (iI un), .int (iI om)])), (s, .inl (g_I (x_G X), 756, .inl (aI gg)))]) (fun _ => rfl) dX7_copies_29 (fun g29 e29 => ?_)
        obtain ⟨v30, e30⟩ : ∃ y : Int, y = i + 1 := ⟨_, rfl⟩
        refine k_iinc C (lo' := [(3, .int (iI v30)), (0, .ref mo), (1, .int (iI a)), (2, .int (iI b))]) 0 rfl dX7_copies_30 (by decide) v30 e30 rfl ?_
        refine k_goto C 2 dX7_copies_33 (by decide) ?_
        exact ih2 v30 g29 (⟨by omega, by omega, fun q hq => by (by_cases e : q = i.toNat; (rw [e29, show 42 * B + q = v17.toNat by omega, upI_s, e28, i4 _ (by omega), show v27.toNat = 42 * A + q by omega]); (rw [e29, upI_n (by omega)]; exact i3 q (by omega))), fun q hq => by rw [e29, upI_n (by omega)]; exact i4 q (by omega)⟩) (by omega)
  exact L2 _ 0 fs (⟨by omega, by omega, fun q hq => absurd hq (Nat.not_lt_zero q), fun q hq => rfl⟩) (Nat.lt_succ_self _)
theorem in_X7_remembers_X7 : ∀ w ∈ wsX70, w ∈ wsX7_remembers := by decide +kernel
set_option maxHeartbeats 4000000 in
set_option maxRecDepth 100000 in
theorem c_X7_remembers (l : Launch) (G : KG) (mo s sv tx fa ea go qu : Nat) (st ty th un om : Int) (R : List (Nat × Nat × Nat)) (n k m : Nat) (fs : Nat → Int) (hRm : MR R st fs) (h0 : MS fs 0 n k m) : Ct l G yX7_remembers wsX7_remembers (rmD 1 0 0) [.ref mo] [(mo, .inr (6, [.ref s, .int (iI st), .ref sv, .ref tx, .int (iI ty), .int (iI th), .ref fa, .ref ea, .ref go, .ref qu, .int (iI un), .int (iI om)])), (s, .inl (g_I G, 756, .inl (aI fs)))] (fun u : Int × (Nat → Int) => MR (((n, k, m) :: R).take 14) u.1 u.2 ∧ MS u.2 0 n k m ∧ ∀ J, 15 ≤ J → ∀ i, i < 42 → u.2 (42 * J + i) = fs (42 * J + i)) (fun u : Int × (Nat → Int) => none) (fun u : Int × (Nat → Int) => [(mo, .inr (6, [.ref s, .int (iI u.1), .ref sv, .ref tx, .int (iI ty), .int (iI th), .ref fa, .ref ea, .ref go, .ref qu, .int (iI un), .int (iI om)])), (s, .inl (g_I G, 756, .inl (aI u.2)))]) := by
  refine Ct.of (cc := cX7_remembers) (maxL := 2) (ret := none) (by decide +kernel) rfl (Nat.le_of_ble_eq_true rfl) ?_
  intro X C hG hL hnm hR
  subst hG
  subst hL
  have C : Cx X cX7_remembers RX7 wsX7_remembers none 2 (rmD 1 0 0) := C
  have hl1 := hRm.1
  have hl2 := hRm.2.1
  show K_ X 0 0 [(mo, .inr (6, [.ref s, .int (iI st), .ref sv, .ref tx, .int (iI ty), .int (iI th), .ref fa, .ref ea, .ref go, .ref qu, .int (iI un), .int (iI om)])), (s, .inl (g_I (x_G X), 756, .inl (aI fs)))] 0 [(0, .ref mo)] []
  refine k_aload_n C 0 rfl dX7_remembers_0 rfl ?_
  refine k_get C (Cn := RX7) (T := TX7) (N := 12) (ci := 6) (ref := "StruckCountsModel") in_X7_remembers_X7 0 rfl rfl 1 (by decide) 1 rfl rfl (v := .int (iI st)) rfl dX7_remembers_1 ?_
  refine k_bipush C dX7_remembers_4 (by decide) ?_
  refine k_icmp_ne C 41 (⟨by omega, by omega⟩) (⟨by omega, by omega⟩) dX7_remembers_6 (by decide) (fun c6 => ?_) (fun c6 => ?_)
  · skip
    refine k_aload_n C 0 rfl dX7_remembers_41 rfl ?_
    refine k_dup C dX7_remembers_42 rfl ?_
    refine k_get C (Cn := RX7) (T := TX7) (N := 12) (ci := 6) (ref := "StruckCountsModel") in_X7_remembers_X7 0 rfl rfl 1 (by decide) 1 rfl rfl (v := .int (iI st)) rfl dX7_remembers_43 ?_
    refine k_iconst C dX7_remembers_46 ?_
    refine k_iadd C dX7_remembers_47 ?_
    refine k_nmI (fun v47 e47 => ?_)
    refine k_put C (Cn := RX7) (T := TX7) (N := 12) (ci := 6) (ref := "StruckCountsModel") in_X7_remembers_X7 tyX7 tyX7_ok nmX7 0 rfl rfl 1 (by decide) 1 rfl rfl rfl (v := .int (iI v47)) (rfl) (rfl) (Nat.le_of_ble_eq_true rfl) [(mo, .inr (6, [.ref s, .int (iI v47), .ref sv, .ref tx, .int (iI ty), .int (iI th), .ref fa, .ref ea, .ref go, .ref qu, .int (iI un), .int (iI om)])), (s, .inl (g_I (x_G X), 756, .inl (aI fs)))] rfl dX7_remembers_48 ?_
    refine k_aload_n C 0 rfl dX7_remembers_51 rfl ?_
    refine k_iconst C dX7_remembers_52 ?_
    refine k_aload_n C 0 rfl dX7_remembers_53 rfl ?_
    refine k_get C (Cn := RX7) (T := TX7) (N := 12) (ci := 6) (ref := "StruckCountsModel") in_X7_remembers_X7 0 rfl rfl 1 (by decide) 1 rfl rfl (v := .int (iI v47)) rfl dX7_remembers_54 ?_
    refine k_callV C (y := yX7_copies) [.int (iI 0), .int (iI v47)] 2 rfl (c_X7_copies (x_l X) (x_G X) mo s sv tx fa ea go qu v47 ty th un om 0 v47 0 v47.toNat fs (rfl) (by omega) (by omega) (by omega) (by omega)) gX7_remembers_X7_copies rfl ⟨rfl, by decide +kernel, by decide +kernel, by decide +kernel⟩ ⟨by decide, by decide⟩ 0 (fs := [.ref s, .int (iI v47), .ref sv, .ref tx, .int (iI ty), .int (iI th), .ref fa, .ref ea, .ref go, .ref qu, .int (iI un), .int (iI om)]) rfl rfl rfl [0, 1] (by decide) (wc := [(mo, .inr (6, [.ref s, .int (iI v47), .ref sv, .ref tx, .int (iI ty), .int (iI th), .ref fa, .ref ea, .ref go, .ref qu, .int (iI un), .int (iI om)])), (s, .inl (g_I (x_G X), 756, .inl (aI fs)))]) rfl [] rfl (Nat.le_of_ble_eq_true rfl) ⟨Nat.le_of_ble_eq_true rfl, Nat.le_of_ble_eq_true rfl⟩ dX7_remembers_57 (fun u57 => [(mo, .inr (6, [.ref s, .int (iI v47), .ref sv, .ref tx, .int (iI ty), .int (iI th), .ref fa, .ref ea, .ref go, .ref qu, .int (iI un), .int (iI om)])), (s, .inl (g_I (x_G X), 756, .inl (aI u57)))]) (Or.inr ⟨[], [0, 1], [], rfl, by decide, by decide, by decide, fun _ => rfl⟩) (fun u57 => []) (fun _ => rfl) 0 0 ⟨rfl, rfl⟩ (fun u57 hu57 => ?_)
    exact k_vret C hR (u := (v47, u57)) rfl (by (try dsimp only) <;> exact (MR_push (st := st) hRm h0 (by first | exact Or.inl ⟨by omega, rfl, by omega⟩ | exact Or.inr ⟨by omega, by (have e : i = 14 := by omega); rw [e] at i3; exact i3, by omega⟩) hu57)) rfl (Nat.le_of_ble_eq_true rfl) (Nat.le_of_ble_eq_true rfl) dX7_remembers_60
  · skip
    refine k_iconst C dX7_remembers_9 ?_
    refine k_istore_n C (lo' := [(1, .int (iI 1)), (0, .ref mo)]) dX7_remembers_10 rfl (by decide) rfl ?_
    have L11 : ∀ (nf : Nat) (i : Int) (g1 : Nat → Int), (1 ≤ i ∧ i ≤ 14 ∧ ShI i fs g1) → (14 - i).toNat < nf → K_ X 0 0 [(mo, .inr (6, [.ref s, .int (iI st), .ref sv, .ref tx, .int (iI ty), .int (iI th), .ref fa, .ref ea, .ref go, .ref qu, .int (iI un), .int (iI om)])), (s, .inl (g_I (x_G X), 756, .inl (aI g1)))] 11 [(1, .int (iI i)), (0, .ref mo)] [] := by
      intro nf
      induction nf with
      | zero => intro i g1 hI hm; exact absurd hm (Nat.not_lt_zero _)
      | succ nf ih11 =>
        intro i g1 hI11 hm11
        obtain ⟨i1, i2, i3⟩ := hI11
        refine k_iload_n C 0 rfl dX7_remembers_11 rfl ?_
        refine k_bipush C dX7_remembers_12 (by decide) ?_
        refine k_icmp_ge C 31 (⟨by omega, by omega⟩) (⟨by omega, by omega⟩) dX7_remembers_14 (by decide) (fun c14 => ?_) (fun c14 => ?_)
        · skip
          refine k_aload_n C 1 rfl dX7_remembers_31 rfl ?_
          refine k_dup C dX7_remembers_32 rfl ?_
          refine k_get C (Cn := RX7) (T := TX7) (N := 12) (ci := 6) (ref := "StruckCountsModel") in_X7_remembers_X7 0 rfl rfl 1 (by decide) 1 rfl rfl (v := .int (iI st)) rfl dX7_remembers_33 ?_
          refine k_iconst C dX7_remembers_36 ?_
          refine k_isub C dX7_remembers_37 ?_
          refine k_nmI (fun v37 e37 => ?_)
          refine k_put C (Cn := RX7) (T := TX7) (N := 12) (ci := 6) (ref := "StruckCountsModel") in_X7_remembers_X7 tyX7 tyX7_ok nmX7 0 rfl rfl 1 (by decide) 1 rfl rfl rfl (v := .int (iI v37)) (rfl) (rfl) (Nat.le_of_ble_eq_true rfl) [(mo, .inr (6, [.ref s, .int (iI v37), .ref sv, .ref tx, .int (iI ty), .int (iI th), .ref fa, .ref ea, .ref go, .ref qu, .int (iI un), .int (iI om)])), (s, .inl (g_I (x_G X), 756, .inl (aI g1)))] rfl dX7_remembers_38 ?_
          refine k_aload_n C 1 rfl dX7_remembers_41 rfl ?_
          refine k_dup C dX7_remembers_42 rfl ?_
          refine k_get C (Cn := RX7) (T := TX7) (N := 12) (ci := 6) (ref := "StruckCountsModel") in_X7_remembers_X7 0 rfl rfl 1 (by decide) 1 rfl rfl (v := .int (iI v37)) rfl dX7_remembers_43 ?_
          refine k_iconst C dX7_remembers_46 ?_
          refine k_iadd C dX7_remembers_47 ?_
          refine k_nmI (fun v47 e47 => ?_)
          refine k_put C (Cn := RX7) (T := TX7) (N := 12) (ci := 6) (ref := "StruckCountsModel") in_X7_remembers_X7 tyX7 tyX7_ok nmX7 0 rfl rfl 1 (by decide) 1 rfl rfl rfl (v := .int (iI v47)) (rfl) (rfl) (Nat.le_of_ble_eq_true rfl) [(mo, .inr (6, [.ref s, .int (iI v47), .ref sv, .ref tx, .int (iI ty), .int (iI th), .ref fa, .ref ea, .ref go, .ref qu, .int (iI un), .int (iI om)])), (s, .inl (g_I (x_G X), 756, .inl (aI g1)))] rfl dX7_remembers_48 ?_
          refine k_aload_n C 1 rfl dX7_remembers_51 rfl ?_
          refine k_iconst C dX7_remembers_52 ?_
          refine k_aload_n C 1 rfl dX7_remembers_53 rfl ?_
          refine k_get C (Cn := RX7) (T := TX7) (N := 12) (ci := 6) (ref := "StruckCountsModel") in_X7_remembers_X7 0 rfl rfl 1 (by decide) 1 rfl rfl (v := .int (iI v47)) rfl dX7_remembers_54 ?_
          refine k_callV C (y := yX7_copies) [.int (iI 0), .int (iI v47)] 2 rfl (c_X7_copies (x_l X) (x_G X) mo s sv tx fa ea go qu v47 ty th un om 0 v47 0 v47.toNat g1 (rfl) (by omega) (by omega) (by omega) (by omega)) gX7_remembers_X7_copies rfl ⟨rfl, by decide +kernel, by decide +kernel, by decide +kernel⟩ ⟨by decide, by decide⟩ 0 (fs := [.ref s, .int (iI v47), .ref sv, .ref tx, .int (iI ty), .int (iI th), .ref fa, .ref ea, .ref go, .ref qu, .int (iI un), .int (iI om)]) rfl rfl rfl [0, 1] (by decide) (wc := [(mo, .inr (6, [.ref s, .int (iI v47), .ref sv, .ref tx, .int (iI ty), .int (iI th), .ref fa, .ref ea, .ref go, .ref qu, .int (iI un), .int (iI om)])), (s, .inl (g_I (x_G X), 756, .inl (aI g1)))]) rfl [] rfl (Nat.le_of_ble_eq_true rfl) ⟨Nat.le_of_ble_eq_true rfl, Nat.le_of_ble_eq_true rfl⟩ dX7_remembers_57 (fun u57 => [(mo, .inr (6, [.ref s, .int (iI v47), .ref sv, .ref tx, .int (iI ty), .int (iI th), .ref fa, .ref ea, .ref go, .ref qu, .int (iI un), .int (iI om)])), (s, .inl (g_I (x_G X), 756, .inl (aI u57)))]) (Or.inr ⟨[], [0, 1], [], rfl, by decide, by decide, by decide, fun _ => rfl⟩) (fun u57 => []) (fun _ => rfl) 0 0 ⟨rfl, rfl⟩ (fun u57 hu57 => ?_)
          exact k_vret C hR (u := (v47, u57)) rfl (by (try dsimp only) <;> exact (MR_push (st := st) hRm h0 (by first | exact Or.inl ⟨by omega, rfl, by omega⟩ | exact Or.inr ⟨by omega, by (have e : i = 14 := by omega); rw [e] at i3; exact i3, by omega⟩) hu57)) rfl (Nat.le_of_ble_eq_true rfl) (Nat.le_of_ble_eq_true rfl) dX7_remembers_60
        · skip
          refine k_aload_n C 1 rfl dX7_remembers_17 rfl ?_
          refine k_iload_n C 0 rfl dX7_remembers_18 rfl ?_
          refine k_iconst C dX7_remembers_19 ?_
          refine k_iadd C dX7_remembers_20 ?_
          refine k_nmI (fun v20 e20 => ?_)
          refine k_iload_n C 0 rfl dX7_remembers_21 rfl ?_
          refine k_callV C (y := yX7_copies) [.int (iI v20), .int (iI i)] 2 rfl (c_X7_copies (x_l X) (x_G X) mo s sv tx fa ea go qu st ty th un om v20 i v20.toNat i.toNat g1 (by omega) (by omega) (by omega) (by omega) (by omega)) gX7_remembers_X7_copies rfl ⟨rfl, by decide +kernel, by decide +kernel, by decide +kernel⟩ ⟨by decide, by decide⟩ 0 (fs := [.ref s, .int (iI st), .ref sv, .ref tx, .int (iI ty), .int (iI th), .ref fa, .ref ea, .ref go, .ref qu, .int (iI un), .int (iI om)]) rfl rfl rfl [0, 1] (by decide) (wc := [(mo, .inr (6, [.ref s, .int (iI st), .ref sv, .ref tx, .int (iI ty), .int (iI th), .ref fa, .ref ea, .ref go, .ref qu, .int (iI un), .int (iI om)])), (s, .inl (g_I (x_G X), 756, .inl (aI g1)))]) rfl [] rfl (Nat.le_of_ble_eq_true rfl) ⟨Nat.le_of_ble_eq_true rfl, Nat.le_of_ble_eq_true rfl⟩ dX7_remembers_22 (fun u22 => [(mo, .inr (6, [.ref s, .int (iI st), .ref sv, .ref tx, .int (iI ty), .int (iI th), .ref fa, .ref ea, .ref go, .ref qu, .int (iI un), .int (iI om)])), (s, .inl (g_I (x_G X), 756, .inl (aI u22)))]) (Or.inr ⟨[], [0, 1], [], rfl, by decide, by decide, by decide, fun _ => rfl⟩) (fun u22 => []) (fun _ => rfl) 0 0 ⟨rfl, rfl⟩ (fun u22 hu22 => ?_)
          obtain ⟨v25, e25⟩ : ∃ y : Int, y = i + 1 := ⟨_, rfl⟩
          refine k_iinc C (lo' := [(1, .int (iI v25)), (0, .ref mo)]) 0 rfl dX7_remembers_25 (by decide) v25 e25 rfl ?_
          refine k_goto C 11 dX7_remembers_28 (by decide) ?_
          exact ih11 v25 u22 (⟨by omega, by omega, by rw [e25]; rw [e20] at hu22; exact ShI_go (by omega) i3 hu22⟩) (by omega)
    exact L11 _ 1 fs (⟨by omega, by omega, ShI_1⟩) (Nat.lt_succ_self _)
set_option maxHeartbeats 4000000 in
set_option maxRecDepth 100000 in
theorem c_X7_strikesTo (l : Launch) (G : KG) (mo s sv tx fa ea go qu : Nat) (st ty th un om : Int) (j x : Int) (J : Nat) (n k m : Nat) (fs fe : Nat → Int) (hj : j = (J : Int)) (hJ : J < 18) (hM : MS fs J n k m) (hE : ∀ i : Nat, i < 40 → fe i = (sp i : Int)) (hx : -2147483648 ≤ x ∧ x < 2147483648) : Ct l G yX7_strikesTo wsX7_strikesTo (rmD 1 0 0) [.ref mo, .int (iI j), .int (iI x)] [(mo, .inr (6, [.ref s, .int (iI st), .ref sv, .ref tx, .int (iI ty), .int (iI th), .ref fa, .ref ea, .ref go, .ref qu, .int (iI un), .int (iI om)])), (s, .inl (g_I G, 756, .inl (aI fs))), (ea, .inl (g_I G, 40, .inl (aI fe)))] (fun u : Int × (Nat → Int) => u.1 = (sj n x k : Int) ∧ MS u.2 J n (k + sj n x k) (msk m k (sj n x k)) ∧ MO_ J fs u.2) (fun u : Int × (Nat → Int) => some (.int (iI u.1))) (fun u : Int × (Nat → Int) => [(mo, .inr (6, [.ref s, .int (iI st), .ref sv, .ref tx, .int (iI ty), .int (iI th), .ref fa, .ref ea, .ref go, .ref qu, .int (iI un), .int (iI om)])), (s, .inl (g_I G, 756, .inl (aI u.2))), (ea, .inl (g_I G, 40, .inl (aI fe)))]) := by
  refine Ct.of (cc := cX7_strikesTo) (maxL := 4) (ret := (some .int)) (by decide +kernel) rfl (Nat.le_of_ble_eq_true rfl) ?_
  intro X C hG hL hnm hR
  subst hG
  subst hL
  have C : Cx X cX7_strikesTo RX7 wsX7_strikesTo (some .int) 4 (rmD 1 0 0) := C
  show K_ X 0 0 [(mo, .inr (6, [.ref s, .int (iI st), .ref sv, .ref tx, .int (iI ty), .int (iI th), .ref fa, .ref ea, .ref go, .ref qu, .int (iI un), .int (iI om)])), (s, .inl (g_I (x_G X), 756, .inl (aI fs))), (ea, .inl (g_I (x_G X), 40, .inl (aI fe)))] 0 [(0, .ref mo), (1, .int (iI j)), (2, .int (iI x))] []
  refine k_iconst C dX7_strikesTo_0 ?_
  refine k_istore_n C (lo' := [(3, .int (iI 0)), (0, .ref mo), (1, .int (iI j)), (2, .int (iI x))]) dX7_strikesTo_1 rfl (by decide) rfl ?_
  have L2 : ∀ (nf : Nat) (q : Nat) (c : Int) (g1 : Nat → Int), (c = (q : Int) ∧ q ≤ 40 ∧ (∀ i, i < q → nxI n (k + i) ≠ -1 ∧ nxI n (k + i) ≤ x) ∧ MS g1 J n (k + q) (msk m k q) ∧ MO_ J fs g1) → 40 - q < nf → K_ X 0 0 [(mo, .inr (6, [.ref s, .int (iI st), .ref sv, .ref tx, .int (iI ty), .int (iI th), .ref fa, .ref ea, .ref go, .ref qu, .int (iI un), .int (iI om)])), (s, .inl (g_I (x_G X), 756, .inl (aI g1))), (ea, .inl (g_I (x_G X), 40, .inl (aI fe)))] 2 [(3, .int (iI c)), (0, .ref mo), (1, .int (iI j)), (2, .int (iI x))] [] := by
    intro nf
    induction nf with
    | zero => intro q c g1 hI hm; exact absurd hm (Nat.not_lt_zero _)
    | succ nf ih2 =>
      intro q c g1 hI2 hm2
      obtain ⟨i1, i2, i3, i4, i5⟩ := hI2
      have hkj : k + q ≤ 40 := i4.2.2.2.2.2.1
      refine k_aload_n C 1 rfl dX7_strikesTo_2 rfl ?_
      refine k_iload_n C 2 rfl dX7_strikesTo_3 rfl ?_
      refine k_callV C (y := yX7_next) [.int (iI j)] 1 rfl (c_X7_next (x_l X) (x_G X) mo s sv tx fa ea go qu st ty th un om j J n (k + q) (msk m k q) g1 fe (by assumption) (by assumption) (by assumption) (by assumption)) gX7_strikesTo_X7_next rfl ⟨rfl, by decide +kernel, by decide +kernel, by decide +kernel⟩ ⟨by decide, by decide⟩ 0 (fs := [.ref s, .int (iI st), .ref sv, .ref tx, .int (iI ty), .int (iI th), .ref fa, .ref ea, .ref go, .ref qu, .int (iI un), .int (iI om)]) rfl rfl rfl [0, 1, 2] (by decide) (wc := [(mo, .inr (6, [.ref s, .int (iI st), .ref sv, .ref tx, .int (iI ty), .int (iI th), .ref fa, .ref ea, .ref go, .ref qu, .int (iI un), .int (iI om)])), (s, .inl (g_I (x_G X), 756, .inl (aI g1))), (ea, .inl (g_I (x_G X), 40, .inl (aI fe)))]) rfl [] rfl (Nat.le_of_ble_eq_true rfl) ⟨Nat.le_of_ble_eq_true rfl, Nat.le_of_ble_eq_true rfl⟩ dX7_strikesTo_4 (fun _ => [(mo, .inr (6, [.ref s, .int (iI st), .ref sv, .ref tx, .int (iI ty), .int (iI th), .ref fa, .ref ea, .ref go, .ref qu, .int (iI un), .int (iI om)])), (s, .inl (g_I (x_G X), 756, .inl (aI g1))), (ea, .inl (g_I (x_G X), 40, .inl (aI fe)))]) (Or.inl (fun _ => ⟨rfl, rfl⟩)) (fun u4 => [.int (iI u4)]) (fun _ => rfl) 0 0 ⟨rfl, rfl⟩ (fun u4 hu4 => ?_)
      have hr := nxI_rng n (k + q)
      refine k_if_le C 31 (⟨by omega, by omega⟩) dX7_strikesTo_7 (by decide) (fun c7 => ?_) (fun c7 => ?_)
      · skip
        refine k_iload_n C 0 rfl dX7_strikesTo_31 rfl ?_
        exact k_iret C hR (u := (c, g1)) rfl (by (try dsimp only) <;> exact (by
            have hz : nxI n (k + q) = -1 ∨ 2 ≤ nxI n (k + q) := by
              by_cases e : nxI n (k + q) = -1
              · exact Or.inl e
              · right
                obtain ⟨y1, y2, y3⟩ := nxI_some e
                have := sp_ge2 (show k + q < 65 by omega)
                omega
            have hR : StoR n x k q := ⟨i3, fun z => by first | omega | (rw [← hu4] at z; omega) | (rw [← hu12] at z; omega)⟩
            have e := sj_of hR
            rw [← e]
            exact ⟨i1, i4, i5⟩)) rfl (Nat.le_of_ble_eq_true rfl) (Nat.le_of_ble_eq_true rfl) dX7_strikesTo_32
      · skip
        obtain ⟨z1, z2, z3⟩ := nxI_some (n := n) (k := k + q) (by omega)
        refine k_aload_n C 1 rfl dX7_strikesTo_10 rfl ?_
        refine k_iload_n C 2 rfl dX7_strikesTo_11 rfl ?_
        refine k_callV C (y := yX7_next) [.int (iI j)] 1 rfl (c_X7_next (x_l X) (x_G X) mo s sv tx fa ea go qu st ty th un om j J n (k + q) (msk m k q) g1 fe (by assumption) (by assumption) (by assumption) (by assumption)) gX7_strikesTo_X7_next rfl ⟨rfl, by decide +kernel, by decide +kernel, by decide +kernel⟩ ⟨by decide, by decide⟩ 0 (fs := [.ref s, .int (iI st), .ref sv, .ref tx, .int (iI ty), .int (iI th), .ref fa, .ref ea, .ref go, .ref qu, .int (iI un), .int (iI om)]) rfl rfl rfl [0, 1, 2] (by decide) (wc := [(mo, .inr (6, [.ref s, .int (iI st), .ref sv, .ref tx, .int (iI ty), .int (iI th), .ref fa, .ref ea, .ref go, .ref qu, .int (iI un), .int (iI om)])), (s, .inl (g_I (x_G X), 756, .inl (aI g1))), (ea, .inl (g_I (x_G X), 40, .inl (aI fe)))]) rfl [] rfl (Nat.le_of_ble_eq_true rfl) ⟨Nat.le_of_ble_eq_true rfl, Nat.le_of_ble_eq_true rfl⟩ dX7_strikesTo_12 (fun _ => [(mo, .inr (6, [.ref s, .int (iI st), .ref sv, .ref tx, .int (iI ty), .int (iI th), .ref fa, .ref ea, .ref go, .ref qu, .int (iI un), .int (iI om)])), (s, .inl (g_I (x_G X), 756, .inl (aI g1))), (ea, .inl (g_I (x_G X), 40, .inl (aI fe)))]) (Or.inl (fun _ => ⟨rfl, rfl⟩)) (fun u12 => [.int (iI u12)]) (fun _ => rfl) 0 0 ⟨rfl, rfl⟩ (fun u12 hu12 => ?_)
        refine k_iload_n C 3 rfl dX7_strikesTo_15 rfl ?_
        refine k_icmp_gt C 31 (⟨by rw [hu12]; omega, by rw [hu12]; omega⟩) (⟨by omega, by omega⟩) dX7_strikesTo_16 (by decide) (fun c16 => ?_) (fun c16 => ?_)
        · skip
          refine k_iload_n C 0 rfl dX7_strikesTo_31 rfl ?_
          exact k_iret C hR (u := (c, g1)) rfl (by (try dsimp only) <;> exact (by
            have hz : nxI n (k + q) = -1 ∨ 2 ≤ nxI n (k + q) := by
              by_cases e : nxI n (k + q) = -1
              · exact Or.inl e
              · right
                obtain ⟨y1, y2, y3⟩ := nxI_some e
                have := sp_ge2 (show k + q < 65 by omega)
                omega
            have hR : StoR n x k q := ⟨i3, fun z => by first | omega | (rw [← hu4] at z; omega) | (rw [← hu12] at z; omega)⟩
            have e := sj_of hR
            rw [← e]
            exact ⟨i1, i4, i5⟩)) rfl (Nat.le_of_ble_eq_true rfl) (Nat.le_of_ble_eq_true rfl) dX7_strikesTo_32
        · skip
          refine k_aload_n C 1 rfl dX7_strikesTo_19 rfl ?_
          refine k_iload_n C 2 rfl dX7_strikesTo_20 rfl ?_
          refine k_iconst C dX7_strikesTo_21 ?_
          refine k_callV C (y := yX7_comes) [.int (iI j), .int (iI 1)] 2 rfl (c_X7_comes (x_l X) (x_G X) mo s sv tx fa ea go qu st ty th un om j 1 J n (k + q) (msk m k q) g1 (by assumption) (by assumption) (by assumption) (z1) (Or.inr rfl)) gX7_strikesTo_X7_comes rfl ⟨rfl, by decide +kernel, by decide +kernel, by decide +kernel⟩ ⟨by decide, by decide⟩ 0 (fs := [.ref s, .int (iI st), .ref sv, .ref tx, .int (iI ty), .int (iI th), .ref fa, .ref ea, .ref go, .ref qu, .int (iI un), .int (iI om)]) rfl rfl rfl [0, 1] (by decide) (wc := [(mo, .inr (6, [.ref s, .int (iI st), .ref sv, .ref tx, .int (iI ty), .int (iI th), .ref fa, .ref ea, .ref go, .ref qu, .int (iI un), .int (iI om)])), (s, .inl (g_I (x_G X), 756, .inl (aI g1)))]) rfl [] rfl (Nat.le_of_ble_eq_true rfl) ⟨Nat.le_of_ble_eq_true rfl, Nat.le_of_ble_eq_true rfl⟩ dX7_strikesTo_22 (fun u22 => [(mo, .inr (6, [.ref s, .int (iI st), .ref sv, .ref tx, .int (iI ty), .int (iI th), .ref fa, .ref ea, .ref go, .ref qu, .int (iI un), .int (iI om)])), (s, .inl (g_I (x_G X), 756, .inl (aI u22))), (ea, .inl (g_I (x_G X), 40, .inl (aI fe)))]) (Or.inr ⟨[2], [1, 2, 0], [(ea, .inl (g_I (x_G X), 40, .inl (aI fe)))], rfl, by decide, by decide, by decide, fun _ => rfl⟩) (fun u22 => []) (fun _ => rfl) 0 0 ⟨rfl, rfl⟩ (fun u22 hu22 => ?_)
          obtain ⟨v25, e25⟩ : ∃ y : Int, y = c + 1 := ⟨_, rfl⟩
          refine k_iinc C (lo' := [(3, .int (iI v25)), (0, .ref mo), (1, .int (iI j)), (2, .int (iI x))]) 0 rfl dX7_strikesTo_25 (by decide) v25 e25 rfl ?_
          refine k_goto C 2 dX7_strikesTo_28 (by decide) ?_
          exact ih2 (q + 1) v25 u22 (⟨by omega, by omega, fun i hi => by
            by_cases e : i < q
            · exact i3 i e
            · rw [show i = q by omega, ← hu4]; exact ⟨by omega, by omega⟩, by
            have := hu22.1; rw [if_neg (by decide)] at this; exact this, MO_t i5 hu22.2⟩) (by omega)
  exact L2 _ 0 0 fs (⟨rfl, by omega, fun i hi => absurd hi (Nat.not_lt_zero i), hM, MO_r⟩) (Nat.lt_succ_self _)
