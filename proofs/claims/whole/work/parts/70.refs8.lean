def letv (s : Nat) : Int := ([98, 111, 117, 110, 100, 0, 0, 0, 0, 0, 115, 116, 114, 105, 107, 101, 0, 0, 0, 0, 115, 112, 97, 114, 101, 0, 0, 0, 0, 0, 97, 103, 97, 105, 110] : List Int).getD s 0
theorem let_of {w j s c : Int} (hw : 0 ≤ w ∧ w ≤ 3) (hj : 0 ≤ j ∧ j ≤ 6) (hs : s = 10 * w + j) (hc : letv s.toNat = c) : c = wc w.toNat j.toNat := by
  have h := all_lt (N := 4) (P := fun w => (List.range 7).all fun j => decide (letv (10 * w + j) = wc w j)) (by decide +kernel) (show w.toNat < 4 by omega)
  have h2 := of_decide_eq_true (all_lt h (show j.toNat < 7 by omega))
  rw [← h2, ← hc]
  exact congrArg letv (by omega)
theorem let_df {w j s : Int} (hw : 0 ≤ w ∧ w ≤ 3) (hj : 0 ≤ j ∧ j ≤ 6) (hs : s = 10 * w + j) (hc : 34 < s) : 0 = wc w.toNat j.toNat := by
  rcases (show s = 35 ∨ s = 36 by omega) with z | z
  · exact let_of hw hj hs (by rw [z]; decide)
  · exact let_of hw hj hs (by rw [z]; decide)

theorem in_X7_append_X7 : ∀ w ∈ wsX70, w ∈ wsX7_append := by decide +kernel
set_option maxHeartbeats 4000000 in
set_option maxRecDepth 100000 in
theorem c_X7_append (l : Launch) (G : KG) (mo s sv tx fa ea go qu : Nat) (st ty th un om : Int) (c : Int) (ff : Nat → Int) (hty : 0 ≤ ty ∧ ty ≤ 60) (hc : -2147483648 ≤ c ∧ c < 2147483648) : Ct l G yX7_append wsX7_append (rmD 1 0 0) [.ref mo, .int (iI c)] [(mo, .inr (6, [.ref s, .int (iI st), .ref sv, .ref tx, .int (iI ty), .int (iI th), .ref fa, .ref ea, .ref go, .ref qu, .int (iI un), .int (iI om)])), (tx, .inl (g_C G, 60, .inl (aI ff)))] (fun u : Int × Int × Int × (Nat → Int) => ((0 ≤ c ∧ c ≤ 255) ∧ ty < 60 ∧ u.1 = ty + 1 ∧ u.2.1 = 0 ∧ u.2.2.1 = ty + 1 ∧ u.2.2.2 = upI ff ty.toNat c) ∨ (¬ (0 ≤ c ∧ c ≤ 255) ∧ u.2.1 = 1 ∧ u.2.2.1 = ty ∧ u.2.2.2 = ff) ∨ ((0 ≤ c ∧ c ≤ 255) ∧ ¬ ty < 60 ∧ u.2.1 = 2 ∧ u.2.2.1 = ty ∧ u.2.2.2 = ff)) (fun u : Int × Int × Int × (Nat → Int) => some (.int (iI u.1))) (fun u : Int × Int × Int × (Nat → Int) => [(mo, .inr (6, [.ref s, .int (iI st), .ref sv, .ref tx, .int (iI u.2.2.1), .int (iI u.2.1), .ref fa, .ref ea, .ref go, .ref qu, .int (iI un), .int (iI om)])), (tx, .inl (g_C G, 60, .inl (aI u.2.2.2)))]) := by
  refine Ct.of (cc := cX7_append) (maxL := 2) (ret := (some .int)) (by decide +kernel) rfl (Nat.le_of_ble_eq_true rfl) ?_
  intro X C hG hL hnm hR
  subst hG
  subst hL
  have C : Cx X cX7_append RX7 wsX7_append (some .int) 2 (rmD 1 0 0) := C
  show K_ X 0 0 [(mo, .inr (6, [.ref s, .int (iI st), .ref sv, .ref tx, .int (iI ty), .int (iI th), .ref fa, .ref ea, .ref go, .ref qu, .int (iI un), .int (iI om)])), (tx, .inl (g_C (x_G X), 60, .inl (aI ff)))] 0 [(0, .ref mo), (1, .int (iI c))] []
  refine k_aload_n C 0 rfl dX7_append_0 rfl ?_
  refine k_iload_n C 1 rfl dX7_append_1 rfl ?_
  refine k_iconst C dX7_append_2 ?_
  refine k_sipush C dX7_append_3 (by decide) ?_
  refine k_callS C (y := yX7_in) [.int (iI c), .int (iI 0), .int (iI 255)] 3 rfl (c_X7_in (x_l X) (x_G X) c 0 255 (by omega) (by omega) (by omega)) gX7_append_X7_in rfl ⟨by decide +kernel, by decide +kernel, by decide +kernel⟩ ⟨by decide, by decide⟩ [] (by decide) (wc := []) rfl [.ref mo] rfl (Nat.le_of_ble_eq_true rfl) ⟨Nat.le_of_ble_eq_true rfl, Nat.le_of_ble_eq_true rfl⟩ dX7_append_6 (fun _ => [(mo, .inr (6, [.ref s, .int (iI st), .ref sv, .ref tx, .int (iI ty), .int (iI th), .ref fa, .ref ea, .ref go, .ref qu, .int (iI un), .int (iI om)])), (tx, .inl (g_C (x_G X), 60, .inl (aI ff)))]) (Or.inl (fun _ => ⟨rfl, rfl⟩)) (fun u6 => [.int (iI u6), .ref mo]) (fun _ => rfl) 0 0 ⟨rfl, rfl⟩ (fun u6 hu6 => ?_)
  refine k_aload_n C 0 rfl dX7_append_9 rfl ?_
  refine k_get C (Cn := RX7) (T := TX7) (N := 12) (ci := 6) (ref := "StruckCountsModel") in_X7_append_X7 0 rfl rfl 4 (by decide) 1 rfl rfl (v := .int (iI ty)) rfl dX7_append_10 ?_
  refine k_bipush C dX7_append_13 (by decide) ?_
  refine k_icmp_ge C 22 (⟨by omega, by omega⟩) (⟨by omega, by omega⟩) dX7_append_15 (by decide) (fun c15 => ?_) (fun c15 => ?_)
  · skip
    refine k_iconst C dX7_append_22 ?_
    refine k_callV C (y := yX7_goes) [.int (iI u6), .int (iI 0)] 2 rfl (c_X7_goes (x_l X) (x_G X) mo s sv tx fa ea go qu st ty th un om u6 0 (by omega) (by omega)) gX7_append_X7_goes rfl ⟨rfl, by decide +kernel, by decide +kernel, by decide +kernel⟩ ⟨by decide, by decide⟩ 0 (fs := [.ref s, .int (iI st), .ref sv, .ref tx, .int (iI ty), .int (iI th), .ref fa, .ref ea, .ref go, .ref qu, .int (iI un), .int (iI om)]) rfl rfl rfl [0] (by decide) (wc := [(mo, .inr (6, [.ref s, .int (iI st), .ref sv, .ref tx, .int (iI ty), .int (iI th), .ref fa, .ref ea, .ref go, .ref qu, .int (iI un), .int (iI om)]))]) rfl [] rfl (Nat.le_of_ble_eq_true rfl) ⟨Nat.le_of_ble_eq_true rfl, Nat.le_of_ble_eq_true rfl⟩ dX7_append_23 (fun u23 => [(mo, .inr (6, [.ref s, .int (iI st), .ref sv, .ref tx, .int (iI ty), .int (iI u23.2), .ref fa, .ref ea, .ref go, .ref qu, .int (iI un), .int (iI om)])), (tx, .inl (g_C (x_G X), 60, .inl (aI ff)))]) (Or.inr ⟨[1], [1, 0], [(tx, .inl (g_C (x_G X), 60, .inl (aI ff)))], rfl, by decide, by decide, by decide, fun _ => rfl⟩) (fun u23 => [.int (iI u23.1)]) (fun _ => rfl) 0 0 ⟨rfl, rfl⟩ (fun u23 hu23 => ?_)
    refine k_if_ne C 31 (⟨by omega, by omega⟩) dX7_append_26 (by decide) (fun c26 => ?_) (fun c26 => ?_)
    · exfalso; omega
    · skip
      refine k_iconst C dX7_append_29 ?_
      exact k_iret C hR (u := (0, u23.2, ty, ff)) rfl (by (try dsimp only) <;> exact (by (rcases hu23 with z | z | z; exact absurd z.1 (by omega); exact Or.inr (Or.inl ⟨by omega, by omega, rfl, rfl⟩); exact Or.inr (Or.inr ⟨by omega, by omega, by omega, rfl, rfl⟩)))) rfl (Nat.le_of_ble_eq_true rfl) (Nat.le_of_ble_eq_true rfl) dX7_append_30
  · skip
    refine k_iconst C dX7_append_18 ?_
    refine k_goto C 23 dX7_append_19 (by decide) ?_
    refine k_callV C (y := yX7_goes) [.int (iI u6), .int (iI 1)] 2 rfl (c_X7_goes (x_l X) (x_G X) mo s sv tx fa ea go qu st ty th un om u6 1 (by omega) (by omega)) gX7_append_X7_goes rfl ⟨rfl, by decide +kernel, by decide +kernel, by decide +kernel⟩ ⟨by decide, by decide⟩ 0 (fs := [.ref s, .int (iI st), .ref sv, .ref tx, .int (iI ty), .int (iI th), .ref fa, .ref ea, .ref go, .ref qu, .int (iI un), .int (iI om)]) rfl rfl rfl [0] (by decide) (wc := [(mo, .inr (6, [.ref s, .int (iI st), .ref sv, .ref tx, .int (iI ty), .int (iI th), .ref fa, .ref ea, .ref go, .ref qu, .int (iI un), .int (iI om)]))]) rfl [] rfl (Nat.le_of_ble_eq_true rfl) ⟨Nat.le_of_ble_eq_true rfl, Nat.le_of_ble_eq_true rfl⟩ dX7_append_23 (fun u23 => [(mo, .inr (6, [.ref s, .int (iI st), .ref sv, .ref tx, .int (iI ty), .int (iI u23.2), .ref fa, .ref ea, .ref go, .ref qu, .int (iI un), .int (iI om)])), (tx, .inl (g_C (x_G X), 60, .inl (aI ff)))]) (Or.inr ⟨[1], [1, 0], [(tx, .inl (g_C (x_G X), 60, .inl (aI ff)))], rfl, by decide, by decide, by decide, fun _ => rfl⟩) (fun u23 => [.int (iI u23.1)]) (fun _ => rfl) 0 0 ⟨rfl, rfl⟩ (fun u23 hu23 => ?_)
    refine k_if_ne C 31 (⟨by omega, by omega⟩) dX7_append_26 (by decide) (fun c26 => ?_) (fun c26 => ?_)
    · skip
      refine k_aload_n C 0 rfl dX7_append_31 rfl ?_
      refine k_get C (Cn := RX7) (T := TX7) (N := 12) (ci := 6) (ref := "StruckCountsModel") in_X7_append_X7 0 rfl rfl 3 (by decide) 2 rfl rfl (v := .ref tx) rfl dX7_append_32 ?_
      refine k_aload_n C 0 rfl dX7_append_35 rfl ?_
      refine k_get C (Cn := RX7) (T := TX7) (N := 12) (ci := 6) (ref := "StruckCountsModel") in_X7_append_X7 0 rfl rfl 4 (by decide) 1 rfl rfl (v := .int (iI ty)) rfl dX7_append_36 ?_
      refine k_iload_n C 1 rfl dX7_append_39 rfl ?_
      refine k_i2c C c (i2c_id (by omega) (by omega)) dX7_append_40 ?_
      refine k_cast C (f := ff) 1 rfl (⟨by omega, by omega⟩) (by decide) (nar_c (by omega) (by omega)) (fun gg => [(mo, .inr (6, [.ref s, .int (iI st), .ref sv, .ref tx, .int (iI ty), .int (iI u23.2), .ref fa, .ref ea, .ref go, .ref qu, .int (iI un), .int (iI om)])), (tx, .inl (g_C (x_G X), 60, .inl (aI gg)))]) (fun _ => rfl) dX7_append_41 (fun g41 e41 => ?_)
      refine k_aload_n C 0 rfl dX7_append_42 rfl ?_
      refine k_dup C dX7_append_43 rfl ?_
      refine k_get C (Cn := RX7) (T := TX7) (N := 12) (ci := 6) (ref := "StruckCountsModel") in_X7_append_X7 0 rfl rfl 4 (by decide) 1 rfl rfl (v := .int (iI ty)) rfl dX7_append_44 ?_
      refine k_iconst C dX7_append_47 ?_
      refine k_iadd C dX7_append_48 ?_
      refine k_nmI (fun v48 e48 => ?_)
      refine k_put C (Cn := RX7) (T := TX7) (N := 12) (ci := 6) (ref := "StruckCountsModel") in_X7_append_X7 tyX7 tyX7_ok nmX7 0 rfl rfl 4 (by decide) 1 rfl rfl rfl (v := .int (iI v48)) (rfl) (rfl) (Nat.le_of_ble_eq_true rfl) [(mo, .inr (6, [.ref s, .int (iI st), .ref sv, .ref tx, .int (iI v48), .int (iI u23.2), .ref fa, .ref ea, .ref go, .ref qu, .int (iI un), .int (iI om)])), (tx, .inl (g_C (x_G X), 60, .inl (aI g41)))] rfl dX7_append_49 ?_
      refine k_aload_n C 0 rfl dX7_append_52 rfl ?_
      refine k_get C (Cn := RX7) (T := TX7) (N := 12) (ci := 6) (ref := "StruckCountsModel") in_X7_append_X7 0 rfl rfl 4 (by decide) 1 rfl rfl (v := .int (iI v48)) rfl dX7_append_53 ?_
      exact k_iret C hR (u := (v48, u23.2, v48, g41)) rfl (by (try dsimp only) <;> exact (Or.inl ⟨by omega, by omega, by omega, by omega, by omega, e41⟩)) rfl (Nat.le_of_ble_eq_true rfl) (Nat.le_of_ble_eq_true rfl) dX7_append_56
    · skip
      refine k_iconst C dX7_append_29 ?_
      exact k_iret C hR (u := (0, u23.2, ty, ff)) rfl (by (try dsimp only) <;> exact (by (rcases hu23 with z | z | z; exact absurd z.1 (by omega); exact Or.inr (Or.inl ⟨by omega, by omega, rfl, rfl⟩); exact Or.inr (Or.inr ⟨by omega, by omega, by omega, rfl, rfl⟩)))) rfl (Nat.le_of_ble_eq_true rfl) (Nat.le_of_ble_eq_true rfl) dX7_append_30
set_option maxHeartbeats 4000000 in
set_option maxRecDepth 100000 in
theorem c_X7_letter (l : Launch) (G : KG) (w j : Int) (hw : 0 ≤ w ∧ w ≤ 3) (hj : 0 ≤ j ∧ j ≤ 6) : Ct l G yX7_letter wsX7_letter (rmD 0 0 0) [.int (iI w), .int (iI j)] [] (fun u : Int => u = wc w.toNat j.toNat) (fun u : Int => some (.int (iI u))) (fun u : Int => []) := by
  refine Ct.of (cc := cX7_letter) (maxL := 2) (ret := (some .int)) (by decide +kernel) rfl (Nat.le_of_ble_eq_true rfl) ?_
  intro X C hG hL hnm hR
  subst hG
  subst hL
  have C : Cx X cX7_letter RX7 wsX7_letter (some .int) 2 (rmD 0 0 0) := C
  show K_ X 0 0 [] 0 [(0, .int (iI w)), (1, .int (iI j))] []
  refine k_bipush C dX7_letter_0 (by decide) ?_
  refine k_iload_n C 0 rfl dX7_letter_2 rfl ?_
  refine k_imul C dX7_letter_3 ?_
  refine k_nmI (fun v3 e3 => ?_)
  refine k_iload_n C 1 rfl dX7_letter_4 rfl ?_
  refine k_iadd C dX7_letter_5 ?_
  refine k_nmI (fun v5 e5 => ?_)
  rcases (show (v5 < 0 ∨ 34 < v5) ∨ (v5 = 0) ∨ (v5 = 1) ∨ (v5 = 2) ∨ (v5 = 3) ∨ (v5 = 4) ∨ (v5 = 5) ∨ (v5 = 6) ∨ (v5 = 7) ∨ (v5 = 8) ∨ (v5 = 9) ∨ (v5 = 10) ∨ (v5 = 11) ∨ (v5 = 12) ∨ (v5 = 13) ∨ (v5 = 14) ∨ (v5 = 15) ∨ (v5 = 16) ∨ (v5 = 17) ∨ (v5 = 18) ∨ (v5 = 19) ∨ (v5 = 20) ∨ (v5 = 21) ∨ (v5 = 22) ∨ (v5 = 23) ∨ (v5 = 24) ∨ (v5 = 25) ∨ (v5 = 26) ∨ (v5 = 27) ∨ (v5 = 28) ∨ (v5 = 29) ∨ (v5 = 30) ∨ (v5 = 31) ∨ (v5 = 32) ∨ (v5 = 33) ∨ (v5 = 34) by omega) with c6 | c6 | c6 | c6 | c6 | c6 | c6 | c6 | c6 | c6 | c6 | c6 | c6 | c6 | c6 | c6 | c6 | c6 | c6 | c6 | c6 | c6 | c6 | c6 | c6 | c6 | c6 | c6 | c6 | c6 | c6 | c6 | c6 | c6 | c6 | c6
  · refine k_tabOut C 202 (⟨by omega, by omega⟩) dX7_letter_6 c6 (by decide) ?_
    refine k_iconst C dX7_letter_202 ?_
    exact k_iret C hR (u := 0) rfl (by first | exact let_of hw hj (show v5 = 10 * w + j by omega) (by rw [c6]; decide) | exact let_df hw hj (show v5 = 10 * w + j by omega) (by omega)) rfl (Nat.le_of_ble_eq_true rfl) (Nat.le_of_ble_eq_true rfl) dX7_letter_203
  · refine k_tabIn C 160 (⟨by omega, by omega⟩) dX7_letter_6 (by omega) (by omega) (by rw [c6]; rfl) (by decide) ?_
    refine k_bipush C dX7_letter_160 (by decide) ?_
    exact k_iret C hR (u := 98) rfl (by first | exact let_of hw hj (show v5 = 10 * w + j by omega) (by rw [c6]; decide) | exact let_df hw hj (show v5 = 10 * w + j by omega) (by omega)) rfl (Nat.le_of_ble_eq_true rfl) (Nat.le_of_ble_eq_true rfl) dX7_letter_162
  · refine k_tabIn C 163 (⟨by omega, by omega⟩) dX7_letter_6 (by omega) (by omega) (by rw [c6]; rfl) (by decide) ?_
    refine k_bipush C dX7_letter_163 (by decide) ?_
    exact k_iret C hR (u := 111) rfl (by first | exact let_of hw hj (show v5 = 10 * w + j by omega) (by rw [c6]; decide) | exact let_df hw hj (show v5 = 10 * w + j by omega) (by omega)) rfl (Nat.le_of_ble_eq_true rfl) (Nat.le_of_ble_eq_true rfl) dX7_letter_165
  · refine k_tabIn C 166 (⟨by omega, by omega⟩) dX7_letter_6 (by omega) (by omega) (by rw [c6]; rfl) (by decide) ?_
    refine k_bipush C dX7_letter_166 (by decide) ?_
    exact k_iret C hR (u := 117) rfl (by first | exact let_of hw hj (show v5 = 10 * w + j by omega) (by rw [c6]; decide) | exact let_df hw hj (show v5 = 10 * w + j by omega) (by omega)) rfl (Nat.le_of_ble_eq_true rfl) (Nat.le_of_ble_eq_true rfl) dX7_letter_168
  · refine k_tabIn C 169 (⟨by omega, by omega⟩) dX7_letter_6 (by omega) (by omega) (by rw [c6]; rfl) (by decide) ?_
    refine k_bipush C dX7_letter_169 (by decide) ?_
    exact k_iret C hR (u := 110) rfl (by first | exact let_of hw hj (show v5 = 10 * w + j by omega) (by rw [c6]; decide) | exact let_df hw hj (show v5 = 10 * w + j by omega) (by omega)) rfl (Nat.le_of_ble_eq_true rfl) (Nat.le_of_ble_eq_true rfl) dX7_letter_171
  · refine k_tabIn C 172 (⟨by omega, by omega⟩) dX7_letter_6 (by omega) (by omega) (by rw [c6]; rfl) (by decide) ?_
    refine k_bipush C dX7_letter_172 (by decide) ?_
    exact k_iret C hR (u := 100) rfl (by first | exact let_of hw hj (show v5 = 10 * w + j by omega) (by rw [c6]; decide) | exact let_df hw hj (show v5 = 10 * w + j by omega) (by omega)) rfl (Nat.le_of_ble_eq_true rfl) (Nat.le_of_ble_eq_true rfl) dX7_letter_174
  · refine k_tabIn C 202 (⟨by omega, by omega⟩) dX7_letter_6 (by omega) (by omega) (by rw [c6]; rfl) (by decide) ?_
    refine k_iconst C dX7_letter_202 ?_
    exact k_iret C hR (u := 0) rfl (by first | exact let_of hw hj (show v5 = 10 * w + j by omega) (by rw [c6]; decide) | exact let_df hw hj (show v5 = 10 * w + j by omega) (by omega)) rfl (Nat.le_of_ble_eq_true rfl) (Nat.le_of_ble_eq_true rfl) dX7_letter_203
  · refine k_tabIn C 202 (⟨by omega, by omega⟩) dX7_letter_6 (by omega) (by omega) (by rw [c6]; rfl) (by decide) ?_
    refine k_iconst C dX7_letter_202 ?_
    exact k_iret C hR (u := 0) rfl (by first | exact let_of hw hj (show v5 = 10 * w + j by omega) (by rw [c6]; decide) | exact let_df hw hj (show v5 = 10 * w + j by omega) (by omega)) rfl (Nat.le_of_ble_eq_true rfl) (Nat.le_of_ble_eq_true rfl) dX7_letter_203
  · refine k_tabIn C 202 (⟨by omega, by omega⟩) dX7_letter_6 (by omega) (by omega) (by rw [c6]; rfl) (by decide) ?_
    refine k_iconst C dX7_letter_202 ?_
    exact k_iret C hR (u := 0) rfl (by first | exact let_of hw hj (show v5 = 10 * w + j by omega) (by rw [c6]; decide) | exact let_df hw hj (show v5 = 10 * w + j by omega) (by omega)) rfl (Nat.le_of_ble_eq_true rfl) (Nat.le_of_ble_eq_true rfl) dX7_letter_203
  · refine k_tabIn C 202 (⟨by omega, by omega⟩) dX7_letter_6 (by omega) (by omega) (by rw [c6]; rfl) (by decide) ?_
    refine k_iconst C dX7_letter_202 ?_
    exact k_iret C hR (u := 0) rfl (by first | exact let_of hw hj (show v5 = 10 * w + j by omega) (by rw [c6]; decide) | exact let_df hw hj (show v5 = 10 * w + j by omega) (by omega)) rfl (Nat.le_of_ble_eq_true rfl) (Nat.le_of_ble_eq_true rfl) dX7_letter_203
  · refine k_tabIn C 202 (⟨by omega, by omega⟩) dX7_letter_6 (by omega) (by omega) (by rw [c6]; rfl) (by decide) ?_
    refine k_iconst C dX7_letter_202 ?_
    exact k_iret C hR (u := 0) rfl (by first | exact let_of hw hj (show v5 = 10 * w + j by omega) (by rw [c6]; decide) | exact let_df hw hj (show v5 = 10 * w + j by omega) (by omega)) rfl (Nat.le_of_ble_eq_true rfl) (Nat.le_of_ble_eq_true rfl) dX7_letter_203
  · refine k_tabIn C 175 (⟨by omega, by omega⟩) dX7_letter_6 (by omega) (by omega) (by rw [c6]; rfl) (by decide) ?_
    refine k_bipush C dX7_letter_175 (by decide) ?_
    exact k_iret C hR (u := 115) rfl (by first | exact let_of hw hj (show v5 = 10 * w + j by omega) (by rw [c6]; decide) | exact let_df hw hj (show v5 = 10 * w + j by omega) (by omega)) rfl (Nat.le_of_ble_eq_true rfl) (Nat.le_of_ble_eq_true rfl) dX7_letter_177
  · refine k_tabIn C 178 (⟨by omega, by omega⟩) dX7_letter_6 (by omega) (by omega) (by rw [c6]; rfl) (by decide) ?_
    refine k_bipush C dX7_letter_178 (by decide) ?_
    exact k_iret C hR (u := 116) rfl (by first | exact let_of hw hj (show v5 = 10 * w + j by omega) (by rw [c6]; decide) | exact let_df hw hj (show v5 = 10 * w + j by omega) (by omega)) rfl (Nat.le_of_ble_eq_true rfl) (Nat.le_of_ble_eq_true rfl) dX7_letter_180
  · refine k_tabIn C 181 (⟨by omega, by omega⟩) dX7_letter_6 (by omega) (by omega) (by rw [c6]; rfl) (by decide) ?_
    refine k_bipush C dX7_letter_181 (by decide) ?_
    exact k_iret C hR (u := 114) rfl (by first | exact let_of hw hj (show v5 = 10 * w + j by omega) (by rw [c6]; decide) | exact let_df hw hj (show v5 = 10 * w + j by omega) (by omega)) rfl (Nat.le_of_ble_eq_true rfl) (Nat.le_of_ble_eq_true rfl) dX7_letter_183
  · refine k_tabIn C 184 (⟨by omega, by omega⟩) dX7_letter_6 (by omega) (by omega) (by rw [c6]; rfl) (by decide) ?_
    refine k_bipush C dX7_letter_184 (by decide) ?_
    exact k_iret C hR (u := 105) rfl (by first | exact let_of hw hj (show v5 = 10 * w + j by omega) (by rw [c6]; decide) | exact let_df hw hj (show v5 = 10 * w + j by omega) (by omega)) rfl (Nat.le_of_ble_eq_true rfl) (Nat.le_of_ble_eq_true rfl) dX7_letter_186
  · refine k_tabIn C 187 (⟨by omega, by omega⟩) dX7_letter_6 (by omega) (by omega) (by rw [c6]; rfl) (by decide) ?_
    refine k_bipush C dX7_letter_187 (by decide) ?_
    exact k_iret C hR (u := 107) rfl (by first | exact let_of hw hj (show v5 = 10 * w + j by omega) (by rw [c6]; decide) | exact let_df hw hj (show v5 = 10 * w + j by omega) (by omega)) rfl (Nat.le_of_ble_eq_true rfl) (Nat.le_of_ble_eq_true rfl) dX7_letter_189
  · refine k_tabIn C 190 (⟨by omega, by omega⟩) dX7_letter_6 (by omega) (by omega) (by rw [c6]; rfl) (by decide) ?_
    refine k_bipush C dX7_letter_190 (by decide) ?_
    exact k_iret C hR (u := 101) rfl (by first | exact let_of hw hj (show v5 = 10 * w + j by omega) (by rw [c6]; decide) | exact let_df hw hj (show v5 = 10 * w + j by omega) (by omega)) rfl (Nat.le_of_ble_eq_true rfl) (Nat.le_of_ble_eq_true rfl) dX7_letter_192
  · refine k_tabIn C 202 (⟨by omega, by omega⟩) dX7_letter_6 (by omega) (by omega) (by rw [c6]; rfl) (by decide) ?_
    refine k_iconst C dX7_letter_202 ?_
    exact k_iret C hR (u := 0) rfl (by first | exact let_of hw hj (show v5 = 10 * w + j by omega) (by rw [c6]; decide) | exact let_df hw hj (show v5 = 10 * w + j by omega) (by omega)) rfl (Nat.le_of_ble_eq_true rfl) (Nat.le_of_ble_eq_true rfl) dX7_letter_203
  · refine k_tabIn C 202 (⟨by omega, by omega⟩) dX7_letter_6 (by omega) (by omega) (by rw [c6]; rfl) (by decide) ?_
    refine k_iconst C dX7_letter_202 ?_
    exact k_iret C hR (u := 0) rfl (by first | exact let_of hw hj (show v5 = 10 * w + j by omega) (by rw [c6]; decide) | exact let_df hw hj (show v5 = 10 * w + j by omega) (by omega)) rfl (Nat.le_of_ble_eq_true rfl) (Nat.le_of_ble_eq_true rfl) dX7_letter_203
  · refine k_tabIn C 202 (⟨by omega, by omega⟩) dX7_letter_6 (by omega) (by omega) (by rw [c6]; rfl) (by decide) ?_
    refine k_iconst C dX7_letter_202 ?_
    exact k_iret C hR (u := 0) rfl (by first | exact let_of hw hj (show v5 = 10 * w + j by omega) (by rw [c6]; decide) | exact let_df hw hj (show v5 = 10 * w + j by omega) (by omega)) rfl (Nat.le_of_ble_eq_true rfl) (Nat.le_of_ble_eq_true rfl) dX7_letter_203
  · refine k_tabIn C 202 (⟨by omega, by omega⟩) dX7_letter_6 (by omega) (by omega) (by rw [c6]; rfl) (by decide) ?_
    refine k_iconst C dX7_letter_202 ?_
    exact k_iret C hR (u := 0) rfl (by first | exact let_of hw hj (show v5 = 10 * w + j by omega) (by rw [c6]; decide) | exact let_df hw hj (show v5 = 10 * w + j by omega) (by omega)) rfl (Nat.le_of_ble_eq_true rfl) (Nat.le_of_ble_eq_true rfl) dX7_letter_203
  · refine k_tabIn C 175 (⟨by omega, by omega⟩) dX7_letter_6 (by omega) (by omega) (by rw [c6]; rfl) (by decide) ?_
    refine k_bipush C dX7_letter_175 (by decide) ?_
    exact k_iret C hR (u := 115) rfl (by first | exact let_of hw hj (show v5 = 10 * w + j by omega) (by rw [c6]; decide) | exact let_df hw hj (show v5 = 10 * w + j by omega) (by omega)) rfl (Nat.le_of_ble_eq_true rfl) (Nat.le_of_ble_eq_true rfl) dX7_letter_177
  · refine k_tabIn C 193 (⟨by omega, by omega⟩) dX7_letter_6 (by omega) (by omega) (by rw [c6]; rfl) (by decide) ?_
    refine k_bipush C dX7_letter_193 (by decide) ?_
    exact k_iret C hR (u := 112) rfl (by first | exact let_of hw hj (show v5 = 10 * w + j by omega) (by rw [c6]; decide) | exact let_df hw hj (show v5 = 10 * w + j by omega) (by omega)) rfl (Nat.le_of_ble_eq_true rfl) (Nat.le_of_ble_eq_true rfl) dX7_letter_195
  · refine k_tabIn C 196 (⟨by omega, by omega⟩) dX7_letter_6 (by omega) (by omega) (by rw [c6]; rfl) (by decide) ?_
    refine k_bipush C dX7_letter_196 (by decide) ?_
    exact k_iret C hR (u := 97) rfl (by first | exact let_of hw hj (show v5 = 10 * w + j by omega) (by rw [c6]; decide) | exact let_df hw hj (show v5 = 10 * w + j by omega) (by omega)) rfl (Nat.le_of_ble_eq_true rfl) (Nat.le_of_ble_eq_true rfl) dX7_letter_198
  · refine k_tabIn C 181 (⟨by omega, by omega⟩) dX7_letter_6 (by omega) (by omega) (by rw [c6]; rfl) (by decide) ?_
    refine k_bipush C dX7_letter_181 (by decide) ?_
    exact k_iret C hR (u := 114) rfl (by first | exact let_of hw hj (show v5 = 10 * w + j by omega) (by rw [c6]; decide) | exact let_df hw hj (show v5 = 10 * w + j by omega) (by omega)) rfl (Nat.le_of_ble_eq_true rfl) (Nat.le_of_ble_eq_true rfl) dX7_letter_183
  · refine k_tabIn C 190 (⟨by omega, by omega⟩) dX7_letter_6 (by omega) (by omega) (by rw [c6]; rfl) (by decide) ?_
    refine k_bipush C dX7_letter_190 (by decide) ?_
    exact k_iret C hR (u := 101) rfl (by first | exact let_of hw hj (show v5 = 10 * w + j by omega) (by rw [c6]; decide) | exact let_df hw hj (show v5 = 10 * w + j by omega) (by omega)) rfl (Nat.le_of_ble_eq_true rfl) (Nat.le_of_ble_eq_true rfl) dX7_letter_192
  · refine k_tabIn C 202 (⟨by omega, by omega⟩) dX7_letter_6 (by omega) (by omega) (by rw [c6]; rfl) (by decide) ?_
    refine k_iconst C dX7_letter_202 ?_
    exact k_iret C hR (u := 0) rfl (by first | exact let_of hw hj (show v5 = 10 * w + j by omega) (by rw [c6]; decide) | exact let_df hw hj (show v5 = 10 * w + j by omega) (by omega)) rfl (Nat.le_of_ble_eq_true rfl) (Nat.le_of_ble_eq_true rfl) dX7_letter_203
  · refine k_tabIn C 202 (⟨by omega, by omega⟩) dX7_letter_6 (by omega) (by omega) (by rw [c6]; rfl) (by decide) ?_
    refine k_iconst C dX7_letter_202 ?_
    exact k_iret C hR (u := 0) rfl (by first | exact let_of hw hj (show v5 = 10 * w + j by omega) (by rw [c6]; decide) | exact let_df hw hj (show v5 = 10 * w + j by omega) (by omega)) rfl (Nat.le_of_ble_eq_true rfl) (Nat.le_of_ble_eq_true rfl) dX7_letter_203
  · refine k_tabIn C 202 (⟨by omega, by omega⟩) dX7_letter_6 (by omega) (by omega) (by rw [c6]; rfl) (by decide) ?_
    refine k_iconst C dX7_letter_202 ?_
    exact k_iret C hR (u := 0) rfl (by first | exact let_of hw hj (show v5 = 10 * w + j by omega) (by rw [c6]; decide) | exact let_df hw hj (show v5 = 10 * w + j by omega) (by omega)) rfl (Nat.le_of_ble_eq_true rfl) (Nat.le_of_ble_eq_true rfl) dX7_letter_203
  · refine k_tabIn C 202 (⟨by omega, by omega⟩) dX7_letter_6 (by omega) (by omega) (by rw [c6]; rfl) (by decide) ?_
    refine k_iconst C dX7_letter_202 ?_
    exact k_iret C hR (u := 0) rfl (by first | exact let_of hw hj (show v5 = 10 * w + j by omega) (by rw [c6]; decide) | exact let_df hw hj (show v5 = 10 * w + j by omega) (by omega)) rfl (Nat.le_of_ble_eq_true rfl) (Nat.le_of_ble_eq_true rfl) dX7_letter_203
  · refine k_tabIn C 202 (⟨by omega, by omega⟩) dX7_letter_6 (by omega) (by omega) (by rw [c6]; rfl) (by decide) ?_
    refine k_iconst C dX7_letter_202 ?_
    exact k_iret C hR (u := 0) rfl (by first | exact let_of hw hj (show v5 = 10 * w + j by omega) (by rw [c6]; decide) | exact let_df hw hj (show v5 = 10 * w + j by omega) (by omega)) rfl (Nat.le_of_ble_eq_true rfl) (Nat.le_of_ble_eq_true rfl) dX7_letter_203
  · refine k_tabIn C 196 (⟨by omega, by omega⟩) dX7_letter_6 (by omega) (by omega) (by rw [c6]; rfl) (by decide) ?_
    refine k_bipush C dX7_letter_196 (by decide) ?_
    exact k_iret C hR (u := 97) rfl (by first | exact let_of hw hj (show v5 = 10 * w + j by omega) (by rw [c6]; decide) | exact let_df hw hj (show v5 = 10 * w + j by omega) (by omega)) rfl (Nat.le_of_ble_eq_true rfl) (Nat.le_of_ble_eq_true rfl) dX7_letter_198
  · refine k_tabIn C 199 (⟨by omega, by omega⟩) dX7_letter_6 (by omega) (by omega) (by rw [c6]; rfl) (by decide) ?_
    refine k_bipush C dX7_letter_199 (by decide) ?_
    exact k_iret C hR (u := 103) rfl (by first | exact let_of hw hj (show v5 = 10 * w + j by omega) (by rw [c6]; decide) | exact let_df hw hj (show v5 = 10 * w + j by omega) (by omega)) rfl (Nat.le_of_ble_eq_true rfl) (Nat.le_of_ble_eq_true rfl) dX7_letter_201
  · refine k_tabIn C 196 (⟨by omega, by omega⟩) dX7_letter_6 (by omega) (by omega) (by rw [c6]; rfl) (by decide) ?_
    refine k_bipush C dX7_letter_196 (by decide) ?_
    exact k_iret C hR (u := 97) rfl (by first | exact let_of hw hj (show v5 = 10 * w + j by omega) (by rw [c6]; decide) | exact let_df hw hj (show v5 = 10 * w + j by omega) (by omega)) rfl (Nat.le_of_ble_eq_true rfl) (Nat.le_of_ble_eq_true rfl) dX7_letter_198
  · refine k_tabIn C 184 (⟨by omega, by omega⟩) dX7_letter_6 (by omega) (by omega) (by rw [c6]; rfl) (by decide) ?_
    refine k_bipush C dX7_letter_184 (by decide) ?_
    exact k_iret C hR (u := 105) rfl (by first | exact let_of hw hj (show v5 = 10 * w + j by omega) (by rw [c6]; decide) | exact let_df hw hj (show v5 = 10 * w + j by omega) (by omega)) rfl (Nat.le_of_ble_eq_true rfl) (Nat.le_of_ble_eq_true rfl) dX7_letter_186
  · refine k_tabIn C 169 (⟨by omega, by omega⟩) dX7_letter_6 (by omega) (by omega) (by rw [c6]; rfl) (by decide) ?_
    refine k_bipush C dX7_letter_169 (by decide) ?_
    exact k_iret C hR (u := 110) rfl (by first | exact let_of hw hj (show v5 = 10 * w + j by omega) (by rw [c6]; decide) | exact let_df hw hj (show v5 = 10 * w + j by omega) (by omega)) rfl (Nat.le_of_ble_eq_true rfl) (Nat.le_of_ble_eq_true rfl) dX7_letter_171
theorem in_X7_bound_X7 : ∀ w ∈ wsX70, w ∈ wsX7_bound := by decide +kernel
set_option maxHeartbeats 4000000 in
set_option maxRecDepth 100000 in
theorem c_X7_bound (l : Launch) (G : KG) (mo s sv tx fa ea go qu : Nat) (st ty th un om : Int) (R : List (Nat × Nat × Nat)) (sw : Nat → Option (Nat × Nat × Nat)) (n k m : Nat) (x : Int) (fs fv : Nat → Int) (hI : MI R sw n k m st fs fv) (hx : -2147483648 ≤ x ∧ x < 2147483648) : Ct l G yX7_bound wsX7_bound (rmD 2 0 0) [.ref mo, .int (iI x)] [(mo, .inr (6, [.ref s, .int (iI st), .ref sv, .ref tx, .int (iI ty), .int (iI th), .ref fa, .ref ea, .ref go, .ref qu, .int (iI un), .int (iI om)])), (s, .inl (g_I G, 756, .inl (aI fs))), (sv, .inl (g_Z G, 2, .inl (aI fv)))] (fun u : Int × Int × Int × (Nat → Int) => ((1 ≤ x ∧ x ≤ 99999) ∧ u.1 = (n : Int) ∧ u.2.1 = 0 ∧ MI (((n, k, m) :: R).take 14) sw x.toNat 0 0 u.2.2.1 u.2.2.2 fv) ∨ (¬ (1 ≤ x ∧ x ≤ 99999) ∧ u.2.1 = 1 ∧ MI R sw n k m u.2.2.1 u.2.2.2 fv)) (fun u : Int × Int × Int × (Nat → Int) => some (.int (iI u.1))) (fun u : Int × Int × Int × (Nat → Int) => [(mo, .inr (6, [.ref s, .int (iI u.2.2.1), .ref sv, .ref tx, .int (iI ty), .int (iI u.2.1), .ref fa, .ref ea, .ref go, .ref qu, .int (iI un), .int (iI om)])), (s, .inl (g_I G, 756, .inl (aI u.2.2.2))), (sv, .inl (g_Z G, 2, .inl (aI fv)))]) := by
  refine Ct.of (cc := cX7_bound) (maxL := 3) (ret := (some .int)) (by decide +kernel) rfl (Nat.le_of_ble_eq_true rfl) ?_
  intro X C hG hL hnm hR
  subst hG
  subst hL
  have C : Cx X cX7_bound RX7 wsX7_bound (some .int) 3 (rmD 2 0 0) := C
  obtain ⟨m1, m2, m3, m4⟩ := id hI.2.1
  have mk : k ≤ 40 := m4.2.2.1
  have mn1 : 1 ≤ n := m4.1
  have mn2 : n ≤ 99999 := m4.2.1
  show K_ X 0 0 [(mo, .inr (6, [.ref s, .int (iI st), .ref sv, .ref tx, .int (iI ty), .int (iI th), .ref fa, .ref ea, .ref go, .ref qu, .int (iI un), .int (iI om)])), (s, .inl (g_I (x_G X), 756, .inl (aI fs))), (sv, .inl (g_Z (x_G X), 2, .inl (aI fv)))] 0 [(0, .ref mo), (1, .int (iI x))] []
  refine k_aload_n C 0 rfl dX7_bound_0 rfl ?_
  refine k_iload_n C 1 rfl dX7_bound_1 rfl ?_
  refine k_iconst C dX7_bound_2 ?_
  refine k_ldc C 99999 1 rfl (by decide) dX7_bound_3 ?_
  refine k_callS C (y := yX7_in) [.int (iI x), .int (iI 1), .int (iI 99999)] 3 rfl (c_X7_in (x_l X) (x_G X) x 1 99999 (by omega) (by omega) (by omega)) gX7_bound_X7_in rfl ⟨by decide +kernel, by decide +kernel, by decide +kernel⟩ ⟨by decide, by decide⟩ [] (by decide) (wc := []) rfl [.ref mo] rfl (Nat.le_of_ble_eq_true rfl) ⟨Nat.le_of_ble_eq_true rfl, Nat.le_of_ble_eq_true rfl⟩ dX7_bound_5 (fun _ => [(mo, .inr (6, [.ref s, .int (iI st), .ref sv, .ref tx, .int (iI ty), .int (iI th), .ref fa, .ref ea, .ref go, .ref qu, .int (iI un), .int (iI om)])), (s, .inl (g_I (x_G X), 756, .inl (aI fs))), (sv, .inl (g_Z (x_G X), 2, .inl (aI fv)))]) (Or.inl (fun _ => ⟨rfl, rfl⟩)) (fun u5 => [.int (iI u5), .ref mo]) (fun _ => rfl) 0 0 ⟨rfl, rfl⟩ (fun u5 hu5 => ?_)
  refine k_iconst C dX7_bound_8 ?_
  refine k_callV C (y := yX7_goes) [.int (iI u5), .int (iI 1)] 2 rfl (c_X7_goes (x_l X) (x_G X) mo s sv tx fa ea go qu st ty th un om u5 1 (by omega) (by omega)) gX7_bound_X7_goes rfl ⟨rfl, by decide +kernel, by decide +kernel, by decide +kernel⟩ ⟨by decide, by decide⟩ 0 (fs := [.ref s, .int (iI st), .ref sv, .ref tx, .int (iI ty), .int (iI th), .ref fa, .ref ea, .ref go, .ref qu, .int (iI un), .int (iI om)]) rfl rfl rfl [0] (by decide) (wc := [(mo, .inr (6, [.ref s, .int (iI st), .ref sv, .ref tx, .int (iI ty), .int (iI th), .ref fa, .ref ea, .ref go, .ref qu, .int (iI un), .int (iI om)]))]) rfl [] rfl (Nat.le_of_ble_eq_true rfl) ⟨Nat.le_of_ble_eq_true rfl, Nat.le_of_ble_eq_true rfl⟩ dX7_bound_9 (fun u9 => [(mo, .inr (6, [.ref s, .int (iI st), .ref sv, .ref tx, .int (iI ty), .int (iI u9.2), .ref fa, .ref ea, .ref go, .ref qu, .int (iI un), .int (iI om)])), (s, .inl (g_I (x_G X), 756, .inl (aI fs))), (sv, .inl (g_Z (x_G X), 2, .inl (aI fv)))]) (Or.inr ⟨[1, 2], [2, 0, 1], [(s, .inl (g_I (x_G X), 756, .inl (aI fs))), (sv, .inl (g_Z (x_G X), 2, .inl (aI fv)))], rfl, by decide, by decide, by decide, fun _ => rfl⟩) (fun u9 => [.int (iI u9.1)]) (fun _ => rfl) 0 0 ⟨rfl, rfl⟩ (fun u9 hu9 => ?_)
  refine k_if_ne C 17 (⟨by omega, by omega⟩) dX7_bound_12 (by decide) (fun c12 => ?_) (fun c12 => ?_)
  · skip
    refine k_aload_n C 0 rfl dX7_bound_17 rfl ?_
    refine k_callV C (y := yX7_remembers) [] 0 rfl (c_X7_remembers (x_l X) (x_G X) mo s sv tx fa ea go qu st ty u9.2 un om R n k m fs (hI.1) (hI.2.1)) gX7_bound_X7_remembers rfl ⟨rfl, by decide +kernel, by decide +kernel, by decide +kernel⟩ ⟨by decide, by decide⟩ 0 (fs := [.ref s, .int (iI st), .ref sv, .ref tx, .int (iI ty), .int (iI u9.2), .ref fa, .ref ea, .ref go, .ref qu, .int (iI un), .int (iI om)]) rfl rfl rfl [0, 1] (by decide) (wc := [(mo, .inr (6, [.ref s, .int (iI st), .ref sv, .ref tx, .int (iI ty), .int (iI u9.2), .ref fa, .ref ea, .ref go, .ref qu, .int (iI un), .int (iI om)])), (s, .inl (g_I (x_G X), 756, .inl (aI fs)))]) rfl [] rfl (Nat.le_of_ble_eq_true rfl) ⟨Nat.le_of_ble_eq_true rfl, Nat.le_of_ble_eq_true rfl⟩ dX7_bound_18 (fun u18 => [(mo, .inr (6, [.ref s, .int (iI u18.1), .ref sv, .ref tx, .int (iI ty), .int (iI u9.2), .ref fa, .ref ea, .ref go, .ref qu, .int (iI un), .int (iI om)])), (s, .inl (g_I (x_G X), 756, .inl (aI u18.2))), (sv, .inl (g_Z (x_G X), 2, .inl (aI fv)))]) (Or.inr ⟨[2], [1, 2, 0], [(sv, .inl (g_Z (x_G X), 2, .inl (aI fv)))], rfl, by decide, by decide, by decide, fun _ => rfl⟩) (fun u18 => []) (fun _ => rfl) 0 0 ⟨rfl, rfl⟩ (fun u18 hu18 => ?_)
    have hI2 := MI_rem hI hu18
    refine k_aload_n C 0 rfl dX7_bound_21 rfl ?_
    refine k_get C (Cn := RX7) (T := TX7) (N := 12) (ci := 6) (ref := "StruckCountsModel") in_X7_bound_X7 0 rfl rfl 0 (by decide) 2 rfl rfl (v := .ref s) rfl dX7_bound_22 ?_
    refine k_iconst C dX7_bound_25 ?_
    refine k_iald C (f := u18.2) 1 rfl (⟨by omega, by omega⟩) (by decide) dX7_bound_26 ?_
    refine k_nmI (fun v26 e26 => ?_)
    have hn : v26 = (n : Int) := by rw [e26]; exact hI2.2.1.1
    refine k_istore_n C (lo' := [(2, .int (iI v26)), (0, .ref mo), (1, .int (iI x))]) dX7_bound_27 rfl (by decide) rfl ?_
    refine k_aload_n C 1 rfl dX7_bound_28 rfl ?_
    refine k_iconst C dX7_bound_29 ?_
    refine k_iload_n C 2 rfl dX7_bound_30 rfl ?_
    refine k_callV C (y := yX7_bounds) [.int (iI 0), .int (iI x)] 2 rfl (c_X7_bounds (x_l X) (x_G X) mo s sv tx fa ea go qu u18.1 ty u9.2 un om 0 x 0 x.toNat u18.2 (rfl) (by decide) (by omega) (by omega)) gX7_bound_X7_bounds rfl ⟨rfl, by decide +kernel, by decide +kernel, by decide +kernel⟩ ⟨by decide, by decide⟩ 0 (fs := [.ref s, .int (iI u18.1), .ref sv, .ref tx, .int (iI ty), .int (iI u9.2), .ref fa, .ref ea, .ref go, .ref qu, .int (iI un), .int (iI om)]) rfl rfl rfl [0, 1] (by decide) (wc := [(mo, .inr (6, [.ref s, .int (iI u18.1), .ref sv, .ref tx, .int (iI ty), .int (iI u9.2), .ref fa, .ref ea, .ref go, .ref qu, .int (iI un), .int (iI om)])), (s, .inl (g_I (x_G X), 756, .inl (aI u18.2)))]) rfl [] rfl (Nat.le_of_ble_eq_true rfl) ⟨Nat.le_of_ble_eq_true rfl, Nat.le_of_ble_eq_true rfl⟩ dX7_bound_31 (fun u31 => [(mo, .inr (6, [.ref s, .int (iI u18.1), .ref sv, .ref tx, .int (iI ty), .int (iI u9.2), .ref fa, .ref ea, .ref go, .ref qu, .int (iI un), .int (iI om)])), (s, .inl (g_I (x_G X), 756, .inl (aI u31))), (sv, .inl (g_Z (x_G X), 2, .inl (aI fv)))]) (Or.inr ⟨[2], [1, 2, 0], [(sv, .inl (g_Z (x_G X), 2, .inl (aI fv)))], rfl, by decide, by decide, by decide, fun _ => rfl⟩) (fun u31 => []) (fun _ => rfl) 0 0 ⟨rfl, rfl⟩ (fun u31 hu31 => ?_)
    refine k_iload_n C 0 rfl dX7_bound_34 rfl ?_
    exact k_iret C hR (u := (v26, u9.2, u18.1, u31)) rfl (by (try dsimp only) <;> exact (Or.inl ⟨by omega, hn, by omega, MI_0 hI2 hu31.2 hu31.1⟩)) rfl (Nat.le_of_ble_eq_true rfl) (Nat.le_of_ble_eq_true rfl) dX7_bound_35
  · skip
    refine k_iconst C dX7_bound_15 ?_
    exact k_iret C hR (u := (0, u9.2, st, fs)) rfl (by (try dsimp only) <;> exact (Or.inr ⟨by omega, by omega, hI⟩)) rfl (Nat.le_of_ble_eq_true rfl) (Nat.le_of_ble_eq_true rfl) dX7_bound_16
theorem in_X7_strike_X7 : ∀ w ∈ wsX70, w ∈ wsX7_strike := by decide +kernel
set_option maxHeartbeats 4000000 in
set_option maxRecDepth 100000 in
theorem c_X7_strike (l : Launch) (G : KG) (mo s sv tx fa ea go qu : Nat) (st ty th un om : Int) (R : List (Nat × Nat × Nat)) (sw : Nat → Option (Nat × Nat × Nat)) (n k m : Nat) (fs fv fe fg : Nat → Int) (hI : MI R sw n k m st fs fv) (hE : ∀ i : Nat, i < 40 → fe i = (sp i : Int)) : Ct l G yX7_strike wsX7_strike (rmD 2 0 0) [.ref mo] [(mo, .inr (6, [.ref s, .int (iI st), .ref sv, .ref tx, .int (iI ty), .int (iI th), .ref fa, .ref ea, .ref go, .ref qu, .int (iI un), .int (iI om)])), (s, .inl (g_I G, 756, .inl (aI fs))), (sv, .inl (g_Z G, 2, .inl (aI fv))), (ea, .inl (g_I G, 40, .inl (aI fe))), (go, .inl (g_Z G, 100000, .inl (aI fg)))] (fun u : Int × Int × Int × (Nat → Int) × (Nat → Int) => (¬ nxI n k = -1 ∧ u.1 = (cA m k n : Int) - (cA (m ||| 2 ^ k) (k + 1) n : Int) ∧ u.2.1 = 0 ∧ MI (((n, k, m) :: R).take 14) sw n (k + 1) (m ||| 2 ^ k) u.2.2.1 u.2.2.2.1 fv) ∨ (nxI n k = -1 ∧ u.2.1 = 1 ∧ MI R sw n k m u.2.2.1 u.2.2.2.1 fv)) (fun u : Int × Int × Int × (Nat → Int) × (Nat → Int) => some (.int (iI u.1))) (fun u : Int × Int × Int × (Nat → Int) × (Nat → Int) => [(mo, .inr (6, [.ref s, .int (iI u.2.2.1), .ref sv, .ref tx, .int (iI ty), .int (iI u.2.1), .ref fa, .ref ea, .ref go, .ref qu, .int (iI un), .int (iI om)])), (s, .inl (g_I G, 756, .inl (aI u.2.2.2.1))), (sv, .inl (g_Z G, 2, .inl (aI fv))), (ea, .inl (g_I G, 40, .inl (aI fe))), (go, .inl (g_Z G, 100000, .inl (aI u.2.2.2.2)))]) := by
  refine Ct.of (cc := cX7_strike) (maxL := 2) (ret := (some .int)) (by decide +kernel) rfl (Nat.le_of_ble_eq_true rfl) ?_
  intro X C hG hL hnm hR
  subst hG
  subst hL
  have C : Cx X cX7_strike RX7 wsX7_strike (some .int) 2 (rmD 2 0 0) := C
  obtain ⟨m1, m2, m3, m4⟩ := id hI.2.1
  have mk : k ≤ 40 := m4.2.2.1
  have mn1 : 1 ≤ n := m4.1
  have mn2 : n ≤ 99999 := m4.2.1
  have hrn := nxI_or n k
  show K_ X 0 0 [(mo, .inr (6, [.ref s, .int (iI st), .ref sv, .ref tx, .int (iI ty), .int (iI th), .ref fa, .ref ea, .ref go, .ref qu, .int (iI un), .int (iI om)])), (s, .inl (g_I (x_G X), 756, .inl (aI fs))), (sv, .inl (g_Z (x_G X), 2, .inl (aI fv))), (ea, .inl (g_I (x_G X), 40, .inl (aI fe))), (go, .inl (g_Z (x_G X), 100000, .inl (aI fg)))] 0 [(0, .ref mo)] []
  refine k_aload_n C 0 rfl dX7_strike_0 rfl ?_
  refine k_aload_n C 0 rfl dX7_strike_1 rfl ?_
  refine k_iconst C dX7_strike_2 ?_
  refine k_callV C (y := yX7_next) [.int (iI 0)] 1 rfl (c_X7_next (x_l X) (x_G X) mo s sv tx fa ea go qu st ty th un om 0 0 n k m fs fe (rfl) (by decide) (hI.2.1) (by assumption)) gX7_strike_X7_next rfl ⟨rfl, by decide +kernel, by decide +kernel, by decide +kernel⟩ ⟨by decide, by decide⟩ 0 (fs := [.ref s, .int (iI st), .ref sv, .ref tx, .int (iI ty), .int (iI th), .ref fa, .ref ea, .ref go, .ref qu, .int (iI un), .int (iI om)]) rfl rfl rfl [0, 1, 3] (by decide) (wc := [(mo, .inr (6, [.ref s, .int (iI st), .ref sv, .ref tx, .int (iI ty), .int (iI th), .ref fa, .ref ea, .ref go, .ref qu, .int (iI un), .int (iI om)])), (s, .inl (g_I (x_G X), 756, .inl (aI fs))), (ea, .inl (g_I (x_G X), 40, .inl (aI fe)))]) rfl [.ref mo] rfl (Nat.le_of_ble_eq_true rfl) ⟨Nat.le_of_ble_eq_true rfl, Nat.le_of_ble_eq_true rfl⟩ dX7_strike_3 (fun _ => [(mo, .inr (6, [.ref s, .int (iI st), .ref sv, .ref tx, .int (iI ty), .int (iI th), .ref fa, .ref ea, .ref go, .ref qu, .int (iI un), .int (iI om)])), (s, .inl (g_I (x_G X), 756, .inl (aI fs))), (sv, .inl (g_Z (x_G X), 2, .inl (aI fv))), (ea, .inl (g_I (x_G X), 40, .inl (aI fe))), (go, .inl (g_Z (x_G X), 100000, .inl (aI fg)))]) (Or.inl (fun _ => ⟨rfl, rfl⟩)) (fun u3 => [.int (iI u3), .ref mo]) (fun _ => rfl) 0 0 ⟨rfl, rfl⟩ (fun u3 hu3 => ?_)
  refine k_if_le C 13 (by rw [hu3]; omega) dX7_strike_6 (by decide) (fun c6 => ?_) (fun c6 => ?_)
  · skip
    refine k_iconst C dX7_strike_13 ?_
    refine k_iconst C dX7_strike_14 ?_
    refine k_callV C (y := yX7_goes) [.int (iI 0), .int (iI 1)] 2 rfl (c_X7_goes (x_l X) (x_G X) mo s sv tx fa ea go qu st ty th un om 0 1 (by omega) (by omega)) gX7_strike_X7_goes rfl ⟨rfl, by decide +kernel, by decide +kernel, by decide +kernel⟩ ⟨by decide, by decide⟩ 0 (fs := [.ref s, .int (iI st), .ref sv, .ref tx, .int (iI ty), .int (iI th), .ref fa, .ref ea, .ref go, .ref qu, .int (iI un), .int (iI om)]) rfl rfl rfl [0] (by decide) (wc := [(mo, .inr (6, [.ref s, .int (iI st), .ref sv, .ref tx, .int (iI ty), .int (iI th), .ref fa, .ref ea, .ref go, .ref qu, .int (iI un), .int (iI om)]))]) rfl [] rfl (Nat.le_of_ble_eq_true rfl) ⟨Nat.le_of_ble_eq_true rfl, Nat.le_of_ble_eq_true rfl⟩ dX7_strike_15 (fun u15 => [(mo, .inr (6, [.ref s, .int (iI st), .ref sv, .ref tx, .int (iI ty), .int (iI u15.2), .ref fa, .ref ea, .ref go, .ref qu, .int (iI un), .int (iI om)])), (s, .inl (g_I (x_G X), 756, .inl (aI fs))), (sv, .inl (g_Z (x_G X), 2, .inl (aI fv))), (ea, .inl (g_I (x_G X), 40, .inl (aI fe))), (go, .inl (g_Z (x_G X), 100000, .inl (aI fg)))]) (Or.inr ⟨[1, 2, 3, 4], [4, 0, 1, 2, 3], [(s, .inl (g_I (x_G X), 756, .inl (aI fs))), (sv, .inl (g_Z (x_G X), 2, .inl (aI fv))), (ea, .inl (g_I (x_G X), 40, .inl (aI fe))), (go, .inl (g_Z (x_G X), 100000, .inl (aI fg)))], rfl, by decide, by decide, by decide, fun _ => rfl⟩) (fun u15 => [.int (iI u15.1)]) (fun _ => rfl) 0 0 ⟨rfl, rfl⟩ (fun u15 hu15 => ?_)
    refine k_if_ne C 23 (⟨by omega, by omega⟩) dX7_strike_18 (by decide) (fun c18 => ?_) (fun c18 => ?_)
    · exfalso; omega
    · skip
      refine k_iconst C dX7_strike_21 ?_
      exact k_iret C hR (u := (0, u15.2, st, fs, fg)) rfl (by (try dsimp only) <;> exact (Or.inr ⟨by omega, by omega, hI⟩)) rfl (Nat.le_of_ble_eq_true rfl) (Nat.le_of_ble_eq_true rfl) dX7_strike_22
  · skip
    refine k_iconst C dX7_strike_9 ?_
    refine k_goto C 14 dX7_strike_10 (by decide) ?_
    refine k_iconst C dX7_strike_14 ?_
    refine k_callV C (y := yX7_goes) [.int (iI 1), .int (iI 1)] 2 rfl (c_X7_goes (x_l X) (x_G X) mo s sv tx fa ea go qu st ty th un om 1 1 (by omega) (by omega)) gX7_strike_X7_goes rfl ⟨rfl, by decide +kernel, by decide +kernel, by decide +kernel⟩ ⟨by decide, by decide⟩ 0 (fs := [.ref s, .int (iI st), .ref sv, .ref tx, .int (iI ty), .int (iI th), .ref fa, .ref ea, .ref go, .ref qu, .int (iI un), .int (iI om)]) rfl rfl rfl [0] (by decide) (wc := [(mo, .inr (6, [.ref s, .int (iI st), .ref sv, .ref tx, .int (iI ty), .int (iI th), .ref fa, .ref ea, .ref go, .ref qu, .int (iI un), .int (iI om)]))]) rfl [] rfl (Nat.le_of_ble_eq_true rfl) ⟨Nat.le_of_ble_eq_true rfl, Nat.le_of_ble_eq_true rfl⟩ dX7_strike_15 (fun u15 => [(mo, .inr (6, [.ref s, .int (iI st), .ref sv, .ref tx, .int (iI ty), .int (iI u15.2), .ref fa, .ref ea, .ref go, .ref qu, .int (iI un), .int (iI om)])), (s, .inl (g_I (x_G X), 756, .inl (aI fs))), (sv, .inl (g_Z (x_G X), 2, .inl (aI fv))), (ea, .inl (g_I (x_G X), 40, .inl (aI fe))), (go, .inl (g_Z (x_G X), 100000, .inl (aI fg)))]) (Or.inr ⟨[1, 2, 3, 4], [4, 0, 1, 2, 3], [(s, .inl (g_I (x_G X), 756, .inl (aI fs))), (sv, .inl (g_Z (x_G X), 2, .inl (aI fv))), (ea, .inl (g_I (x_G X), 40, .inl (aI fe))), (go, .inl (g_Z (x_G X), 100000, .inl (aI fg)))], rfl, by decide, by decide, by decide, fun _ => rfl⟩) (fun u15 => [.int (iI u15.1)]) (fun _ => rfl) 0 0 ⟨rfl, rfl⟩ (fun u15 hu15 => ?_)
    refine k_if_ne C 23 (⟨by omega, by omega⟩) dX7_strike_18 (by decide) (fun c18 => ?_) (fun c18 => ?_)
    · skip
      refine k_aload_n C 0 rfl dX7_strike_23 rfl ?_
      refine k_callV C (y := yX7_remembers) [] 0 rfl (c_X7_remembers (x_l X) (x_G X) mo s sv tx fa ea go qu st ty u15.2 un om R n k m fs (hI.1) (hI.2.1)) gX7_strike_X7_remembers rfl ⟨rfl, by decide +kernel, by decide +kernel, by decide +kernel⟩ ⟨by decide, by decide⟩ 0 (fs := [.ref s, .int (iI st), .ref sv, .ref tx, .int (iI ty), .int (iI u15.2), .ref fa, .ref ea, .ref go, .ref qu, .int (iI un), .int (iI om)]) rfl rfl rfl [0, 1] (by decide) (wc := [(mo, .inr (6, [.ref s, .int (iI st), .ref sv, .ref tx, .int (iI ty), .int (iI u15.2), .ref fa, .ref ea, .ref go, .ref qu, .int (iI un), .int (iI om)])), (s, .inl (g_I (x_G X), 756, .inl (aI fs)))]) rfl [] rfl (Nat.le_of_ble_eq_true rfl) ⟨Nat.le_of_ble_eq_true rfl, Nat.le_of_ble_eq_true rfl⟩ dX7_strike_24 (fun u24 => [(mo, .inr (6, [.ref s, .int (iI u24.1), .ref sv, .ref tx, .int (iI ty), .int (iI u15.2), .ref fa, .ref ea, .ref go, .ref qu, .int (iI un), .int (iI om)])), (s, .inl (g_I (x_G X), 756, .inl (aI u24.2))), (sv, .inl (g_Z (x_G X), 2, .inl (aI fv))), (ea, .inl (g_I (x_G X), 40, .inl (aI fe))), (go, .inl (g_Z (x_G X), 100000, .inl (aI fg)))]) (Or.inr ⟨[2, 3, 4], [3, 4, 0, 1, 2], [(sv, .inl (g_Z (x_G X), 2, .inl (aI fv))), (ea, .inl (g_I (x_G X), 40, .inl (aI fe))), (go, .inl (g_Z (x_G X), 100000, .inl (aI fg)))], rfl, by decide, by decide, by decide, fun _ => rfl⟩) (fun u24 => []) (fun _ => rfl) 0 0 ⟨rfl, rfl⟩ (fun u24 hu24 => ?_)
      have hI2 := MI_rem hI hu24
      have hnn : ¬ nxI n k = -1 := by omega
      obtain ⟨y2, y3, y1⟩ := nxI_some hnn
      have hs1 := sp_le (show k < 65 by omega)
      have hs2 := sp_ge2 (show k < 65 by omega)
      refine k_aload_n C 0 rfl dX7_strike_27 rfl ?_
      refine k_iconst C dX7_strike_28 ?_
      refine k_callV C (y := yX7_lays) [.int (iI 0)] 1 rfl (c_X7_lays (x_l X) (x_G X) mo s sv tx fa ea go qu u24.1 ty u15.2 un om 0 0 n k m u24.2 fe fg (rfl) (by decide) (hI2.2.1) (by assumption)) gX7_strike_X7_lays rfl ⟨rfl, by decide +kernel, by decide +kernel, by decide +kernel⟩ ⟨by decide, by decide⟩ 0 (fs := [.ref s, .int (iI u24.1), .ref sv, .ref tx, .int (iI ty), .int (iI u15.2), .ref fa, .ref ea, .ref go, .ref qu, .int (iI un), .int (iI om)]) rfl rfl rfl [0, 1, 3, 4] (by decide) (wc := [(mo, .inr (6, [.ref s, .int (iI u24.1), .ref sv, .ref tx, .int (iI ty), .int (iI u15.2), .ref fa, .ref ea, .ref go, .ref qu, .int (iI un), .int (iI om)])), (s, .inl (g_I (x_G X), 756, .inl (aI u24.2))), (ea, .inl (g_I (x_G X), 40, .inl (aI fe))), (go, .inl (g_Z (x_G X), 100000, .inl (aI fg)))]) rfl [] rfl (Nat.le_of_ble_eq_true rfl) ⟨Nat.le_of_ble_eq_true rfl, Nat.le_of_ble_eq_true rfl⟩ dX7_strike_29 (fun u29 => [(mo, .inr (6, [.ref s, .int (iI u24.1), .ref sv, .ref tx, .int (iI ty), .int (iI u15.2), .ref fa, .ref ea, .ref go, .ref qu, .int (iI un), .int (iI om)])), (s, .inl (g_I (x_G X), 756, .inl (aI u24.2))), (sv, .inl (g_Z (x_G X), 2, .inl (aI fv))), (ea, .inl (g_I (x_G X), 40, .inl (aI fe))), (go, .inl (g_Z (x_G X), 100000, .inl (aI u29)))]) (Or.inr ⟨[2], [1, 2, 0, 3, 4], [(sv, .inl (g_Z (x_G X), 2, .inl (aI fv)))], rfl, by decide, by decide, by decide, fun _ => rfl⟩) (fun u29 => []) (fun _ => rfl) 0 0 ⟨rfl, rfl⟩ (fun u29 hu29 => ?_)
      refine k_aload_n C 0 rfl dX7_strike_32 rfl ?_
      refine k_aload_n C 0 rfl dX7_strike_33 rfl ?_
      refine k_get C (Cn := RX7) (T := TX7) (N := 12) (ci := 6) (ref := "StruckCountsModel") in_X7_strike_X7 0 rfl rfl 0 (by decide) 1 rfl rfl (v := .ref s) rfl dX7_strike_34 ?_
      refine k_iconst C dX7_strike_37 ?_
      refine k_iald C (f := u24.2) 1 rfl (⟨by omega, by omega⟩) (by decide) dX7_strike_38 ?_
      refine k_nmI (fun v38 e38 => ?_)
      have hn : v38 = (n : Int) := by rw [e38]; exact hI2.2.1.1
      refine k_aload_n C 0 rfl dX7_strike_39 rfl ?_
      refine k_iconst C dX7_strike_40 ?_
      refine k_callV C (y := yX7_next) [.int (iI 0)] 1 rfl (c_X7_next (x_l X) (x_G X) mo s sv tx fa ea go qu u24.1 ty u15.2 un om 0 0 n k m u24.2 fe (rfl) (by decide) (hI2.2.1) (by assumption)) gX7_strike_X7_next rfl ⟨rfl, by decide +kernel, by decide +kernel, by decide +kernel⟩ ⟨by decide, by decide⟩ 0 (fs := [.ref s, .int (iI u24.1), .ref sv, .ref tx, .int (iI ty), .int (iI u15.2), .ref fa, .ref ea, .ref go, .ref qu, .int (iI un), .int (iI om)]) rfl rfl rfl [0, 1, 3] (by decide) (wc := [(mo, .inr (6, [.ref s, .int (iI u24.1), .ref sv, .ref tx, .int (iI ty), .int (iI u15.2), .ref fa, .ref ea, .ref go, .ref qu, .int (iI un), .int (iI om)])), (s, .inl (g_I (x_G X), 756, .inl (aI u24.2))), (ea, .inl (g_I (x_G X), 40, .inl (aI fe)))]) rfl [.int (iI v38), .ref mo] rfl (Nat.le_of_ble_eq_true rfl) ⟨Nat.le_of_ble_eq_true rfl, Nat.le_of_ble_eq_true rfl⟩ dX7_strike_41 (fun _ => [(mo, .inr (6, [.ref s, .int (iI u24.1), .ref sv, .ref tx, .int (iI ty), .int (iI u15.2), .ref fa, .ref ea, .ref go, .ref qu, .int (iI un), .int (iI om)])), (s, .inl (g_I (x_G X), 756, .inl (aI u24.2))), (sv, .inl (g_Z (x_G X), 2, .inl (aI fv))), (ea, .inl (g_I (x_G X), 40, .inl (aI fe))), (go, .inl (g_Z (x_G X), 100000, .inl (aI u29)))]) (Or.inl (fun _ => ⟨rfl, rfl⟩)) (fun u41 => [.int (iI u41), .int (iI v38), .ref mo]) (fun _ => rfl) 0 0 ⟨rfl, rfl⟩ (fun u41 hu41 => ?_)
      refine k_callV C (y := yX7_leftBy) [.int (iI v38), .int (iI u41)] 2 rfl (c_X7_leftBy (x_l X) (x_G X) mo s sv tx fa ea go qu u24.1 ty u15.2 un om v38 u41 n (sp k) n k m u29 (hn) (by rw [hu41]; exact y1) (by omega) (Nat.le_refl _) (mn2) (hu29)) gX7_strike_X7_leftBy rfl ⟨rfl, by decide +kernel, by decide +kernel, by decide +kernel⟩ ⟨by decide, by decide⟩ 0 (fs := [.ref s, .int (iI u24.1), .ref sv, .ref tx, .int (iI ty), .int (iI u15.2), .ref fa, .ref ea, .ref go, .ref qu, .int (iI un), .int (iI om)]) rfl rfl rfl [0, 4] (by decide) (wc := [(mo, .inr (6, [.ref s, .int (iI u24.1), .ref sv, .ref tx, .int (iI ty), .int (iI u15.2), .ref fa, .ref ea, .ref go, .ref qu, .int (iI un), .int (iI om)])), (go, .inl (g_Z (x_G X), 100000, .inl (aI u29)))]) rfl [] rfl (Nat.le_of_ble_eq_true rfl) ⟨Nat.le_of_ble_eq_true rfl, Nat.le_of_ble_eq_true rfl⟩ dX7_strike_44 (fun _ => [(mo, .inr (6, [.ref s, .int (iI u24.1), .ref sv, .ref tx, .int (iI ty), .int (iI u15.2), .ref fa, .ref ea, .ref go, .ref qu, .int (iI un), .int (iI om)])), (s, .inl (g_I (x_G X), 756, .inl (aI u24.2))), (sv, .inl (g_Z (x_G X), 2, .inl (aI fv))), (ea, .inl (g_I (x_G X), 40, .inl (aI fe))), (go, .inl (g_Z (x_G X), 100000, .inl (aI u29)))]) (Or.inl (fun _ => ⟨rfl, rfl⟩)) (fun u44 => [.int (iI u44)]) (fun _ => rfl) 0 0 ⟨rfl, rfl⟩ (fun u44 hu44 => ?_)
      have hcs := cA_strike (m := m) (k := k) (v := n) y2 m4.2.2.2
      rw [mP_cA mk rfl] at hu44
      refine k_istore_n C (lo' := [(1, .int (iI u44)), (0, .ref mo)]) dX7_strike_47 rfl (by decide) rfl ?_
      refine k_aload_n C 1 rfl dX7_strike_48 rfl ?_
      refine k_iconst C dX7_strike_49 ?_
      refine k_iconst C dX7_strike_50 ?_
      refine k_callV C (y := yX7_comes) [.int (iI 0), .int (iI 1)] 2 rfl (c_X7_comes (x_l X) (x_G X) mo s sv tx fa ea go qu u24.1 ty u15.2 un om 0 1 0 n k m u24.2 (rfl) (by decide) (hI2.2.1) (y2) (Or.inr rfl)) gX7_strike_X7_comes rfl ⟨rfl, by decide +kernel, by decide +kernel, by decide +kernel⟩ ⟨by decide, by decide⟩ 0 (fs := [.ref s, .int (iI u24.1), .ref sv, .ref tx, .int (iI ty), .int (iI u15.2), .ref fa, .ref ea, .ref go, .ref qu, .int (iI un), .int (iI om)]) rfl rfl rfl [0, 1] (by decide) (wc := [(mo, .inr (6, [.ref s, .int (iI u24.1), .ref sv, .ref tx, .int (iI ty), .int (iI u15.2), .ref fa, .ref ea, .ref go, .ref qu, .int (iI un), .int (iI om)])), (s, .inl (g_I (x_G X), 756, .inl (aI u24.2)))]) rfl [] rfl (Nat.le_of_ble_eq_true rfl) ⟨Nat.le_of_ble_eq_true rfl, Nat.le_of_ble_eq_true rfl⟩ dX7_strike_51 (fun u51 => [(mo, .inr (6, [.ref s, .int (iI u24.1), .ref sv, .ref tx, .int (iI ty), .int (iI u15.2), .ref fa, .ref ea, .ref go, .ref qu, .int (iI un), .int (iI om)])), (s, .inl (g_I (x_G X), 756, .inl (aI u51))), (sv, .inl (g_Z (x_G X), 2, .inl (aI fv))), (ea, .inl (g_I (x_G X), 40, .inl (aI fe))), (go, .inl (g_Z (x_G X), 100000, .inl (aI u29)))]) (Or.inr ⟨[2, 3, 4], [3, 4, 0, 1, 2], [(sv, .inl (g_Z (x_G X), 2, .inl (aI fv))), (ea, .inl (g_I (x_G X), 40, .inl (aI fe))), (go, .inl (g_Z (x_G X), 100000, .inl (aI u29)))], rfl, by decide, by decide, by decide, fun _ => rfl⟩) (fun u51 => []) (fun _ => rfl) 0 0 ⟨rfl, rfl⟩ (fun u51 hu51 => ?_)
      rw [if_neg (by decide)] at hu51
      refine k_iload_n C 0 rfl dX7_strike_54 rfl ?_
      exact k_iret C hR (u := (u44, u15.2, u24.1, u51, u29)) rfl (by (try dsimp only) <;> exact (Or.inl ⟨hnn, by omega, by omega, MI_0 hI2 hu51.2 hu51.1⟩)) rfl (Nat.le_of_ble_eq_true rfl) (Nat.le_of_ble_eq_true rfl) dX7_strike_55
    · exfalso; omega
theorem in_X7_spare_X7 : ∀ w ∈ wsX70, w ∈ wsX7_spare := by decide +kernel
set_option maxHeartbeats 4000000 in
set_option maxRecDepth 100000 in
theorem c_X7_spare (l : Launch) (G : KG) (mo s sv tx fa ea go qu : Nat) (st ty th un om : Int) (R : List (Nat × Nat × Nat)) (sw : Nat → Option (Nat × Nat × Nat)) (n k m : Nat) (fs fv fe : Nat → Int) (hI : MI R sw n k m st fs fv) (hE : ∀ i : Nat, i < 40 → fe i = (sp i : Int)) : Ct l G yX7_spare wsX7_spare (rmD 2 0 0) [.ref mo] [(mo, .inr (6, [.ref s, .int (iI st), .ref sv, .ref tx, .int (iI ty), .int (iI th), .ref fa, .ref ea, .ref go, .ref qu, .int (iI un), .int (iI om)])), (s, .inl (g_I G, 756, .inl (aI fs))), (sv, .inl (g_Z G, 2, .inl (aI fv))), (ea, .inl (g_I G, 40, .inl (aI fe)))] (fun u : Int × Int × Int × (Nat → Int) => (¬ nxI n k = -1 ∧ u.1 = nxI n k ∧ u.2.1 = 0 ∧ MI (((n, k, m) :: R).take 14) sw n (k + 1) m u.2.2.1 u.2.2.2 fv) ∨ (nxI n k = -1 ∧ u.2.1 = 1 ∧ MI R sw n k m u.2.2.1 u.2.2.2 fv)) (fun u : Int × Int × Int × (Nat → Int) => some (.int (iI u.1))) (fun u : Int × Int × Int × (Nat → Int) => [(mo, .inr (6, [.ref s, .int (iI u.2.2.1), .ref sv, .ref tx, .int (iI ty), .int (iI u.2.1), .ref fa, .ref ea, .ref go, .ref qu, .int (iI un), .int (iI om)])), (s, .inl (g_I G, 756, .inl (aI u.2.2.2))), (sv, .inl (g_Z G, 2, .inl (aI fv))), (ea, .inl (g_I G, 40, .inl (aI fe)))]) := by
  refine Ct.of (cc := cX7_spare) (maxL := 1) (ret := (some .int)) (by decide +kernel) rfl (Nat.le_of_ble_eq_true rfl) ?_
  intro X C hG hL hnm hR
  subst hG
  subst hL
  have C : Cx X cX7_spare RX7 wsX7_spare (some .int) 1 (rmD 2 0 0) := C
  obtain ⟨m1, m2, m3, m4⟩ := id hI.2.1
  have mk : k ≤ 40 := m4.2.2.1
  have mn1 : 1 ≤ n := m4.1
  have mn2 : n ≤ 99999 := m4.2.1
  have hrn := nxI_or n k
  show K_ X 0 0 [(mo, .inr (6, [.ref s, .int (iI st), .ref sv, .ref tx, .int (iI ty), .int (iI th), .ref fa, .ref ea, .ref go, .ref qu, .int (iI un), .int (iI om)])), (s, .inl (g_I (x_G X), 756, .inl (aI fs))), (sv, .inl (g_Z (x_G X), 2, .inl (aI fv))), (ea, .inl (g_I (x_G X), 40, .inl (aI fe)))] 0 [(0, .ref mo)] []
  refine k_aload_n C 0 rfl dX7_spare_0 rfl ?_
  refine k_aload_n C 0 rfl dX7_spare_1 rfl ?_
  refine k_iconst C dX7_spare_2 ?_
  refine k_callV C (y := yX7_next) [.int (iI 0)] 1 rfl (c_X7_next (x_l X) (x_G X) mo s sv tx fa ea go qu st ty th un om 0 0 n k m fs fe (rfl) (by decide) (hI.2.1) (by assumption)) gX7_spare_X7_next rfl ⟨rfl, by decide +kernel, by decide +kernel, by decide +kernel⟩ ⟨by decide, by decide⟩ 0 (fs := [.ref s, .int (iI st), .ref sv, .ref tx, .int (iI ty), .int (iI th), .ref fa, .ref ea, .ref go, .ref qu, .int (iI un), .int (iI om)]) rfl rfl rfl [0, 1, 3] (by decide) (wc := [(mo, .inr (6, [.ref s, .int (iI st), .ref sv, .ref tx, .int (iI ty), .int (iI th), .ref fa, .ref ea, .ref go, .ref qu, .int (iI un), .int (iI om)])), (s, .inl (g_I (x_G X), 756, .inl (aI fs))), (ea, .inl (g_I (x_G X), 40, .inl (aI fe)))]) rfl [.ref mo] rfl (Nat.le_of_ble_eq_true rfl) ⟨Nat.le_of_ble_eq_true rfl, Nat.le_of_ble_eq_true rfl⟩ dX7_spare_3 (fun _ => [(mo, .inr (6, [.ref s, .int (iI st), .ref sv, .ref tx, .int (iI ty), .int (iI th), .ref fa, .ref ea, .ref go, .ref qu, .int (iI un), .int (iI om)])), (s, .inl (g_I (x_G X), 756, .inl (aI fs))), (sv, .inl (g_Z (x_G X), 2, .inl (aI fv))), (ea, .inl (g_I (x_G X), 40, .inl (aI fe)))]) (Or.inl (fun _ => ⟨rfl, rfl⟩)) (fun u3 => [.int (iI u3), .ref mo]) (fun _ => rfl) 0 0 ⟨rfl, rfl⟩ (fun u3 hu3 => ?_)
  refine k_if_le C 13 (by rw [hu3]; omega) dX7_spare_6 (by decide) (fun c6 => ?_) (fun c6 => ?_)
  · skip
    refine k_iconst C dX7_spare_13 ?_
    refine k_iconst C dX7_spare_14 ?_
    refine k_callV C (y := yX7_goes) [.int (iI 0), .int (iI 1)] 2 rfl (c_X7_goes (x_l X) (x_G X) mo s sv tx fa ea go qu st ty th un om 0 1 (by omega) (by omega)) gX7_spare_X7_goes rfl ⟨rfl, by decide +kernel, by decide +kernel, by decide +kernel⟩ ⟨by decide, by decide⟩ 0 (fs := [.ref s, .int (iI st), .ref sv, .ref tx, .int (iI ty), .int (iI th), .ref fa, .ref ea, .ref go, .ref qu, .int (iI un), .int (iI om)]) rfl rfl rfl [0] (by decide) (wc := [(mo, .inr (6, [.ref s, .int (iI st), .ref sv, .ref tx, .int (iI ty), .int (iI th), .ref fa, .ref ea, .ref go, .ref qu, .int (iI un), .int (iI om)]))]) rfl [] rfl (Nat.le_of_ble_eq_true rfl) ⟨Nat.le_of_ble_eq_true rfl, Nat.le_of_ble_eq_true rfl⟩ dX7_spare_15 (fun u15 => [(mo, .inr (6, [.ref s, .int (iI st), .ref sv, .ref tx, .int (iI ty), .int (iI u15.2), .ref fa, .ref ea, .ref go, .ref qu, .int (iI un), .int (iI om)])), (s, .inl (g_I (x_G X), 756, .inl (aI fs))), (sv, .inl (g_Z (x_G X), 2, .inl (aI fv))), (ea, .inl (g_I (x_G X), 40, .inl (aI fe)))]) (Or.inr ⟨[1, 2, 3], [3, 0, 1, 2], [(s, .inl (g_I (x_G X), 756, .inl (aI fs))), (sv, .inl (g_Z (x_G X), 2, .inl (aI fv))), (ea, .inl (g_I (x_G X), 40, .inl (aI fe)))], rfl, by decide, by decide, by decide, fun _ => rfl⟩) (fun u15 => [.int (iI u15.1)]) (fun _ => rfl) 0 0 ⟨rfl, rfl⟩ (fun u15 hu15 => ?_)
    refine k_if_ne C 23 (⟨by omega, by omega⟩) dX7_spare_18 (by decide) (fun c18 => ?_) (fun c18 => ?_)
    · exfalso; omega
    · skip
      refine k_iconst C dX7_spare_21 ?_
      exact k_iret C hR (u := (0, u15.2, st, fs)) rfl (by (try dsimp only) <;> exact (Or.inr ⟨by omega, by omega, hI⟩)) rfl (Nat.le_of_ble_eq_true rfl) (Nat.le_of_ble_eq_true rfl) dX7_spare_22
  · skip
    refine k_iconst C dX7_spare_9 ?_
    refine k_goto C 14 dX7_spare_10 (by decide) ?_
    refine k_iconst C dX7_spare_14 ?_
    refine k_callV C (y := yX7_goes) [.int (iI 1), .int (iI 1)] 2 rfl (c_X7_goes (x_l X) (x_G X) mo s sv tx fa ea go qu st ty th un om 1 1 (by omega) (by omega)) gX7_spare_X7_goes rfl ⟨rfl, by decide +kernel, by decide +kernel, by decide +kernel⟩ ⟨by decide, by decide⟩ 0 (fs := [.ref s, .int (iI st), .ref sv, .ref tx, .int (iI ty), .int (iI th), .ref fa, .ref ea, .ref go, .ref qu, .int (iI un), .int (iI om)]) rfl rfl rfl [0] (by decide) (wc := [(mo, .inr (6, [.ref s, .int (iI st), .ref sv, .ref tx, .int (iI ty), .int (iI th), .ref fa, .ref ea, .ref go, .ref qu, .int (iI un), .int (iI om)]))]) rfl [] rfl (Nat.le_of_ble_eq_true rfl) ⟨Nat.le_of_ble_eq_true rfl, Nat.le_of_ble_eq_true rfl⟩ dX7_spare_15 (fun u15 => [(mo, .inr (6, [.ref s, .int (iI st), .ref sv, .ref tx, .int (iI ty), .int (iI u15.2), .ref fa, .ref ea, .ref go, .ref qu, .int (iI un), .int (iI om)])), (s, .inl (g_I (x_G X), 756, .inl (aI fs))), (sv, .inl (g_Z (x_G X), 2, .inl (aI fv))), (ea, .inl (g_I (x_G X), 40, .inl (aI fe)))]) (Or.inr ⟨[1, 2, 3], [3, 0, 1, 2], [(s, .inl (g_I (x_G X), 756, .inl (aI fs))), (sv, .inl (g_Z (x_G X), 2, .inl (aI fv))), (ea, .inl (g_I (x_G X), 40, .inl (aI fe)))], rfl, by decide, by decide, by decide, fun _ => rfl⟩) (fun u15 => [.int (iI u15.1)]) (fun _ => rfl) 0 0 ⟨rfl, rfl⟩ (fun u15 hu15 => ?_)
    refine k_if_ne C 23 (⟨by omega, by omega⟩) dX7_spare_18 (by decide) (fun c18 => ?_) (fun c18 => ?_)
    · skip
      refine k_aload_n C 0 rfl dX7_spare_23 rfl ?_
      refine k_callV C (y := yX7_remembers) [] 0 rfl (c_X7_remembers (x_l X) (x_G X) mo s sv tx fa ea go qu st ty u15.2 un om R n k m fs (hI.1) (hI.2.1)) gX7_spare_X7_remembers rfl ⟨rfl, by decide +kernel, by decide +kernel, by decide +kernel⟩ ⟨by decide, by decide⟩ 0 (fs := [.ref s, .int (iI st), .ref sv, .ref tx, .int (iI ty), .int (iI u15.2), .ref fa, .ref ea, .ref go, .ref qu, .int (iI un), .int (iI om)]) rfl rfl rfl [0, 1] (by decide) (wc := [(mo, .inr (6, [.ref s, .int (iI st), .ref sv, .ref tx, .int (iI ty), .int (iI u15.2), .ref fa, .ref ea, .ref go, .ref qu, .int (iI un), .int (iI om)])), (s, .inl (g_I (x_G X), 756, .inl (aI fs)))]) rfl [] rfl (Nat.le_of_ble_eq_true rfl) ⟨Nat.le_of_ble_eq_true rfl, Nat.le_of_ble_eq_true rfl⟩ dX7_spare_24 (fun u24 => [(mo, .inr (6, [.ref s, .int (iI u24.1), .ref sv, .ref tx, .int (iI ty), .int (iI u15.2), .ref fa, .ref ea, .ref go, .ref qu, .int (iI un), .int (iI om)])), (s, .inl (g_I (x_G X), 756, .inl (aI u24.2))), (sv, .inl (g_Z (x_G X), 2, .inl (aI fv))), (ea, .inl (g_I (x_G X), 40, .inl (aI fe)))]) (Or.inr ⟨[2, 3], [2, 3, 0, 1], [(sv, .inl (g_Z (x_G X), 2, .inl (aI fv))), (ea, .inl (g_I (x_G X), 40, .inl (aI fe)))], rfl, by decide, by decide, by decide, fun _ => rfl⟩) (fun u24 => []) (fun _ => rfl) 0 0 ⟨rfl, rfl⟩ (fun u24 hu24 => ?_)
      have hI2 := MI_rem hI hu24
      have hnn : ¬ nxI n k = -1 := by omega
      obtain ⟨y2, y3, y1⟩ := nxI_some hnn
      refine k_aload_n C 0 rfl dX7_spare_27 rfl ?_
      refine k_iconst C dX7_spare_28 ?_
      refine k_iconst C dX7_spare_29 ?_
      refine k_callV C (y := yX7_comes) [.int (iI 0), .int (iI 0)] 2 rfl (c_X7_comes (x_l X) (x_G X) mo s sv tx fa ea go qu u24.1 ty u15.2 un om 0 0 0 n k m u24.2 (rfl) (by decide) (hI2.2.1) (y2) (Or.inl rfl)) gX7_spare_X7_comes rfl ⟨rfl, by decide +kernel, by decide +kernel, by decide +kernel⟩ ⟨by decide, by decide⟩ 0 (fs := [.ref s, .int (iI u24.1), .ref sv, .ref tx, .int (iI ty), .int (iI u15.2), .ref fa, .ref ea, .ref go, .ref qu, .int (iI un), .int (iI om)]) rfl rfl rfl [0, 1] (by decide) (wc := [(mo, .inr (6, [.ref s, .int (iI u24.1), .ref sv, .ref tx, .int (iI ty), .int (iI u15.2), .ref fa, .ref ea, .ref go, .ref qu, .int (iI un), .int (iI om)])), (s, .inl (g_I (x_G X), 756, .inl (aI u24.2)))]) rfl [] rfl (Nat.le_of_ble_eq_true rfl) ⟨Nat.le_of_ble_eq_true rfl, Nat.le_of_ble_eq_true rfl⟩ dX7_spare_30 (fun u30 => [(mo, .inr (6, [.ref s, .int (iI u24.1), .ref sv, .ref tx, .int (iI ty), .int (iI u15.2), .ref fa, .ref ea, .ref go, .ref qu, .int (iI un), .int (iI om)])), (s, .inl (g_I (x_G X), 756, .inl (aI u30))), (sv, .inl (g_Z (x_G X), 2, .inl (aI fv))), (ea, .inl (g_I (x_G X), 40, .inl (aI fe)))]) (Or.inr ⟨[2, 3], [2, 3, 0, 1], [(sv, .inl (g_Z (x_G X), 2, .inl (aI fv))), (ea, .inl (g_I (x_G X), 40, .inl (aI fe)))], rfl, by decide, by decide, by decide, fun _ => rfl⟩) (fun u30 => []) (fun _ => rfl) 0 0 ⟨rfl, rfl⟩ (fun u30 hu30 => ?_)
      rw [if_pos rfl] at hu30
      refine k_aload_n C 0 rfl dX7_spare_33 rfl ?_
      refine k_get C (Cn := RX7) (T := TX7) (N := 12) (ci := 6) (ref := "StruckCountsModel") in_X7_spare_X7 0 rfl rfl 7 (by decide) 1 rfl rfl (v := .ref ea) rfl dX7_spare_34 ?_
      refine k_aload_n C 0 rfl dX7_spare_37 rfl ?_
      refine k_get C (Cn := RX7) (T := TX7) (N := 12) (ci := 6) (ref := "StruckCountsModel") in_X7_spare_X7 0 rfl rfl 0 (by decide) 2 rfl rfl (v := .ref s) rfl dX7_spare_38 ?_
      refine k_iconst C dX7_spare_41 ?_
      refine k_iald C (f := u30) 1 rfl (⟨by omega, by omega⟩) (by decide) dX7_spare_42 ?_
      refine k_nmI (fun v42 e42 => ?_)
      have h42 : v42 = ((k + 1 : Nat) : Int) := by rw [e42]; exact hu30.1.2.1
      refine k_iconst C dX7_spare_43 ?_
      refine k_isub C dX7_spare_44 ?_
      refine k_nmI (fun v44 e44 => ?_)
      refine k_iald C (f := fe) 3 rfl (⟨by omega, by omega⟩) (by decide) dX7_spare_45 ?_
      refine k_nmI (fun v45 e45 => ?_)
      have h45 : v45 = (sp k : Int) := by rw [e45, show v44.toNat = k by omega]; exact hE k y2
      exact k_iret C hR (u := (v45, u15.2, u24.1, u30)) rfl (by (try dsimp only) <;> exact (Or.inl ⟨hnn, by omega, by omega, MI_0 hI2 hu30.2 hu30.1⟩)) rfl (Nat.le_of_ble_eq_true rfl) (Nat.le_of_ble_eq_true rfl) dX7_spare_46
    · exfalso; omega
set_option maxHeartbeats 4000000 in
set_option maxRecDepth 100000 in
theorem c_X7_strikeTo (l : Launch) (G : KG) (mo s sv tx fa ea go qu : Nat) (st ty th un om : Int) (R : List (Nat × Nat × Nat)) (sw : Nat → Option (Nat × Nat × Nat)) (n k m : Nat) (x : Int) (fs fv fe : Nat → Int) (hI : MI R sw n k m st fs fv) (hE : ∀ i : Nat, i < 40 → fe i = (sp i : Int)) (hx : -2147483648 ≤ x ∧ x < 2147483648) : Ct l G yX7_strikeTo wsX7_strikeTo (rmD 2 0 0) [.ref mo, .int (iI x)] [(mo, .inr (6, [.ref s, .int (iI st), .ref sv, .ref tx, .int (iI ty), .int (iI th), .ref fa, .ref ea, .ref go, .ref qu, .int (iI un), .int (iI om)])), (s, .inl (g_I G, 756, .inl (aI fs))), (sv, .inl (g_Z G, 2, .inl (aI fv))), (ea, .inl (g_I G, 40, .inl (aI fe)))] (fun u : Int × Int × Int × (Nat → Int) => ((0 ≤ x ∧ x ≤ 99999) ∧ u.1 = (sj n x k : Int) ∧ u.2.1 = 0 ∧ MI (((n, k, m) :: R).take 14) sw n (k + sj n x k) (msk m k (sj n x k)) u.2.2.1 u.2.2.2 fv) ∨ (¬ (0 ≤ x ∧ x ≤ 99999) ∧ u.2.1 = 1 ∧ MI R sw n k m u.2.2.1 u.2.2.2 fv)) (fun u : Int × Int × Int × (Nat → Int) => some (.int (iI u.1))) (fun u : Int × Int × Int × (Nat → Int) => [(mo, .inr (6, [.ref s, .int (iI u.2.2.1), .ref sv, .ref tx, .int (iI ty), .int (iI u.2.1), .ref fa, .ref ea, .ref go, .ref qu, .int (iI un), .int (iI om)])), (s, .inl (g_I G, 756, .inl (aI u.2.2.2))), (sv, .inl (g_Z G, 2, .inl (aI fv))), (ea, .inl (g_I G, 40, .inl (aI fe)))]) := by
  refine Ct.of (cc := cX7_strikeTo) (maxL := 2) (ret := (some .int)) (by decide +kernel) rfl (Nat.le_of_ble_eq_true rfl) ?_
  intro X C hG hL hnm hR
  subst hG
  subst hL
  have C : Cx X cX7_strikeTo RX7 wsX7_strikeTo (some .int) 2 (rmD 2 0 0) := C
  obtain ⟨m1, m2, m3, m4⟩ := id hI.2.1
  have mk : k ≤ 40 := m4.2.2.1
  have mn1 : 1 ≤ n := m4.1
  have mn2 : n ≤ 99999 := m4.2.1
  show K_ X 0 0 [(mo, .inr (6, [.ref s, .int (iI st), .ref sv, .ref tx, .int (iI ty), .int (iI th), .ref fa, .ref ea, .ref go, .ref qu, .int (iI un), .int (iI om)])), (s, .inl (g_I (x_G X), 756, .inl (aI fs))), (sv, .inl (g_Z (x_G X), 2, .inl (aI fv))), (ea, .inl (g_I (x_G X), 40, .inl (aI fe)))] 0 [(0, .ref mo), (1, .int (iI x))] []
  refine k_aload_n C 0 rfl dX7_strikeTo_0 rfl ?_
  refine k_iload_n C 1 rfl dX7_strikeTo_1 rfl ?_
  refine k_iconst C dX7_strikeTo_2 ?_
  refine k_ldc C 99999 1 rfl (by decide) dX7_strikeTo_3 ?_
  refine k_callS C (y := yX7_in) [.int (iI x), .int (iI 0), .int (iI 99999)] 3 rfl (c_X7_in (x_l X) (x_G X) x 0 99999 (by omega) (by omega) (by omega)) gX7_strikeTo_X7_in rfl ⟨by decide +kernel, by decide +kernel, by decide +kernel⟩ ⟨by decide, by decide⟩ [] (by decide) (wc := []) rfl [.ref mo] rfl (Nat.le_of_ble_eq_true rfl) ⟨Nat.le_of_ble_eq_true rfl, Nat.le_of_ble_eq_true rfl⟩ dX7_strikeTo_5 (fun _ => [(mo, .inr (6, [.ref s, .int (iI st), .ref sv, .ref tx, .int (iI ty), .int (iI th), .ref fa, .ref ea, .ref go, .ref qu, .int (iI un), .int (iI om)])), (s, .inl (g_I (x_G X), 756, .inl (aI fs))), (sv, .inl (g_Z (x_G X), 2, .inl (aI fv))), (ea, .inl (g_I (x_G X), 40, .inl (aI fe)))]) (Or.inl (fun _ => ⟨rfl, rfl⟩)) (fun u5 => [.int (iI u5), .ref mo]) (fun _ => rfl) 0 0 ⟨rfl, rfl⟩ (fun u5 hu5 => ?_)
  refine k_iconst C dX7_strikeTo_8 ?_
  refine k_callV C (y := yX7_goes) [.int (iI u5), .int (iI 1)] 2 rfl (c_X7_goes (x_l X) (x_G X) mo s sv tx fa ea go qu st ty th un om u5 1 (by omega) (by omega)) gX7_strikeTo_X7_goes rfl ⟨rfl, by decide +kernel, by decide +kernel, by decide +kernel⟩ ⟨by decide, by decide⟩ 0 (fs := [.ref s, .int (iI st), .ref sv, .ref tx, .int (iI ty), .int (iI th), .ref fa, .ref ea, .ref go, .ref qu, .int (iI un), .int (iI om)]) rfl rfl rfl [0] (by decide) (wc := [(mo, .inr (6, [.ref s, .int (iI st), .ref sv, .ref tx, .int (iI ty), .int (iI th), .ref fa, .ref ea, .ref go, .ref qu, .int (iI un), .int (iI om)]))]) rfl [] rfl (Nat.le_of_ble_eq_true rfl) ⟨Nat.le_of_ble_eq_true rfl, Nat.le_of_ble_eq_true rfl⟩ dX7_strikeTo_9 (fun u9 => [(mo, .inr (6, [.ref s, .int (iI st), .ref sv, .ref tx, .int (iI ty), .int (iI u9.2), .ref fa, .ref ea, .ref go, .ref qu, .int (iI un), .int (iI om)])), (s, .inl (g_I (x_G X), 756, .inl (aI fs))), (sv, .inl (g_Z (x_G X), 2, .inl (aI fv))), (ea, .inl (g_I (x_G X), 40, .inl (aI fe)))]) (Or.inr ⟨[1, 2, 3], [3, 0, 1, 2], [(s, .inl (g_I (x_G X), 756, .inl (aI fs))), (sv, .inl (g_Z (x_G X), 2, .inl (aI fv))), (ea, .inl (g_I (x_G X), 40, .inl (aI fe)))], rfl, by decide, by decide, by decide, fun _ => rfl⟩) (fun u9 => [.int (iI u9.1)]) (fun _ => rfl) 0 0 ⟨rfl, rfl⟩ (fun u9 hu9 => ?_)
  refine k_if_ne C 17 (⟨by omega, by omega⟩) dX7_strikeTo_12 (by decide) (fun c12 => ?_) (fun c12 => ?_)
  · skip
    refine k_aload_n C 0 rfl dX7_strikeTo_17 rfl ?_
    refine k_callV C (y := yX7_remembers) [] 0 rfl (c_X7_remembers (x_l X) (x_G X) mo s sv tx fa ea go qu st ty u9.2 un om R n k m fs (hI.1) (hI.2.1)) gX7_strikeTo_X7_remembers rfl ⟨rfl, by decide +kernel, by decide +kernel, by decide +kernel⟩ ⟨by decide, by decide⟩ 0 (fs := [.ref s, .int (iI st), .ref sv, .ref tx, .int (iI ty), .int (iI u9.2), .ref fa, .ref ea, .ref go, .ref qu, .int (iI un), .int (iI om)]) rfl rfl rfl [0, 1] (by decide) (wc := [(mo, .inr (6, [.ref s, .int (iI st), .ref sv, .ref tx, .int (iI ty), .int (iI u9.2), .ref fa, .ref ea, .ref go, .ref qu, .int (iI un), .int (iI om)])), (s, .inl (g_I (x_G X), 756, .inl (aI fs)))]) rfl [] rfl (Nat.le_of_ble_eq_true rfl) ⟨Nat.le_of_ble_eq_true rfl, Nat.le_of_ble_eq_true rfl⟩ dX7_strikeTo_18 (fun u18 => [(mo, .inr (6, [.ref s, .int (iI u18.1), .ref sv, .ref tx, .int (iI ty), .int (iI u9.2), .ref fa, .ref ea, .ref go, .ref qu, .int (iI un), .int (iI om)])), (s, .inl (g_I (x_G X), 756, .inl (aI u18.2))), (sv, .inl (g_Z (x_G X), 2, .inl (aI fv))), (ea, .inl (g_I (x_G X), 40, .inl (aI fe)))]) (Or.inr ⟨[2, 3], [2, 3, 0, 1], [(sv, .inl (g_Z (x_G X), 2, .inl (aI fv))), (ea, .inl (g_I (x_G X), 40, .inl (aI fe)))], rfl, by decide, by decide, by decide, fun _ => rfl⟩) (fun u18 => []) (fun _ => rfl) 0 0 ⟨rfl, rfl⟩ (fun u18 hu18 => ?_)
    have hI2 := MI_rem hI hu18
    refine k_aload_n C 0 rfl dX7_strikeTo_21 rfl ?_
    refine k_iconst C dX7_strikeTo_22 ?_
    refine k_iload_n C 1 rfl dX7_strikeTo_23 rfl ?_
    refine k_callV C (y := yX7_strikesTo) [.int (iI 0), .int (iI x)] 2 rfl (c_X7_strikesTo (x_l X) (x_G X) mo s sv tx fa ea go qu u18.1 ty u9.2 un om 0 x 0 n k m u18.2 fe (rfl) (by decide) (hI2.2.1) (by first | assumption | omega) (by first | assumption | omega)) gX7_strikeTo_X7_strikesTo rfl ⟨rfl, by decide +kernel, by decide +kernel, by decide +kernel⟩ ⟨by decide, by decide⟩ 0 (fs := [.ref s, .int (iI u18.1), .ref sv, .ref tx, .int (iI ty), .int (iI u9.2), .ref fa, .ref ea, .ref go, .ref qu, .int (iI un), .int (iI om)]) rfl rfl rfl [0, 1, 3] (by decide) (wc := [(mo, .inr (6, [.ref s, .int (iI u18.1), .ref sv, .ref tx, .int (iI ty), .int (iI u9.2), .ref fa, .ref ea, .ref go, .ref qu, .int (iI un), .int (iI om)])), (s, .inl (g_I (x_G X), 756, .inl (aI u18.2))), (ea, .inl (g_I (x_G X), 40, .inl (aI fe)))]) rfl [] rfl (Nat.le_of_ble_eq_true rfl) ⟨Nat.le_of_ble_eq_true rfl, Nat.le_of_ble_eq_true rfl⟩ dX7_strikeTo_24 (fun u24 => [(mo, .inr (6, [.ref s, .int (iI u18.1), .ref sv, .ref tx, .int (iI ty), .int (iI u9.2), .ref fa, .ref ea, .ref go, .ref qu, .int (iI un), .int (iI om)])), (s, .inl (g_I (x_G X), 756, .inl (aI u24.2))), (sv, .inl (g_Z (x_G X), 2, .inl (aI fv))), (ea, .inl (g_I (x_G X), 40, .inl (aI fe)))]) (Or.inr ⟨[2], [1, 2, 0, 3], [(sv, .inl (g_Z (x_G X), 2, .inl (aI fv)))], rfl, by decide, by decide, by decide, fun _ => rfl⟩) (fun u24 => [.int (iI u24.1)]) (fun _ => rfl) 0 0 ⟨rfl, rfl⟩ (fun u24 hu24 => ?_)
    exact k_iret C hR (u := (u24.1, u9.2, u18.1, u24.2)) rfl (by (try dsimp only) <;> exact (Or.inl ⟨by omega, hu24.1, by omega, MI_0 hI2 hu24.2.2 hu24.2.1⟩)) rfl (Nat.le_of_ble_eq_true rfl) (Nat.le_of_ble_eq_true rfl) dX7_strikeTo_27
  · skip
    refine k_iconst C dX7_strikeTo_15 ?_
    exact k_iret C hR (u := (0, u9.2, st, fs)) rfl (by (try dsimp only) <;> exact (Or.inr ⟨by omega, by omega, hI⟩)) rfl (Nat.le_of_ble_eq_true rfl) (Nat.le_of_ble_eq_true rfl) dX7_strikeTo_16
