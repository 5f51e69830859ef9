theorem dvr_bd {n q : Nat} (hn : 1 ≤ n) (h : q ≤ SZ n) : dvr n q ≤ n + 1 := by
  rcases q with _ | p
  · rw [dvr_0]; omega
  · rw [← dvr_s hn (show p < SZ n by omega)]
    have := Nat.div_le_self n (qv n p)
    omega
def QuI (n : Nat) (N : Nat) (fq : Nat → Int) : Prop := ∀ q, q < N → fq q = (qv n q : Int)
def PlI (n : Nat) (v : Int) (i : Nat) (r : Int) : Prop := (r = -1 ∧ ∀ q, q < i → ¬ (qv n q : Int) = v) ∨ ∃ q, q < i ∧ r = (q : Int) ∧ (qv n q : Int) = v
theorem PlI_end {n : Nat} {v r : Int} (hn : 1 ≤ n) (h : PlI n v (SZ n) r) : r = pI n v := by
  rcases h with ⟨h1, h2⟩ | ⟨q, h1, h2, h3⟩
  · by_cases hv : v < 1
    · rw [pI_lo hv, h1]
    · rw [show v = (v.toNat : Int) by omega, pI_nat n v.toNat (by omega)]
      cases e : plc n v.toNat with
      | none => exact h1
      | some q =>
        obtain ⟨z1, z2⟩ := plc_some hn e
        exact absurd (by omega) (h2 q z1)
  · have hq := qv_pos hn h1
    rw [← h3, pI_nat n _ hq.1, plc_qv hn h1]
    exact h2
theorem PlI_go {n i : Nat} {v r r2 x : Int} (hn : 1 ≤ n) (hi : i < SZ n) (h : PlI n v i r) (hx : x = (qv n i : Int)) (h2 : (x = v ∧ r2 = (i : Int)) ∨ (¬ x = v ∧ r2 = r)) : PlI n v (i + 1) r2 := by
  rcases h2 with ⟨a, b⟩ | ⟨a, b⟩
  · exact Or.inr ⟨i, by omega, b, by rw [← hx]; exact a⟩
  · rw [b]
    rcases h with ⟨h1, h3⟩ | ⟨q, h1, h3, h4⟩
    · refine Or.inl ⟨h1, fun q hq => ?_⟩
      by_cases e : q < i
      · exact h3 q e
      · rw [show q = i by omega, ← hx]; exact a
    · exact Or.inr ⟨q, by omega, h3, h4⟩

theorem in_X7_divides_X7 : ∀ w ∈ wsX70, w ∈ wsX7_divides := by decide +kernel
set_option maxHeartbeats 4000000 in
set_option maxRecDepth 100000 in
theorem c_X7_divides (l : Launch) (G : KG) (mo s sv tx fa ea go qu : Nat) (st ty th un om : Int) (j : Int) (J : Nat) (n k m : Nat) (fs fq : Nat → Int) (hj : j = (J : Int)) (hJ : J < 18) (hM : MS fs J n k m) : Ct l G yX7_divides wsX7_divides (rmD 0 0 0) [.ref mo, .int (iI j)] [(mo, .inr (6, [.ref s, .int (iI st), .ref sv, .ref tx, .int (iI ty), .int (iI th), .ref fa, .ref ea, .ref go, .ref qu, .int (iI un), .int (iI om)])), (s, .inl (g_I G, 756, .inl (aI fs))), (qu, .inl (g_I G, 700, .inl (aI fq)))] (fun u : Nat → Int => QuI n (SZ n) u) (fun u : Nat → Int => none) (fun u : Nat → Int => [(mo, .inr (6, [.ref s, .int (iI st), .ref sv, .ref tx, .int (iI ty), .int (iI th), .ref fa, .ref ea, .ref go, .ref qu, .int (iI ((SZ n : Nat) : Int)), .int (iI om)])), (s, .inl (g_I G, 756, .inl (aI fs))), (qu, .inl (g_I G, 700, .inl (aI u)))]) := by
  refine Ct.of (cc := cX7_divides) (maxL := 4) (ret := none) (by decide +kernel) rfl (Nat.le_of_ble_eq_true rfl) ?_
  intro X C hG hL hnm hR
  subst hG
  subst hL
  have C : Cx X cX7_divides RX7 wsX7_divides none 4 (rmD 0 0 0) := C
  obtain ⟨m1, m2, m3, m4⟩ := id hM
  have mk : k ≤ 40 := m4.2.2.1
  have mn1 : 1 ≤ n := m4.1
  have mn2 : n ≤ 99999 := m4.2.1
  have hz2 := SZ_631 mn2
  have hz1 := SZ_pos mn1
  show K_ X 0 0 [(mo, .inr (6, [.ref s, .int (iI st), .ref sv, .ref tx, .int (iI ty), .int (iI th), .ref fa, .ref ea, .ref go, .ref qu, .int (iI un), .int (iI om)])), (s, .inl (g_I (x_G X), 756, .inl (aI fs))), (qu, .inl (g_I (x_G X), 700, .inl (aI fq)))] 0 [(0, .ref mo), (1, .int (iI j))] []
  refine k_aload_n C 0 rfl dX7_divides_0 rfl ?_
  refine k_get C (Cn := RX7) (T := TX7) (N := 12) (ci := 6) (ref := "StruckCountsModel") in_X7_divides_X7 0 rfl rfl 0 (by decide) 1 rfl rfl (v := .ref s) rfl dX7_divides_1 ?_
  refine k_bipush C dX7_divides_4 (by decide) ?_
  refine k_iload_n C 1 rfl dX7_divides_6 rfl ?_
  refine k_imul C dX7_divides_7 ?_
  refine k_nmI (fun v7 e7 => ?_)
  refine k_iald C (f := fs) 1 rfl (⟨by omega, by omega⟩) (by decide) dX7_divides_8 ?_
  refine k_nmI (fun v8 e8 => ?_)
  have hn : v8 = (n : Int) := by rw [e8, show v7.toNat = 42 * J by omega]; exact m1
  refine k_istore_n C (lo' := [(2, .int (iI v8)), (0, .ref mo), (1, .int (iI j))]) dX7_divides_9 rfl (by decide) rfl ?_
  refine k_aload_n C 1 rfl dX7_divides_10 rfl ?_
  refine k_iconst C dX7_divides_11 ?_
  refine k_put C (Cn := RX7) (T := TX7) (N := 12) (ci := 6) (ref := "StruckCountsModel") in_X7_divides_X7 tyX7 tyX7_ok nmX7 0 rfl rfl 10 (by decide) 2 rfl rfl rfl (v := .int (iI 0)) (rfl) (rfl) (Nat.le_of_ble_eq_true rfl) [(mo, .inr (6, [.ref s, .int (iI st), .ref sv, .ref tx, .int (iI ty), .int (iI th), .ref fa, .ref ea, .ref go, .ref qu, .int (iI 0), .int (iI om)])), (s, .inl (g_I (x_G X), 756, .inl (aI fs))), (qu, .inl (g_I (x_G X), 700, .inl (aI fq)))] rfl dX7_divides_12 ?_
  refine k_iconst C dX7_divides_15 ?_
  refine k_istore_n C (lo' := [(3, .int (iI 1)), (2, .int (iI v8)), (0, .ref mo), (1, .int (iI j))]) dX7_divides_16 rfl (by decide) rfl ?_
  have L17 : ∀ (nf : Nat) (q : Nat) (ux : Int) (i : Int) (g1 : Nat → Int), (ux = (q : Int) ∧ q ≤ SZ n ∧ i = (dvr n q : Int) ∧ QuI n q g1) → SZ n - q < nf → K_ X 0 0 [(mo, .inr (6, [.ref s, .int (iI st), .ref sv, .ref tx, .int (iI ty), .int (iI th), .ref fa, .ref ea, .ref go, .ref qu, .int (iI ux), .int (iI om)])), (s, .inl (g_I (x_G X), 756, .inl (aI fs))), (qu, .inl (g_I (x_G X), 700, .inl (aI g1)))] 17 [(3, .int (iI i)), (2, .int (iI v8)), (0, .ref mo), (1, .int (iI j))] [] := by
    intro nf
    induction nf with
    | zero => intro q ux i g1 hI hm; exact absurd hm (Nat.not_lt_zero _)
    | succ nf ih17 =>
      intro q ux i g1 hI17 hm17
      obtain ⟨i1, i2, i3, i4⟩ := hI17
      have hdb : dvr n q ≤ n + 1 := dvr_bd mn1 i2
      refine k_iload_n C 0 rfl dX7_divides_17 rfl ?_
      refine k_iload_n C 1 rfl dX7_divides_18 rfl ?_
      refine k_icmp_gt C 61 (⟨by omega, by omega⟩) (⟨by omega, by omega⟩) dX7_divides_19 (by decide) (fun c19 => ?_) (fun c19 => ?_)
      · skip
        have hq : q = SZ n := by rcases Nat.lt_or_ge q (SZ n) with z | z; (have := dvr_le mn1 z; omega); omega
        rw [hq] at i1 i4
        rw [show ux = ((SZ n : Nat) : Int) from i1]
        exact k_vret C hR (u := g1) rfl (i4) rfl (Nat.le_of_ble_eq_true rfl) (Nat.le_of_ble_eq_true rfl) dX7_divides_61
      · skip
        have hq : q < SZ n := by rcases Nat.lt_or_ge q (SZ n) with z | z; (exact z); exfalso; have e : q = SZ n := (by omega); have := dvr_end mn1; rw [e] at i3; omega
        have hdl := dvr_le mn1 hq
        have hdp := dvr_pos n q
        refine k_aload_n C 2 rfl dX7_divides_22 rfl ?_
        refine k_get C (Cn := RX7) (T := TX7) (N := 12) (ci := 6) (ref := "StruckCountsModel") in_X7_divides_X7 0 rfl rfl 9 (by decide) 3 rfl rfl (v := .ref qu) rfl dX7_divides_23 ?_
        refine k_aload_n C 2 rfl dX7_divides_26 rfl ?_
        refine k_get C (Cn := RX7) (T := TX7) (N := 12) (ci := 6) (ref := "StruckCountsModel") in_X7_divides_X7 0 rfl rfl 10 (by decide) 2 rfl rfl (v := .int (iI ux)) rfl dX7_divides_27 ?_
        refine k_iload_n C 1 rfl dX7_divides_30 rfl ?_
        refine k_iload_n C 0 rfl dX7_divides_31 rfl ?_
        refine k_idiv C ⟨by omega, by omega⟩ ⟨by omega, by omega⟩ dX7_divides_32 ?_
        refine k_nmI (fun v32 e32 => ?_)
        have h32 : v32 = (qv n q : Int) := by rw [e32, hn, i3, ← Int.natCast_ediv, dvr_v mn1 hq]
        have hqp := qv_pos mn1 hq
        refine k_iast C (f := g1) 2 rfl (⟨by omega, by omega⟩) (by decide) (fun gg => [(mo, .inr (6, [.ref s, .int (iI st), .ref sv, .ref tx, .int (iI ty), .int (iI th), .ref fa, .ref ea, .ref go, .ref qu, .int (iI ux), .int (iI om)])), (s, .inl (g_I (x_G X), 756, .inl (aI fs))), (qu, .inl (g_I (x_G X), 700, .inl (aI gg)))]) (fun _ => rfl) dX7_divides_33 (fun g33 e33 => ?_)
        refine k_iload_n C 1 rfl dX7_divides_34 rfl ?_
        refine k_aload_n C 2 rfl dX7_divides_35 rfl ?_
        refine k_get C (Cn := RX7) (T := TX7) (N := 12) (ci := 6) (ref := "StruckCountsModel") in_X7_divides_X7 0 rfl rfl 9 (by decide) 3 rfl rfl (v := .ref qu) rfl dX7_divides_36 ?_
        refine k_aload_n C 2 rfl dX7_divides_39 rfl ?_
        refine k_get C (Cn := RX7) (T := TX7) (N := 12) (ci := 6) (ref := "StruckCountsModel") in_X7_divides_X7 0 rfl rfl 10 (by decide) 2 rfl rfl (v := .int (iI ux)) rfl dX7_divides_40 ?_
        refine k_iald C (f := g33) 2 rfl (⟨by omega, by omega⟩) (by decide) dX7_divides_43 ?_
        refine k_nmI (fun v43 e43 => ?_)
        have h43 : v43 = (qv n q : Int) := by rw [e43, e33, i1, Int.toNat_natCast, upI_s]; exact h32
        refine k_idiv C ⟨by omega, by omega⟩ ⟨by omega, by omega⟩ dX7_divides_44 ?_
        refine k_nmI (fun v44 e44 => ?_)
        have h44 : v44 + 1 = (dvr n (q + 1) : Int) := by rw [e44, hn, h43, ← Int.natCast_ediv, ← dvr_s mn1 hq]; rfl
        refine k_iconst C dX7_divides_45 ?_
        refine k_iadd C dX7_divides_46 ?_
        refine k_nmI (fun v46 e46 => ?_)
        refine k_istore_n C (lo' := [(3, .int (iI v46)), (2, .int (iI v8)), (0, .ref mo), (1, .int (iI j))]) dX7_divides_47 rfl (by decide) rfl ?_
        refine k_aload_n C 2 rfl dX7_divides_48 rfl ?_
        refine k_dup C dX7_divides_49 rfl ?_
        refine k_get C (Cn := RX7) (T := TX7) (N := 12) (ci := 6) (ref := "StruckCountsModel") in_X7_divides_X7 0 rfl rfl 10 (by decide) 2 rfl rfl (v := .int (iI ux)) rfl dX7_divides_50 ?_
        refine k_iconst C dX7_divides_53 ?_
        refine k_iadd C dX7_divides_54 ?_
        refine k_nmI (fun v54 e54 => ?_)
        refine k_put C (Cn := RX7) (T := TX7) (N := 12) (ci := 6) (ref := "StruckCountsModel") in_X7_divides_X7 tyX7 tyX7_ok nmX7 0 rfl rfl 10 (by decide) 2 rfl rfl rfl (v := .int (iI v54)) (rfl) (rfl) (Nat.le_of_ble_eq_true rfl) [(mo, .inr (6, [.ref s, .int (iI st), .ref sv, .ref tx, .int (iI ty), .int (iI th), .ref fa, .ref ea, .ref go, .ref qu, .int (iI v54), .int (iI om)])), (s, .inl (g_I (x_G X), 756, .inl (aI fs))), (qu, .inl (g_I (x_G X), 700, .inl (aI g33)))] rfl dX7_divides_55 ?_
        refine k_goto C 17 dX7_divides_58 (by decide) ?_
        exact ih17 (q + 1) v54 v46 g33 (⟨by omega, by omega, by omega, fun y hy => by (by_cases e : y = q; (rw [e, e33, i1, Int.toNat_natCast, upI_s]; exact h32); (rw [e33, i1, Int.toNat_natCast, upI_n e]; exact i4 y (by omega)))⟩) (by omega)
  exact L17 _ 0 0 1 fq (⟨rfl, by omega, by rw [dvr_0]; rfl, fun q hq => absurd hq (Nat.not_lt_zero q)⟩) (Nat.lt_succ_self _)
theorem in_X7_placeOf_X7 : ∀ w ∈ wsX70, w ∈ wsX7_placeOf := by decide +kernel
set_option maxHeartbeats 4000000 in
set_option maxRecDepth 100000 in
theorem c_X7_placeOf (l : Launch) (G : KG) (mo s sv tx fa ea go qu : Nat) (st ty th un om : Int) (j v : Int) (J : Nat) (n k m : Nat) (fs fq : Nat → Int) (hj : j = (J : Int)) (hJ : J < 18) (hM : MS fs J n k m) (hv : -2147483648 ≤ v ∧ v < 2147483648) : Ct l G yX7_placeOf wsX7_placeOf (rmD 1 0 0) [.ref mo, .int (iI j), .int (iI v)] [(mo, .inr (6, [.ref s, .int (iI st), .ref sv, .ref tx, .int (iI ty), .int (iI th), .ref fa, .ref ea, .ref go, .ref qu, .int (iI un), .int (iI om)])), (s, .inl (g_I G, 756, .inl (aI fs))), (qu, .inl (g_I G, 700, .inl (aI fq)))] (fun u : Int × (Nat → Int) => u.1 = pI n v ∧ QuI n (SZ n) u.2) (fun u : Int × (Nat → Int) => some (.int (iI u.1))) (fun u : Int × (Nat → Int) => [(mo, .inr (6, [.ref s, .int (iI st), .ref sv, .ref tx, .int (iI ty), .int (iI th), .ref fa, .ref ea, .ref go, .ref qu, .int (iI ((SZ n : Nat) : Int)), .int (iI om)])), (s, .inl (g_I G, 756, .inl (aI fs))), (qu, .inl (g_I G, 700, .inl (aI u.2)))]) := by
  refine Ct.of (cc := cX7_placeOf) (maxL := 5) (ret := (some .int)) (by decide +kernel) rfl (Nat.le_of_ble_eq_true rfl) ?_
  intro X C hG hL hnm hR
  subst hG
  subst hL
  have C : Cx X cX7_placeOf RX7 wsX7_placeOf (some .int) 5 (rmD 1 0 0) := C
  obtain ⟨m1, m2, m3, m4⟩ := id hM
  have mk : k ≤ 40 := m4.2.2.1
  have mn1 : 1 ≤ n := m4.1
  have mn2 : n ≤ 99999 := m4.2.1
  have hz2 := SZ_631 mn2
  have hz1 := SZ_pos mn1
  show K_ X 0 0 [(mo, .inr (6, [.ref s, .int (iI st), .ref sv, .ref tx, .int (iI ty), .int (iI th), .ref fa, .ref ea, .ref go, .ref qu, .int (iI un), .int (iI om)])), (s, .inl (g_I (x_G X), 756, .inl (aI fs))), (qu, .inl (g_I (x_G X), 700, .inl (aI fq)))] 0 [(0, .ref mo), (1, .int (iI j)), (2, .int (iI v))] []
  refine k_aload_n C 0 rfl dX7_placeOf_0 rfl ?_
  refine k_iload_n C 1 rfl dX7_placeOf_1 rfl ?_
  refine k_callV C (y := yX7_divides) [.int (iI j)] 1 rfl (c_X7_divides (x_l X) (x_G X) mo s sv tx fa ea go qu st ty th un om j J n k m fs fq (by assumption) (by assumption) (by assumption)) gX7_placeOf_X7_divides rfl ⟨rfl, by decide +kernel, by decide +kernel, by decide +kernel⟩ ⟨by decide, by decide⟩ 0 (fs := [.ref s, .int (iI st), .ref sv, .ref tx, .int (iI ty), .int (iI th), .ref fa, .ref ea, .ref go, .ref qu, .int (iI un), .int (iI om)]) rfl rfl rfl [0, 1, 2] (by decide) (wc := [(mo, .inr (6, [.ref s, .int (iI st), .ref sv, .ref tx, .int (iI ty), .int (iI th), .ref fa, .ref ea, .ref go, .ref qu, .int (iI un), .int (iI om)])), (s, .inl (g_I (x_G X), 756, .inl (aI fs))), (qu, .inl (g_I (x_G X), 700, .inl (aI fq)))]) rfl [] rfl (Nat.le_of_ble_eq_true rfl) ⟨Nat.le_of_ble_eq_true rfl, Nat.le_of_ble_eq_true rfl⟩ dX7_placeOf_2 (fun u2 => [(mo, .inr (6, [.ref s, .int (iI st), .ref sv, .ref tx, .int (iI ty), .int (iI th), .ref fa, .ref ea, .ref go, .ref qu, .int (iI ((SZ n : Nat) : Int)), .int (iI om)])), (s, .inl (g_I (x_G X), 756, .inl (aI fs))), (qu, .inl (g_I (x_G X), 700, .inl (aI u2)))]) (Or.inr ⟨[], [0, 1, 2], [], rfl, by decide, by decide, by decide, fun _ => rfl⟩) (fun u2 => []) (fun _ => rfl) 0 0 ⟨rfl, rfl⟩ (fun u2 hu2 => ?_)
  refine k_iconst C dX7_placeOf_5 ?_
  refine k_istore_n C (lo' := [(3, .int (iI (-1))), (0, .ref mo), (1, .int (iI j)), (2, .int (iI v))]) dX7_placeOf_6 rfl (by decide) rfl ?_
  refine k_iconst C dX7_placeOf_7 ?_
  refine k_istore C (lo' := [(4, .int (iI 0)), (3, .int (iI (-1))), (0, .ref mo), (1, .int (iI j)), (2, .int (iI v))]) dX7_placeOf_8 (by decide) rfl ?_
  have L10 : ∀ (nf : Nat) (i : Int) (r : Int), (0 ≤ i ∧ i ≤ (SZ n : Int) ∧ PlI n v i.toNat r) → ((SZ n : Int) - i).toNat < nf → K_ X 0 0 [(mo, .inr (6, [.ref s, .int (iI st), .ref sv, .ref tx, .int (iI ty), .int (iI th), .ref fa, .ref ea, .ref go, .ref qu, .int (iI ((SZ n : Nat) : Int)), .int (iI om)])), (s, .inl (g_I (x_G X), 756, .inl (aI fs))), (qu, .inl (g_I (x_G X), 700, .inl (aI u2)))] 10 [(4, .int (iI i)), (3, .int (iI r)), (0, .ref mo), (1, .int (iI j)), (2, .int (iI v))] [] := by
    intro nf
    induction nf with
    | zero => intro i r hI hm; exact absurd hm (Nat.not_lt_zero _)
    | succ nf ih10 =>
      intro i r hI10 hm10
      obtain ⟨i1, i2, i3⟩ := hI10
      refine k_iload C 0 rfl dX7_placeOf_10 ?_
      refine k_aload_n C 2 rfl dX7_placeOf_12 rfl ?_
      refine k_get C (Cn := RX7) (T := TX7) (N := 12) (ci := 6) (ref := "StruckCountsModel") in_X7_placeOf_X7 0 rfl rfl 10 (by decide) 1 rfl rfl (v := .int (iI ((SZ n : Nat) : Int))) rfl dX7_placeOf_13 ?_
      refine k_icmp_ge C 43 (⟨by omega, by omega⟩) (⟨by omega, by omega⟩) dX7_placeOf_16 (by decide) (fun c16 => ?_) (fun c16 => ?_)
      · skip
        refine k_iload_n C 1 rfl dX7_placeOf_43 rfl ?_
        exact k_iret C hR (u := (r, u2)) rfl (by (try dsimp only) <;> exact (⟨PlI_end mn1 (by rw [show SZ n = i.toNat by omega]; exact i3), hu2⟩)) rfl (Nat.le_of_ble_eq_true rfl) (Nat.le_of_ble_eq_true rfl) dX7_placeOf_44
      · skip
        refine k_aload_n C 2 rfl dX7_placeOf_19 rfl ?_
        refine k_get C (Cn := RX7) (T := TX7) (N := 12) (ci := 6) (ref := "StruckCountsModel") in_X7_placeOf_X7 0 rfl rfl 9 (by decide) 2 rfl rfl (v := .ref qu) rfl dX7_placeOf_20 ?_
        refine k_iload C 0 rfl dX7_placeOf_23 ?_
        refine k_iald C (f := u2) 2 rfl (⟨by omega, by omega⟩) (by decide) dX7_placeOf_25 ?_
        refine k_nmI (fun v25 e25 => ?_)
        have h25 : v25 = (qv n i.toNat : Int) := by rw [e25]; exact hu2 i.toNat (by omega)
        have hqp := qv_pos mn1 (q := i.toNat) (by omega)
        refine k_iload_n C 4 rfl dX7_placeOf_26 rfl ?_
        refine k_icmp_ne C 35 (⟨by omega, by omega⟩) (⟨by omega, by omega⟩) dX7_placeOf_27 (by decide) (fun c27 => ?_) (fun c27 => ?_)
        · skip
          have hst := PlI_go mn1 (show i.toNat < SZ n by omega) i3 h25 (Or.inr ⟨by omega, rfl⟩)
          refine k_iload_n C 1 rfl dX7_placeOf_35 rfl ?_
          refine k_istore_n C (lo' := [(3, .int (iI r)), (4, .int (iI i)), (0, .ref mo), (1, .int (iI j)), (2, .int (iI v))]) dX7_placeOf_36 rfl (by decide) rfl ?_
          obtain ⟨v37, e37⟩ : ∃ y : Int, y = i + 1 := ⟨_, rfl⟩
          refine k_iinc C (lo' := [(4, .int (iI v37)), (3, .int (iI r)), (0, .ref mo), (1, .int (iI j)), (2, .int (iI v))]) 1 rfl dX7_placeOf_37 (by decide) v37 e37 rfl ?_
          refine k_goto C 10 dX7_placeOf_40 (by decide) ?_
          exact ih10 v37 r (⟨by omega, by omega, by rw [show v37.toNat = i.toNat + 1 by omega]; exact hst⟩) (by omega)
        · skip
          have hst := PlI_go (r2 := i) mn1 (show i.toNat < SZ n by omega) i3 h25 (Or.inl ⟨by omega, by omega⟩)
          refine k_iload C 0 rfl dX7_placeOf_30 ?_
          refine k_goto C 36 dX7_placeOf_32 (by decide) ?_
          refine k_istore_n C (lo' := [(3, .int (iI i)), (4, .int (iI i)), (0, .ref mo), (1, .int (iI j)), (2, .int (iI v))]) dX7_placeOf_36 rfl (by decide) rfl ?_
          obtain ⟨v37, e37⟩ : ∃ y : Int, y = i + 1 := ⟨_, rfl⟩
          refine k_iinc C (lo' := [(4, .int (iI v37)), (3, .int (iI i)), (0, .ref mo), (1, .int (iI j)), (2, .int (iI v))]) 1 rfl dX7_placeOf_37 (by decide) v37 e37 rfl ?_
          refine k_goto C 10 dX7_placeOf_40 (by decide) ?_
          exact ih10 v37 i (⟨by omega, by omega, by rw [show v37.toNat = i.toNat + 1 by omega]; exact hst⟩) (by omega)
  exact L10 _ 0 (-1) (⟨by omega, by omega, Or.inl ⟨rfl, fun q hq => absurd hq (Nat.not_lt_zero q)⟩⟩) (Nat.lt_succ_self _)
theorem in_X7_isQuotient_X7 : ∀ w ∈ wsX70, w ∈ wsX7_isQuotient := by decide +kernel
set_option maxHeartbeats 4000000 in
set_option maxRecDepth 100000 in
theorem c_X7_isQuotient (l : Launch) (G : KG) (mo s sv tx fa ea go qu : Nat) (st ty th un om : Int) (v : Int) (n k m : Nat) (fs fq : Nat → Int) (hM : MS fs 0 n k m) (hv : -2147483648 ≤ v ∧ v < 2147483648) : Ct l G yX7_isQuotient wsX7_isQuotient (rmD 1 0 0) [.ref mo, .int (iI v)] [(mo, .inr (6, [.ref s, .int (iI st), .ref sv, .ref tx, .int (iI ty), .int (iI th), .ref fa, .ref ea, .ref go, .ref qu, .int (iI un), .int (iI om)])), (s, .inl (g_I G, 756, .inl (aI fs))), (qu, .inl (g_I G, 700, .inl (aI fq)))] (fun u : Int × (Nat → Int) => ((u.1 = 1 ∧ (0 ≤ v ∧ v < (SZ n : Int))) ∨ (u.1 = 0 ∧ ¬ (0 ≤ v ∧ v < (SZ n : Int)))) ∧ QuI n (SZ n) u.2) (fun u : Int × (Nat → Int) => some (.int (iI u.1))) (fun u : Int × (Nat → Int) => [(mo, .inr (6, [.ref s, .int (iI st), .ref sv, .ref tx, .int (iI ty), .int (iI th), .ref fa, .ref ea, .ref go, .ref qu, .int (iI ((SZ n : Nat) : Int)), .int (iI om)])), (s, .inl (g_I G, 756, .inl (aI fs))), (qu, .inl (g_I G, 700, .inl (aI u.2)))]) := by
  refine Ct.of (cc := cX7_isQuotient) (maxL := 2) (ret := (some .boolean)) (by decide +kernel) rfl (Nat.le_of_ble_eq_true rfl) ?_
  intro X C hG hL hnm hR
  subst hG
  subst hL
  have C : Cx X cX7_isQuotient RX7 wsX7_isQuotient (some .boolean) 2 (rmD 1 0 0) := C
  obtain ⟨m1, m2, m3, m4⟩ := id hM
  have mk : k ≤ 40 := m4.2.2.1
  have mn1 : 1 ≤ n := m4.1
  have mn2 : n ≤ 99999 := m4.2.1
  have hz2 := SZ_631 mn2
  have hz1 := SZ_pos mn1
  show K_ X 0 0 [(mo, .inr (6, [.ref s, .int (iI st), .ref sv, .ref tx, .int (iI ty), .int (iI th), .ref fa, .ref ea, .ref go, .ref qu, .int (iI un), .int (iI om)])), (s, .inl (g_I (x_G X), 756, .inl (aI fs))), (qu, .inl (g_I (x_G X), 700, .inl (aI fq)))] 0 [(0, .ref mo), (1, .int (iI v))] []
  refine k_aload_n C 0 rfl dX7_isQuotient_0 rfl ?_
  refine k_iconst C dX7_isQuotient_1 ?_
  refine k_callV C (y := yX7_divides) [.int (iI 0)] 1 rfl (c_X7_divides (x_l X) (x_G X) mo s sv tx fa ea go qu st ty th un om 0 0 n k m fs fq (rfl) (by decide) (hM)) gX7_isQuotient_X7_divides rfl ⟨rfl, by decide +kernel, by decide +kernel, by decide +kernel⟩ ⟨by decide, by decide⟩ 0 (fs := [.ref s, .int (iI st), .ref sv, .ref tx, .int (iI ty), .int (iI th), .ref fa, .ref ea, .ref go, .ref qu, .int (iI un), .int (iI om)]) rfl rfl rfl [0, 1, 2] (by decide) (wc := [(mo, .inr (6, [.ref s, .int (iI st), .ref sv, .ref tx, .int (iI ty), .int (iI th), .ref fa, .ref ea, .ref go, .ref qu, .int (iI un), .int (iI om)])), (s, .inl (g_I (x_G X), 756, .inl (aI fs))), (qu, .inl (g_I (x_G X), 700, .inl (aI fq)))]) rfl [] rfl (Nat.le_of_ble_eq_true rfl) ⟨Nat.le_of_ble_eq_true rfl, Nat.le_of_ble_eq_true rfl⟩ dX7_isQuotient_2 (fun u2 => [(mo, .inr (6, [.ref s, .int (iI st), .ref sv, .ref tx, .int (iI ty), .int (iI th), .ref fa, .ref ea, .ref go, .ref qu, .int (iI ((SZ n : Nat) : Int)), .int (iI om)])), (s, .inl (g_I (x_G X), 756, .inl (aI fs))), (qu, .inl (g_I (x_G X), 700, .inl (aI u2)))]) (Or.inr ⟨[], [0, 1, 2], [], rfl, by decide, by decide, by decide, fun _ => rfl⟩) (fun u2 => []) (fun _ => rfl) 0 0 ⟨rfl, rfl⟩ (fun u2 hu2 => ?_)
  refine k_iload_n C 1 rfl dX7_isQuotient_5 rfl ?_
  refine k_iconst C dX7_isQuotient_6 ?_
  refine k_aload_n C 0 rfl dX7_isQuotient_7 rfl ?_
  refine k_get C (Cn := RX7) (T := TX7) (N := 12) (ci := 6) (ref := "StruckCountsModel") in_X7_isQuotient_X7 0 rfl rfl 10 (by decide) 1 rfl rfl (v := .int (iI ((SZ n : Nat) : Int))) rfl dX7_isQuotient_8 ?_
  refine k_iconst C dX7_isQuotient_11 ?_
  refine k_isub C dX7_isQuotient_12 ?_
  refine k_nmI (fun v12 e12 => ?_)
  refine k_callS C (y := yX7_in) [.int (iI v), .int (iI 0), .int (iI v12)] 3 rfl (c_X7_in (x_l X) (x_G X) v 0 v12 (by omega) (by omega) (by omega)) gX7_isQuotient_X7_in rfl ⟨by decide +kernel, by decide +kernel, by decide +kernel⟩ ⟨by decide, by decide⟩ [] (by decide) (wc := []) rfl [] rfl (Nat.le_of_ble_eq_true rfl) ⟨Nat.le_of_ble_eq_true rfl, Nat.le_of_ble_eq_true rfl⟩ dX7_isQuotient_13 (fun _ => [(mo, .inr (6, [.ref s, .int (iI st), .ref sv, .ref tx, .int (iI ty), .int (iI th), .ref fa, .ref ea, .ref go, .ref qu, .int (iI ((SZ n : Nat) : Int)), .int (iI om)])), (s, .inl (g_I (x_G X), 756, .inl (aI fs))), (qu, .inl (g_I (x_G X), 700, .inl (aI u2)))]) (Or.inl (fun _ => ⟨rfl, rfl⟩)) (fun u13 => [.int (iI u13)]) (fun _ => rfl) 0 0 ⟨rfl, rfl⟩ (fun u13 hu13 => ?_)
  exact k_zret C hR (by omega) (u := (u13, u2)) rfl (by (try dsimp only) <;> exact (⟨by omega, hu2⟩)) rfl (Nat.le_of_ble_eq_true rfl) (Nat.le_of_ble_eq_true rfl) dX7_isQuotient_16
