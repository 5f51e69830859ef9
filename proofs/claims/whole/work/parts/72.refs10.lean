theorem cR_y {m k r j : Nat} (h1 : al m k (j + 1) = true) (h2 : (j + 1) % 4 = r) : cR m k r (j + 1) = cR m k r j + 1 := by
  show ct _ j + (if (al m k (j + 1) && (j + 1) % 4 == r) = true then 1 else 0) = _
  rw [h1, h2, if_pos (by simp)]; rfl
theorem cR_n {m k r j : Nat} (h : ¬ (al m k (j + 1) = true ∧ (j + 1) % 4 = r)) : cR m k r (j + 1) = cR m k r j := by
  show ct _ j + (if (al m k (j + 1) && (j + 1) % 4 == r) = true then 1 else 0) = _
  rw [if_neg (fun z => by rw [Bool.and_eq_true] at z; exact h ⟨z.1, by have := z.2; simpa using this⟩)]; rfl
theorem sR_y {m k j : Nat} (h1 : al m k (j + 1) = true) : sR m k (j + 1) = sR m k j + (j + 1) := by
  show sm _ j + (if al m k (j + 1) = true then j + 1 else 0) = _
  rw [if_pos h1]; rfl
theorem sR_n {m k j : Nat} (h1 : ¬ al m k (j + 1) = true) : sR m k (j + 1) = sR m k j := by
  show sm _ j + (if al m k (j + 1) = true then j + 1 else 0) = _
  rw [if_neg h1]; rfl
theorem ab_6 {n k m : Nat} {w : Int} (h : w < 0 ∨ 5 < w) : abI n k m w = pA ((k : Int) - 1) := by
  unfold abI; rw [if_neg (by omega), if_neg (by omega), if_neg (by omega), if_neg (by omega), if_neg (by omega), if_neg (by omega)]
def hmI (w : Int) (m j : Nat) : Int := if w = 1 then (popk m j : Int) else (j : Int) - (popk m j : Int)
theorem hmI_y {w : Int} {m j : Nat} {v : Int} (hw : w = 0 ∨ w = 1) (hv : v = if m.testBit j = true then 1 else 0) (h : v = w) : hmI w m (j + 1) = hmI w m j + 1 := by
  unfold hmI; rw [popk_s]
  by_cases e : m.testBit j = true
  · rw [if_pos e] at hv; rw [if_pos e, if_pos (by omega), if_pos (by omega)]; omega
  · rw [if_neg e] at hv; rw [if_neg e, if_neg (by omega), if_neg (by omega)]; omega
theorem hmI_n {w : Int} {m j : Nat} {v : Int} (hw : w = 0 ∨ w = 1) (hv : v = if m.testBit j = true then 1 else 0) (h : ¬ v = w) : hmI w m (j + 1) = hmI w m j := by
  unfold hmI; rw [popk_s]
  by_cases e : m.testBit j = true
  · rw [if_pos e] at hv; rw [if_pos e, if_neg (by omega), if_neg (by omega)]; omega
  · rw [if_neg e] at hv; rw [if_neg e, if_pos (by omega), if_pos (by omega)]; omega
theorem hmI_rng {w : Int} {m j : Nat} : 0 ≤ hmI w m j ∧ hmI w m j ≤ j := by
  have := popk_le m j
  unfold hmI; split <;> omega

theorem in_X7_quotient_X7 : ∀ w ∈ wsX70, w ∈ wsX7_quotient := by decide +kernel
set_option maxHeartbeats 4000000 in
set_option maxRecDepth 100000 in
theorem c_X7_quotient (l : Launch) (G : KG) (mo s sv tx fa ea go qu : Nat) (st ty th un om : Int) (n k m : Nat) (q : Int) (fs fq : Nat → Int) (hM : MS fs 0 n k m) (hq : -2147483648 ≤ q ∧ q < 2147483648) : Ct l G yX7_quotient wsX7_quotient (rmD 2 0 0) [.ref mo, .int (iI q)] [(mo, .inr (6, [.ref s, .int (iI st), .ref sv, .ref tx, .int (iI ty), .int (iI th), .ref fa, .ref ea, .ref go, .ref qu, .int (iI un), .int (iI om)])), (s, .inl (g_I G, 756, .inl (aI fs))), (qu, .inl (g_I G, 700, .inl (aI fq)))] (fun u : Int × Int × (Nat → Int) => ((0 ≤ q ∧ q < (SZ n : Int)) ∧ u.1 = (qv n q.toNat : Int) ∧ u.2.1 = 0) ∨ (¬ (0 ≤ q ∧ q < (SZ n : Int)) ∧ u.2.1 = 1)) (fun u : Int × Int × (Nat → Int) => some (.int (iI u.1))) (fun u : Int × Int × (Nat → Int) => [(mo, .inr (6, [.ref s, .int (iI st), .ref sv, .ref tx, .int (iI ty), .int (iI u.2.1), .ref fa, .ref ea, .ref go, .ref qu, .int (iI ((SZ n : Nat) : Int)), .int (iI om)])), (s, .inl (g_I G, 756, .inl (aI fs))), (qu, .inl (g_I G, 700, .inl (aI u.2.2)))]) := by
  refine Ct.of (cc := cX7_quotient) (maxL := 2) (ret := (some .int)) (by decide +kernel) rfl (Nat.le_of_ble_eq_true rfl) ?_
  intro X C hG hL hnm hR
  subst hG
  subst hL
  have C : Cx X cX7_quotient RX7 wsX7_quotient (some .int) 2 (rmD 2 0 0) := C
  obtain ⟨m1, m2, m3, m4⟩ := id hM
  have mk : k ≤ 40 := m4.2.2.1
  have mn1 : 1 ≤ n := m4.1
  have mn2 : n ≤ 99999 := m4.2.1
  have hz2 := SZ_631 mn2
  have hz1 := SZ_pos mn1
  show K_ X 0 0 [(mo, .inr (6, [.ref s, .int (iI st), .ref sv, .ref tx, .int (iI ty), .int (iI th), .ref fa, .ref ea, .ref go, .ref qu, .int (iI un), .int (iI om)])), (s, .inl (g_I (x_G X), 756, .inl (aI fs))), (qu, .inl (g_I (x_G X), 700, .inl (aI fq)))] 0 [(0, .ref mo), (1, .int (iI q))] []
  refine k_aload_n C 0 rfl dX7_quotient_0 rfl ?_
  refine k_aload_n C 0 rfl dX7_quotient_1 rfl ?_
  refine k_iload_n C 1 rfl dX7_quotient_2 rfl ?_
  refine k_callV C (y := yX7_isQuotient) [.int (iI q)] 1 rfl (c_X7_isQuotient (x_l X) (x_G X) mo s sv tx fa ea go qu st ty th un om q n k m fs fq (hM) (by first | assumption | omega)) gX7_quotient_X7_isQuotient rfl ⟨rfl, by decide +kernel, by decide +kernel, by decide +kernel⟩ ⟨by decide, by decide⟩ 0 (fs := [.ref s, .int (iI st), .ref sv, .ref tx, .int (iI ty), .int (iI th), .ref fa, .ref ea, .ref go, .ref qu, .int (iI un), .int (iI om)]) rfl rfl rfl [0, 1, 2] (by decide) (wc := [(mo, .inr (6, [.ref s, .int (iI st), .ref sv, .ref tx, .int (iI ty), .int (iI th), .ref fa, .ref ea, .ref go, .ref qu, .int (iI un), .int (iI om)])), (s, .inl (g_I (x_G X), 756, .inl (aI fs))), (qu, .inl (g_I (x_G X), 700, .inl (aI fq)))]) rfl [.ref mo] rfl (Nat.le_of_ble_eq_true rfl) ⟨Nat.le_of_ble_eq_true rfl, Nat.le_of_ble_eq_true rfl⟩ dX7_quotient_3 (fun u3 => [(mo, .inr (6, [.ref s, .int (iI st), .ref sv, .ref tx, .int (iI ty), .int (iI th), .ref fa, .ref ea, .ref go, .ref qu, .int (iI ((SZ n : Nat) : Int)), .int (iI om)])), (s, .inl (g_I (x_G X), 756, .inl (aI fs))), (qu, .inl (g_I (x_G X), 700, .inl (aI u3.2)))]) (Or.inr ⟨[], [0, 1, 2], [], rfl, by decide, by decide, by decide, fun _ => rfl⟩) (fun u3 => [.int (iI u3.1), .ref mo]) (fun _ => rfl) 0 0 ⟨rfl, rfl⟩ (fun u3 hu3 => ?_)
  refine k_iconst C dX7_quotient_6 ?_
  refine k_callV C (y := yX7_goes) [.int (iI u3.1), .int (iI 1)] 2 rfl (c_X7_goes (x_l X) (x_G X) mo s sv tx fa ea go qu st ty th ((SZ n : Nat) : Int) om u3.1 1 (by omega) (by omega)) gX7_quotient_X7_goes rfl ⟨rfl, by decide +kernel, by decide +kernel, by decide +kernel⟩ ⟨by decide, by decide⟩ 0 (fs := [.ref s, .int (iI st), .ref sv, .ref tx, .int (iI ty), .int (iI th), .ref fa, .ref ea, .ref go, .ref qu, .int (iI ((SZ n : Nat) : Int)), .int (iI om)]) rfl rfl rfl [0] (by decide) (wc := [(mo, .inr (6, [.ref s, .int (iI st), .ref sv, .ref tx, .int (iI ty), .int (iI th), .ref fa, .ref ea, .ref go, .ref qu, .int (iI ((SZ n : Nat) : Int)), .int (iI om)]))]) rfl [] rfl (Nat.le_of_ble_eq_true rfl) ⟨Nat.le_of_ble_eq_true rfl, Nat.le_of_ble_eq_true rfl⟩ dX7_quotient_7 (fun u7 => [(mo, .inr (6, [.ref s, .int (iI st), .ref sv, .ref tx, .int (iI ty), .int (iI u7.2), .ref fa, .ref ea, .ref go, .ref qu, .int (iI ((SZ n : Nat) : Int)), .int (iI om)])), (s, .inl (g_I (x_G X), 756, .inl (aI fs))), (qu, .inl (g_I (x_G X), 700, .inl (aI u3.2)))]) (Or.inr ⟨[1, 2], [2, 0, 1], [(s, .inl (g_I (x_G X), 756, .inl (aI fs))), (qu, .inl (g_I (x_G X), 700, .inl (aI u3.2)))], rfl, by decide, by decide, by decide, fun _ => rfl⟩) (fun u7 => [.int (iI u7.1)]) (fun _ => rfl) 0 0 ⟨rfl, rfl⟩ (fun u7 hu7 => ?_)
  refine k_if_eq C 22 (⟨by omega, by omega⟩) dX7_quotient_10 (by decide) (fun c10 => ?_) (fun c10 => ?_)
  · skip
    refine k_iconst C dX7_quotient_22 ?_
    exact k_iret C hR (u := (0, u7.2, u3.2)) rfl (by (try dsimp only) <;> exact (Or.inr ⟨by omega, by omega⟩)) rfl (Nat.le_of_ble_eq_true rfl) (Nat.le_of_ble_eq_true rfl) dX7_quotient_23
  · skip
    refine k_aload_n C 0 rfl dX7_quotient_13 rfl ?_
    refine k_get C (Cn := RX7) (T := TX7) (N := 12) (ci := 6) (ref := "StruckCountsModel") in_X7_quotient_X7 0 rfl rfl 9 (by decide) 1 rfl rfl (v := .ref qu) rfl dX7_quotient_14 ?_
    refine k_iload_n C 1 rfl dX7_quotient_17 rfl ?_
    refine k_iald C (f := u3.2) 2 rfl (⟨by omega, by omega⟩) (by decide) dX7_quotient_18 ?_
    refine k_nmI (fun v18 e18 => ?_)
    have h18 : v18 = (qv n q.toNat : Int) := by rw [e18]; exact hu3.2 _ (by omega)
    refine k_goto C 23 dX7_quotient_19 (by decide) ?_
    exact k_iret C hR (u := (v18, u7.2, u3.2)) rfl (by (try dsimp only) <;> exact (Or.inl ⟨by omega, h18, by omega⟩)) rfl (Nat.le_of_ble_eq_true rfl) (Nat.le_of_ble_eq_true rfl) dX7_quotient_23
theorem in_X7_quotientOf_X7 : ∀ w ∈ wsX70, w ∈ wsX7_quotientOf := by decide +kernel
set_option maxHeartbeats 4000000 in
set_option maxRecDepth 100000 in
theorem c_X7_quotientOf (l : Launch) (G : KG) (mo s sv tx fa ea go qu : Nat) (st ty th un om : Int) (n k m : Nat) (v : Int) (fs fq : Nat → Int) (hM : MS fs 0 n k m) (hv : -2147483648 ≤ v ∧ v < 2147483648) : Ct l G yX7_quotientOf wsX7_quotientOf (rmD 2 0 0) [.ref mo, .int (iI v)] [(mo, .inr (6, [.ref s, .int (iI st), .ref sv, .ref tx, .int (iI ty), .int (iI th), .ref fa, .ref ea, .ref go, .ref qu, .int (iI un), .int (iI om)])), (s, .inl (g_I G, 756, .inl (aI fs))), (qu, .inl (g_I G, 700, .inl (aI fq)))] (fun u : Int × (Nat → Int) => u.1 = pI n v) (fun u : Int × (Nat → Int) => some (.int (iI u.1))) (fun u : Int × (Nat → Int) => [(mo, .inr (6, [.ref s, .int (iI st), .ref sv, .ref tx, .int (iI ty), .int (iI 0), .ref fa, .ref ea, .ref go, .ref qu, .int (iI ((SZ n : Nat) : Int)), .int (iI om)])), (s, .inl (g_I G, 756, .inl (aI fs))), (qu, .inl (g_I G, 700, .inl (aI u.2)))]) := by
  refine Ct.of (cc := cX7_quotientOf) (maxL := 2) (ret := (some .int)) (by decide +kernel) rfl (Nat.le_of_ble_eq_true rfl) ?_
  intro X C hG hL hnm hR
  subst hG
  subst hL
  have C : Cx X cX7_quotientOf RX7 wsX7_quotientOf (some .int) 2 (rmD 2 0 0) := C
  obtain ⟨m1, m2, m3, m4⟩ := id hM
  have mk : k ≤ 40 := m4.2.2.1
  have mn1 : 1 ≤ n := m4.1
  have mn2 : n ≤ 99999 := m4.2.1
  have hz2 := SZ_631 mn2
  have hz1 := SZ_pos mn1
  show K_ X 0 0 [(mo, .inr (6, [.ref s, .int (iI st), .ref sv, .ref tx, .int (iI ty), .int (iI th), .ref fa, .ref ea, .ref go, .ref qu, .int (iI un), .int (iI om)])), (s, .inl (g_I (x_G X), 756, .inl (aI fs))), (qu, .inl (g_I (x_G X), 700, .inl (aI fq)))] 0 [(0, .ref mo), (1, .int (iI v))] []
  refine k_aload_n C 0 rfl dX7_quotientOf_0 rfl ?_
  refine k_iconst C dX7_quotientOf_1 ?_
  refine k_put C (Cn := RX7) (T := TX7) (N := 12) (ci := 6) (ref := "StruckCountsModel") in_X7_quotientOf_X7 tyX7 tyX7_ok nmX7 0 rfl rfl 5 (by decide) 1 rfl rfl rfl (v := .int (iI 0)) (rfl) (rfl) (Nat.le_of_ble_eq_true rfl) [(mo, .inr (6, [.ref s, .int (iI st), .ref sv, .ref tx, .int (iI ty), .int (iI 0), .ref fa, .ref ea, .ref go, .ref qu, .int (iI un), .int (iI om)])), (s, .inl (g_I (x_G X), 756, .inl (aI fs))), (qu, .inl (g_I (x_G X), 700, .inl (aI fq)))] rfl dX7_quotientOf_2 ?_
  refine k_aload_n C 0 rfl dX7_quotientOf_5 rfl ?_
  refine k_iconst C dX7_quotientOf_6 ?_
  refine k_iload_n C 1 rfl dX7_quotientOf_7 rfl ?_
  refine k_callV C (y := yX7_placeOf) [.int (iI 0), .int (iI v)] 2 rfl (c_X7_placeOf (x_l X) (x_G X) mo s sv tx fa ea go qu st ty 0 un om 0 v 0 n k m fs fq (rfl) (by decide) (hM) (by first | assumption | omega)) gX7_quotientOf_X7_placeOf rfl ⟨rfl, by decide +kernel, by decide +kernel, by decide +kernel⟩ ⟨by decide, by decide⟩ 0 (fs := [.ref s, .int (iI st), .ref sv, .ref tx, .int (iI ty), .int (iI 0), .ref fa, .ref ea, .ref go, .ref qu, .int (iI un), .int (iI om)]) rfl rfl rfl [0, 1, 2] (by decide) (wc := [(mo, .inr (6, [.ref s, .int (iI st), .ref sv, .ref tx, .int (iI ty), .int (iI 0), .ref fa, .ref ea, .ref go, .ref qu, .int (iI un), .int (iI om)])), (s, .inl (g_I (x_G X), 756, .inl (aI fs))), (qu, .inl (g_I (x_G X), 700, .inl (aI fq)))]) rfl [] rfl (Nat.le_of_ble_eq_true rfl) ⟨Nat.le_of_ble_eq_true rfl, Nat.le_of_ble_eq_true rfl⟩ dX7_quotientOf_8 (fun u8 => [(mo, .inr (6, [.ref s, .int (iI st), .ref sv, .ref tx, .int (iI ty), .int (iI 0), .ref fa, .ref ea, .ref go, .ref qu, .int (iI ((SZ n : Nat) : Int)), .int (iI om)])), (s, .inl (g_I (x_G X), 756, .inl (aI fs))), (qu, .inl (g_I (x_G X), 700, .inl (aI u8.2)))]) (Or.inr ⟨[], [0, 1, 2], [], rfl, by decide, by decide, by decide, fun _ => rfl⟩) (fun u8 => [.int (iI u8.1)]) (fun _ => rfl) 0 0 ⟨rfl, rfl⟩ (fun u8 hu8 => ?_)
  exact k_iret C hR (u := (u8.1, u8.2)) rfl (by (try dsimp only) <;> exact (hu8.1)) rfl (Nat.le_of_ble_eq_true rfl) (Nat.le_of_ble_eq_true rfl) dX7_quotientOf_11
theorem in_X7_left_X7 : ∀ w ∈ wsX70, w ∈ wsX7_left := by decide +kernel
set_option maxHeartbeats 4000000 in
set_option maxRecDepth 100000 in
theorem c_X7_left (l : Launch) (G : KG) (mo s sv tx fa ea go qu : Nat) (st ty th un om : Int) (n k m : Nat) (q : Int) (fs fe fg fq : Nat → Int) (hM : MS fs 0 n k m) (hE : ∀ i : Nat, i < 40 → fe i = (sp i : Int)) (hq : -2147483648 ≤ q ∧ q < 2147483648) : Ct l G yX7_left wsX7_left (rmD 2 0 0) [.ref mo, .int (iI q)] [(mo, .inr (6, [.ref s, .int (iI st), .ref sv, .ref tx, .int (iI ty), .int (iI th), .ref fa, .ref ea, .ref go, .ref qu, .int (iI un), .int (iI om)])), (s, .inl (g_I G, 756, .inl (aI fs))), (ea, .inl (g_I G, 40, .inl (aI fe))), (go, .inl (g_Z G, 100000, .inl (aI fg))), (qu, .inl (g_I G, 700, .inl (aI fq)))] (fun u : Int × Int × (Nat → Int) × (Nat → Int) => ((0 ≤ q ∧ q < (SZ n : Int)) ∧ u.1 = (cA m k (qv n q.toNat) : Int) ∧ u.2.1 = 0) ∨ (¬ (0 ≤ q ∧ q < (SZ n : Int)) ∧ u.2.1 = 1)) (fun u : Int × Int × (Nat → Int) × (Nat → Int) => some (.int (iI u.1))) (fun u : Int × Int × (Nat → Int) × (Nat → Int) => [(mo, .inr (6, [.ref s, .int (iI st), .ref sv, .ref tx, .int (iI ty), .int (iI u.2.1), .ref fa, .ref ea, .ref go, .ref qu, .int (iI ((SZ n : Nat) : Int)), .int (iI om)])), (s, .inl (g_I G, 756, .inl (aI fs))), (ea, .inl (g_I G, 40, .inl (aI fe))), (go, .inl (g_Z G, 100000, .inl (aI u.2.2.1))), (qu, .inl (g_I G, 700, .inl (aI u.2.2.2)))]) := by
  refine Ct.of (cc := cX7_left) (maxL := 2) (ret := (some .int)) (by decide +kernel) rfl (Nat.le_of_ble_eq_true rfl) ?_
  intro X C hG hL hnm hR
  subst hG
  subst hL
  have C : Cx X cX7_left RX7 wsX7_left (some .int) 2 (rmD 2 0 0) := C
  obtain ⟨m1, m2, m3, m4⟩ := id hM
  have mk : k ≤ 40 := m4.2.2.1
  have mn1 : 1 ≤ n := m4.1
  have mn2 : n ≤ 99999 := m4.2.1
  have hz2 := SZ_631 mn2
  have hz1 := SZ_pos mn1
  show K_ X 0 0 [(mo, .inr (6, [.ref s, .int (iI st), .ref sv, .ref tx, .int (iI ty), .int (iI th), .ref fa, .ref ea, .ref go, .ref qu, .int (iI un), .int (iI om)])), (s, .inl (g_I (x_G X), 756, .inl (aI fs))), (ea, .inl (g_I (x_G X), 40, .inl (aI fe))), (go, .inl (g_Z (x_G X), 100000, .inl (aI fg))), (qu, .inl (g_I (x_G X), 700, .inl (aI fq)))] 0 [(0, .ref mo), (1, .int (iI q))] []
  refine k_aload_n C 0 rfl dX7_left_0 rfl ?_
  refine k_aload_n C 0 rfl dX7_left_1 rfl ?_
  refine k_iload_n C 1 rfl dX7_left_2 rfl ?_
  refine k_callV C (y := yX7_isQuotient) [.int (iI q)] 1 rfl (c_X7_isQuotient (x_l X) (x_G X) mo s sv tx fa ea go qu st ty th un om q n k m fs fq (hM) (by first | assumption | omega)) gX7_left_X7_isQuotient rfl ⟨rfl, by decide +kernel, by decide +kernel, by decide +kernel⟩ ⟨by decide, by decide⟩ 0 (fs := [.ref s, .int (iI st), .ref sv, .ref tx, .int (iI ty), .int (iI th), .ref fa, .ref ea, .ref go, .ref qu, .int (iI un), .int (iI om)]) rfl rfl rfl [0, 1, 4] (by decide) (wc := [(mo, .inr (6, [.ref s, .int (iI st), .ref sv, .ref tx, .int (iI ty), .int (iI th), .ref fa, .ref ea, .ref go, .ref qu, .int (iI un), .int (iI om)])), (s, .inl (g_I (x_G X), 756, .inl (aI fs))), (qu, .inl (g_I (x_G X), 700, .inl (aI fq)))]) rfl [.ref mo] rfl (Nat.le_of_ble_eq_true rfl) ⟨Nat.le_of_ble_eq_true rfl, Nat.le_of_ble_eq_true rfl⟩ dX7_left_3 (fun u3 => [(mo, .inr (6, [.ref s, .int (iI st), .ref sv, .ref tx, .int (iI ty), .int (iI th), .ref fa, .ref ea, .ref go, .ref qu, .int (iI ((SZ n : Nat) : Int)), .int (iI om)])), (s, .inl (g_I (x_G X), 756, .inl (aI fs))), (ea, .inl (g_I (x_G X), 40, .inl (aI fe))), (go, .inl (g_Z (x_G X), 100000, .inl (aI fg))), (qu, .inl (g_I (x_G X), 700, .inl (aI u3.2)))]) (Or.inr ⟨[2, 3], [2, 3, 0, 1, 4], [(ea, .inl (g_I (x_G X), 40, .inl (aI fe))), (go, .inl (g_Z (x_G X), 100000, .inl (aI fg)))], rfl, by decide, by decide, by decide, fun _ => rfl⟩) (fun u3 => [.int (iI u3.1), .ref mo]) (fun _ => rfl) 0 0 ⟨rfl, rfl⟩ (fun u3 hu3 => ?_)
  refine k_iconst C dX7_left_6 ?_
  refine k_callV C (y := yX7_goes) [.int (iI u3.1), .int (iI 1)] 2 rfl (c_X7_goes (x_l X) (x_G X) mo s sv tx fa ea go qu st ty th ((SZ n : Nat) : Int) om u3.1 1 (by omega) (by omega)) gX7_left_X7_goes rfl ⟨rfl, by decide +kernel, by decide +kernel, by decide +kernel⟩ ⟨by decide, by decide⟩ 0 (fs := [.ref s, .int (iI st), .ref sv, .ref tx, .int (iI ty), .int (iI th), .ref fa, .ref ea, .ref go, .ref qu, .int (iI ((SZ n : Nat) : Int)), .int (iI om)]) rfl rfl rfl [0] (by decide) (wc := [(mo, .inr (6, [.ref s, .int (iI st), .ref sv, .ref tx, .int (iI ty), .int (iI th), .ref fa, .ref ea, .ref go, .ref qu, .int (iI ((SZ n : Nat) : Int)), .int (iI om)]))]) rfl [] rfl (Nat.le_of_ble_eq_true rfl) ⟨Nat.le_of_ble_eq_true rfl, Nat.le_of_ble_eq_true rfl⟩ dX7_left_7 (fun u7 => [(mo, .inr (6, [.ref s, .int (iI st), .ref sv, .ref tx, .int (iI ty), .int (iI u7.2), .ref fa, .ref ea, .ref go, .ref qu, .int (iI ((SZ n : Nat) : Int)), .int (iI om)])), (s, .inl (g_I (x_G X), 756, .inl (aI fs))), (ea, .inl (g_I (x_G X), 40, .inl (aI fe))), (go, .inl (g_Z (x_G X), 100000, .inl (aI fg))), (qu, .inl (g_I (x_G X), 700, .inl (aI u3.2)))]) (Or.inr ⟨[1, 2, 3, 4], [4, 0, 1, 2, 3], [(s, .inl (g_I (x_G X), 756, .inl (aI fs))), (ea, .inl (g_I (x_G X), 40, .inl (aI fe))), (go, .inl (g_Z (x_G X), 100000, .inl (aI fg))), (qu, .inl (g_I (x_G X), 700, .inl (aI u3.2)))], rfl, by decide, by decide, by decide, fun _ => rfl⟩) (fun u7 => [.int (iI u7.1)]) (fun _ => rfl) 0 0 ⟨rfl, rfl⟩ (fun u7 hu7 => ?_)
  refine k_if_ne C 15 (⟨by omega, by omega⟩) dX7_left_10 (by decide) (fun c10 => ?_) (fun c10 => ?_)
  · skip
    refine k_aload_n C 0 rfl dX7_left_15 rfl ?_
    refine k_iconst C dX7_left_16 ?_
    refine k_callV C (y := yX7_lays) [.int (iI 0)] 1 rfl (c_X7_lays (x_l X) (x_G X) mo s sv tx fa ea go qu st ty u7.2 ((SZ n : Nat) : Int) om 0 0 n k m fs fe fg (rfl) (by decide) (hM) (by assumption)) gX7_left_X7_lays rfl ⟨rfl, by decide +kernel, by decide +kernel, by decide +kernel⟩ ⟨by decide, by decide⟩ 0 (fs := [.ref s, .int (iI st), .ref sv, .ref tx, .int (iI ty), .int (iI u7.2), .ref fa, .ref ea, .ref go, .ref qu, .int (iI ((SZ n : Nat) : Int)), .int (iI om)]) rfl rfl rfl [0, 1, 2, 3] (by decide) (wc := [(mo, .inr (6, [.ref s, .int (iI st), .ref sv, .ref tx, .int (iI ty), .int (iI u7.2), .ref fa, .ref ea, .ref go, .ref qu, .int (iI ((SZ n : Nat) : Int)), .int (iI om)])), (s, .inl (g_I (x_G X), 756, .inl (aI fs))), (ea, .inl (g_I (x_G X), 40, .inl (aI fe))), (go, .inl (g_Z (x_G X), 100000, .inl (aI fg)))]) rfl [] rfl (Nat.le_of_ble_eq_true rfl) ⟨Nat.le_of_ble_eq_true rfl, Nat.le_of_ble_eq_true rfl⟩ dX7_left_17 (fun u17 => [(mo, .inr (6, [.ref s, .int (iI st), .ref sv, .ref tx, .int (iI ty), .int (iI u7.2), .ref fa, .ref ea, .ref go, .ref qu, .int (iI ((SZ n : Nat) : Int)), .int (iI om)])), (s, .inl (g_I (x_G X), 756, .inl (aI fs))), (ea, .inl (g_I (x_G X), 40, .inl (aI fe))), (go, .inl (g_Z (x_G X), 100000, .inl (aI u17))), (qu, .inl (g_I (x_G X), 700, .inl (aI u3.2)))]) (Or.inr ⟨[4], [1, 2, 3, 4, 0], [(qu, .inl (g_I (x_G X), 700, .inl (aI u3.2)))], rfl, by decide, by decide, by decide, fun _ => rfl⟩) (fun u17 => []) (fun _ => rfl) 0 0 ⟨rfl, rfl⟩ (fun u17 hu17 => ?_)
    refine k_aload_n C 0 rfl dX7_left_20 rfl ?_
    refine k_aload_n C 0 rfl dX7_left_21 rfl ?_
    refine k_get C (Cn := RX7) (T := TX7) (N := 12) (ci := 6) (ref := "StruckCountsModel") in_X7_left_X7 0 rfl rfl 9 (by decide) 1 rfl rfl (v := .ref qu) rfl dX7_left_22 ?_
    refine k_iload_n C 1 rfl dX7_left_25 rfl ?_
    refine k_iald C (f := u3.2) 4 rfl (⟨by omega, by omega⟩) (by decide) dX7_left_26 ?_
    refine k_nmI (fun v26 e26 => ?_)
    have h26 : v26 = (qv n q.toNat : Int) := by rw [e26]; exact hu3.2 _ (by omega)
    have hqp := qv_pos mn1 (q := q.toNat) (by omega)
    refine k_iconst C dX7_left_27 ?_
    refine k_callV C (y := yX7_leftBy) [.int (iI v26), .int (iI 1)] 2 rfl (c_X7_leftBy (x_l X) (x_G X) mo s sv tx fa ea go qu st ty u7.2 ((SZ n : Nat) : Int) om v26 1 (qv n q.toNat) 1 n k m u17 (h26) (rfl) (by decide) (hqp.2) (mn2) (hu17)) gX7_left_X7_leftBy rfl ⟨rfl, by decide +kernel, by decide +kernel, by decide +kernel⟩ ⟨by decide, by decide⟩ 0 (fs := [.ref s, .int (iI st), .ref sv, .ref tx, .int (iI ty), .int (iI u7.2), .ref fa, .ref ea, .ref go, .ref qu, .int (iI ((SZ n : Nat) : Int)), .int (iI om)]) rfl rfl rfl [0, 3] (by decide) (wc := [(mo, .inr (6, [.ref s, .int (iI st), .ref sv, .ref tx, .int (iI ty), .int (iI u7.2), .ref fa, .ref ea, .ref go, .ref qu, .int (iI ((SZ n : Nat) : Int)), .int (iI om)])), (go, .inl (g_Z (x_G X), 100000, .inl (aI u17)))]) rfl [] rfl (Nat.le_of_ble_eq_true rfl) ⟨Nat.le_of_ble_eq_true rfl, Nat.le_of_ble_eq_true rfl⟩ dX7_left_28 (fun _ => [(mo, .inr (6, [.ref s, .int (iI st), .ref sv, .ref tx, .int (iI ty), .int (iI u7.2), .ref fa, .ref ea, .ref go, .ref qu, .int (iI ((SZ n : Nat) : Int)), .int (iI om)])), (s, .inl (g_I (x_G X), 756, .inl (aI fs))), (ea, .inl (g_I (x_G X), 40, .inl (aI fe))), (go, .inl (g_Z (x_G X), 100000, .inl (aI u17))), (qu, .inl (g_I (x_G X), 700, .inl (aI u3.2)))]) (Or.inl (fun _ => ⟨rfl, rfl⟩)) (fun u28 => [.int (iI u28)]) (fun _ => rfl) 0 0 ⟨rfl, rfl⟩ (fun u28 hu28 => ?_)
    rw [mP_1] at hu28
    exact k_iret C hR (u := (u28, u7.2, u17, u3.2)) rfl (by (try dsimp only) <;> exact (Or.inl ⟨by omega, hu28, by omega⟩)) rfl (Nat.le_of_ble_eq_true rfl) (Nat.le_of_ble_eq_true rfl) dX7_left_31
  · skip
    refine k_iconst C dX7_left_13 ?_
    exact k_iret C hR (u := (0, u7.2, fg, u3.2)) rfl (by (try dsimp only) <;> exact (Or.inr ⟨by omega, by omega⟩)) rfl (Nat.le_of_ble_eq_true rfl) (Nat.le_of_ble_eq_true rfl) dX7_left_14
theorem in_X7_sumLeft_X7 : ∀ w ∈ wsX70, w ∈ wsX7_sumLeft := by decide +kernel
set_option maxHeartbeats 4000000 in
set_option maxRecDepth 100000 in
theorem c_X7_sumLeft (l : Launch) (G : KG) (mo s sv tx fa ea go qu : Nat) (st ty th un om : Int) (n k m : Nat) (q : Int) (fs fe fg fq : Nat → Int) (hM : MS fs 0 n k m) (hE : ∀ i : Nat, i < 40 → fe i = (sp i : Int)) (hq : -2147483648 ≤ q ∧ q < 2147483648) : Ct l G yX7_sumLeft wsX7_sumLeft (rmD 2 0 0) [.ref mo, .int (iI q)] [(mo, .inr (6, [.ref s, .int (iI st), .ref sv, .ref tx, .int (iI ty), .int (iI th), .ref fa, .ref ea, .ref go, .ref qu, .int (iI un), .int (iI om)])), (s, .inl (g_I G, 756, .inl (aI fs))), (ea, .inl (g_I G, 40, .inl (aI fe))), (go, .inl (g_Z G, 100000, .inl (aI fg))), (qu, .inl (g_I G, 700, .inl (aI fq)))] (fun u : Int × Int × (Nat → Int) × (Nat → Int) => ((0 ≤ q ∧ q < (SZ n : Int)) ∧ u.1 = (sR m k (qv n q.toNat) : Int) ∧ u.2.1 = 0) ∨ (¬ (0 ≤ q ∧ q < (SZ n : Int)) ∧ u.2.1 = 1)) (fun u : Int × Int × (Nat → Int) × (Nat → Int) => some (.long (jL u.1))) (fun u : Int × Int × (Nat → Int) × (Nat → Int) => [(mo, .inr (6, [.ref s, .int (iI st), .ref sv, .ref tx, .int (iI ty), .int (iI u.2.1), .ref fa, .ref ea, .ref go, .ref qu, .int (iI ((SZ n : Nat) : Int)), .int (iI om)])), (s, .inl (g_I G, 756, .inl (aI fs))), (ea, .inl (g_I G, 40, .inl (aI fe))), (go, .inl (g_Z G, 100000, .inl (aI u.2.2.1))), (qu, .inl (g_I G, 700, .inl (aI u.2.2.2)))]) := by
  refine Ct.of (cc := cX7_sumLeft) (maxL := 5) (ret := (some .long)) (by decide +kernel) rfl (Nat.le_of_ble_eq_true rfl) ?_
  intro X C hG hL hnm hR
  subst hG
  subst hL
  have C : Cx X cX7_sumLeft RX7 wsX7_sumLeft (some .long) 5 (rmD 2 0 0) := C
  obtain ⟨m1, m2, m3, m4⟩ := id hM
  have mk : k ≤ 40 := m4.2.2.1
  have mn1 : 1 ≤ n := m4.1
  have mn2 : n ≤ 99999 := m4.2.1
  have hz2 := SZ_631 mn2
  have hz1 := SZ_pos mn1
  show K_ X 0 0 [(mo, .inr (6, [.ref s, .int (iI st), .ref sv, .ref tx, .int (iI ty), .int (iI th), .ref fa, .ref ea, .ref go, .ref qu, .int (iI un), .int (iI om)])), (s, .inl (g_I (x_G X), 756, .inl (aI fs))), (ea, .inl (g_I (x_G X), 40, .inl (aI fe))), (go, .inl (g_Z (x_G X), 100000, .inl (aI fg))), (qu, .inl (g_I (x_G X), 700, .inl (aI fq)))] 0 [(0, .ref mo), (1, .int (iI q))] []
  refine k_aload_n C 0 rfl dX7_sumLeft_0 rfl ?_
  refine k_aload_n C 0 rfl dX7_sumLeft_1 rfl ?_
  refine k_iload_n C 1 rfl dX7_sumLeft_2 rfl ?_
  refine k_callV C (y := yX7_isQuotient) [.int (iI q)] 1 rfl (c_X7_isQuotient (x_l X) (x_G X) mo s sv tx fa ea go qu st ty th un om q n k m fs fq (hM) (by first | assumption | omega)) gX7_sumLeft_X7_isQuotient rfl ⟨rfl, by decide +kernel, by decide +kernel, by decide +kernel⟩ ⟨by decide, by decide⟩ 0 (fs := [.ref s, .int (iI st), .ref sv, .ref tx, .int (iI ty), .int (iI th), .ref fa, .ref ea, .ref go, .ref qu, .int (iI un), .int (iI om)]) rfl rfl rfl [0, 1, 4] (by decide) (wc := [(mo, .inr (6, [.ref s, .int (iI st), .ref sv, .ref tx, .int (iI ty), .int (iI th), .ref fa, .ref ea, .ref go, .ref qu, .int (iI un), .int (iI om)])), (s, .inl (g_I (x_G X), 756, .inl (aI fs))), (qu, .inl (g_I (x_G X), 700, .inl (aI fq)))]) rfl [.ref mo] rfl (Nat.le_of_ble_eq_true rfl) ⟨Nat.le_of_ble_eq_true rfl, Nat.le_of_ble_eq_true rfl⟩ dX7_sumLeft_3 (fun u3 => [(mo, .inr (6, [.ref s, .int (iI st), .ref sv, .ref tx, .int (iI ty), .int (iI th), .ref fa, .ref ea, .ref go, .ref qu, .int (iI ((SZ n : Nat) : Int)), .int (iI om)])), (s, .inl (g_I (x_G X), 756, .inl (aI fs))), (ea, .inl (g_I (x_G X), 40, .inl (aI fe))), (go, .inl (g_Z (x_G X), 100000, .inl (aI fg))), (qu, .inl (g_I (x_G X), 700, .inl (aI u3.2)))]) (Or.inr ⟨[2, 3], [2, 3, 0, 1, 4], [(ea, .inl (g_I (x_G X), 40, .inl (aI fe))), (go, .inl (g_Z (x_G X), 100000, .inl (aI fg)))], rfl, by decide, by decide, by decide, fun _ => rfl⟩) (fun u3 => [.int (iI u3.1), .ref mo]) (fun _ => rfl) 0 0 ⟨rfl, rfl⟩ (fun u3 hu3 => ?_)
  refine k_iconst C dX7_sumLeft_6 ?_
  refine k_callV C (y := yX7_goes) [.int (iI u3.1), .int (iI 1)] 2 rfl (c_X7_goes (x_l X) (x_G X) mo s sv tx fa ea go qu st ty th ((SZ n : Nat) : Int) om u3.1 1 (by omega) (by omega)) gX7_sumLeft_X7_goes rfl ⟨rfl, by decide +kernel, by decide +kernel, by decide +kernel⟩ ⟨by decide, by decide⟩ 0 (fs := [.ref s, .int (iI st), .ref sv, .ref tx, .int (iI ty), .int (iI th), .ref fa, .ref ea, .ref go, .ref qu, .int (iI ((SZ n : Nat) : Int)), .int (iI om)]) rfl rfl rfl [0] (by decide) (wc := [(mo, .inr (6, [.ref s, .int (iI st), .ref sv, .ref tx, .int (iI ty), .int (iI th), .ref fa, .ref ea, .ref go, .ref qu, .int (iI ((SZ n : Nat) : Int)), .int (iI om)]))]) rfl [] rfl (Nat.le_of_ble_eq_true rfl) ⟨Nat.le_of_ble_eq_true rfl, Nat.le_of_ble_eq_true rfl⟩ dX7_sumLeft_7 (fun u7 => [(mo, .inr (6, [.ref s, .int (iI st), .ref sv, .ref tx, .int (iI ty), .int (iI u7.2), .ref fa, .ref ea, .ref go, .ref qu, .int (iI ((SZ n : Nat) : Int)), .int (iI om)])), (s, .inl (g_I (x_G X), 756, .inl (aI fs))), (ea, .inl (g_I (x_G X), 40, .inl (aI fe))), (go, .inl (g_Z (x_G X), 100000, .inl (aI fg))), (qu, .inl (g_I (x_G X), 700, .inl (aI u3.2)))]) (Or.inr ⟨[1, 2, 3, 4], [4, 0, 1, 2, 3], [(s, .inl (g_I (x_G X), 756, .inl (aI fs))), (ea, .inl (g_I (x_G X), 40, .inl (aI fe))), (go, .inl (g_Z (x_G X), 100000, .inl (aI fg))), (qu, .inl (g_I (x_G X), 700, .inl (aI u3.2)))], rfl, by decide, by decide, by decide, fun _ => rfl⟩) (fun u7 => [.int (iI u7.1)]) (fun _ => rfl) 0 0 ⟨rfl, rfl⟩ (fun u7 hu7 => ?_)
  refine k_if_ne C 15 (⟨by omega, by omega⟩) dX7_sumLeft_10 (by decide) (fun c10 => ?_) (fun c10 => ?_)
  · skip
    refine k_aload_n C 0 rfl dX7_sumLeft_15 rfl ?_
    refine k_iconst C dX7_sumLeft_16 ?_
    refine k_callV C (y := yX7_lays) [.int (iI 0)] 1 rfl (c_X7_lays (x_l X) (x_G X) mo s sv tx fa ea go qu st ty u7.2 ((SZ n : Nat) : Int) om 0 0 n k m fs fe fg (rfl) (by decide) (hM) (by assumption)) gX7_sumLeft_X7_lays rfl ⟨rfl, by decide +kernel, by decide +kernel, by decide +kernel⟩ ⟨by decide, by decide⟩ 0 (fs := [.ref s, .int (iI st), .ref sv, .ref tx, .int (iI ty), .int (iI u7.2), .ref fa, .ref ea, .ref go, .ref qu, .int (iI ((SZ n : Nat) : Int)), .int (iI om)]) rfl rfl rfl [0, 1, 2, 3] (by decide) (wc := [(mo, .inr (6, [.ref s, .int (iI st), .ref sv, .ref tx, .int (iI ty), .int (iI u7.2), .ref fa, .ref ea, .ref go, .ref qu, .int (iI ((SZ n : Nat) : Int)), .int (iI om)])), (s, .inl (g_I (x_G X), 756, .inl (aI fs))), (ea, .inl (g_I (x_G X), 40, .inl (aI fe))), (go, .inl (g_Z (x_G X), 100000, .inl (aI fg)))]) rfl [] rfl (Nat.le_of_ble_eq_true rfl) ⟨Nat.le_of_ble_eq_true rfl, Nat.le_of_ble_eq_true rfl⟩ dX7_sumLeft_17 (fun u17 => [(mo, .inr (6, [.ref s, .int (iI st), .ref sv, .ref tx, .int (iI ty), .int (iI u7.2), .ref fa, .ref ea, .ref go, .ref qu, .int (iI ((SZ n : Nat) : Int)), .int (iI om)])), (s, .inl (g_I (x_G X), 756, .inl (aI fs))), (ea, .inl (g_I (x_G X), 40, .inl (aI fe))), (go, .inl (g_Z (x_G X), 100000, .inl (aI u17))), (qu, .inl (g_I (x_G X), 700, .inl (aI u3.2)))]) (Or.inr ⟨[4], [1, 2, 3, 4, 0], [(qu, .inl (g_I (x_G X), 700, .inl (aI u3.2)))], rfl, by decide, by decide, by decide, fun _ => rfl⟩) (fun u17 => []) (fun _ => rfl) 0 0 ⟨rfl, rfl⟩ (fun u17 hu17 => ?_)
    have hqp := qv_pos mn1 (q := q.toNat) (by omega)
    refine k_lconst C dX7_sumLeft_20 0 (by decide) ?_
    refine k_lstore_n C (lo' := [(2, .long (jL 0)), (0, .ref mo), (1, .int (iI q))]) dX7_sumLeft_21 rfl (by decide) rfl ?_
    refine k_iconst C dX7_sumLeft_22 ?_
    refine k_istore C (lo' := [(4, .int (iI 1)), (2, .long (jL 0)), (0, .ref mo), (1, .int (iI q))]) dX7_sumLeft_23 (by decide) rfl ?_
    have L25 : ∀ (nf : Nat) (j : Nat) (c : Int) (i : Int), (i = ((j + 1 : Nat) : Int) ∧ j ≤ qv n q.toNat ∧ c = (sR m k j : Int)) → qv n q.toNat - j < nf → K_ X 0 0 [(mo, .inr (6, [.ref s, .int (iI st), .ref sv, .ref tx, .int (iI ty), .int (iI u7.2), .ref fa, .ref ea, .ref go, .ref qu, .int (iI ((SZ n : Nat) : Int)), .int (iI om)])), (s, .inl (g_I (x_G X), 756, .inl (aI fs))), (ea, .inl (g_I (x_G X), 40, .inl (aI fe))), (go, .inl (g_Z (x_G X), 100000, .inl (aI u17))), (qu, .inl (g_I (x_G X), 700, .inl (aI u3.2)))] 25 [(4, .int (iI i)), (2, .long (jL c)), (0, .ref mo), (1, .int (iI q))] [] := by
      intro nf
      induction nf with
      | zero => intro j c i hI hm; exact absurd hm (Nat.not_lt_zero _)
      | succ nf ih25 =>
        intro j c i hI25 hm25
        obtain ⟨i1, i2, i3⟩ := hI25
        refine k_iload C 0 rfl dX7_sumLeft_25 ?_
        refine k_aload_n C 2 rfl dX7_sumLeft_27 rfl ?_
        refine k_get C (Cn := RX7) (T := TX7) (N := 12) (ci := 6) (ref := "StruckCountsModel") in_X7_sumLeft_X7 0 rfl rfl 9 (by decide) 1 rfl rfl (v := .ref qu) rfl dX7_sumLeft_28 ?_
        refine k_iload_n C 3 rfl dX7_sumLeft_31 rfl ?_
        refine k_iald C (f := u3.2) 4 rfl (⟨by omega, by omega⟩) (by decide) dX7_sumLeft_32 ?_
        refine k_nmI (fun v32 e32 => ?_)
        have h32 : v32 = (qv n q.toNat : Int) := by rw [e32]; exact hu3.2 _ (by omega)
        refine k_icmp_gt C 62 (⟨by omega, by omega⟩) (⟨by omega, by omega⟩) dX7_sumLeft_33 (by decide) (fun c33 => ?_) (fun c33 => ?_)
        · skip
          refine k_lload_n C 1 rfl dX7_sumLeft_62 rfl ?_
          exact k_lret C hR (u := (c, u7.2, u17, u3.2)) rfl (by (try dsimp only) <;> exact (Or.inl ⟨by omega, by rw [i3, show qv n q.toNat = j by omega], by omega⟩)) rfl (Nat.le_of_ble_eq_true rfl) (Nat.le_of_ble_eq_true rfl) dX7_sumLeft_63
        · skip
          refine k_lload_n C 1 rfl dX7_sumLeft_36 rfl ?_
          refine k_aload_n C 2 rfl dX7_sumLeft_37 rfl ?_
          refine k_get C (Cn := RX7) (T := TX7) (N := 12) (ci := 6) (ref := "StruckCountsModel") in_X7_sumLeft_X7 0 rfl rfl 8 (by decide) 2 rfl rfl (v := .ref go) rfl dX7_sumLeft_38 ?_
          refine k_iload C 0 rfl dX7_sumLeft_41 ?_
          refine k_zald C (f := u17) 3 rfl (⟨by omega, by omega⟩) (by decide) dX7_sumLeft_43 ?_
          refine k_nmI (fun v43 e43 => ?_)
          have h43 : v43 = if al m k (j + 1) = true then 0 else 1 := by rw [e43, show i.toNat = j + 1 by omega]; exact hu17 _ (by omega) (by omega)
          refine k_if_eq C 51 (⟨by omega, by omega⟩) dX7_sumLeft_44 (by decide) (fun c44 => ?_) (fun c44 => ?_)
          · skip
            have hal : al m k (j + 1) = true := by (by_cases e : al m k (j + 1) = true; (exact e); (rw [if_neg e] at h43; omega))
            have hnx := sR_y hal
            refine k_iload C 0 rfl dX7_sumLeft_51 ?_
            refine k_i2l C (⟨by omega, by omega⟩) dX7_sumLeft_53 ?_
            refine k_ladd C dX7_sumLeft_54 ?_
            refine k_nmL (fun v54 e54 => ?_)
            refine k_lstore_n C (lo' := [(2, .long (jL v54)), (4, .int (iI i)), (0, .ref mo), (1, .int (iI q))]) dX7_sumLeft_55 rfl (by decide) rfl ?_
            obtain ⟨v56, e56⟩ : ∃ y : Int, y = i + 1 := ⟨_, rfl⟩
            refine k_iinc C (lo' := [(4, .int (iI v56)), (2, .long (jL v54)), (0, .ref mo), (1, .int (iI q))]) 1 rfl dX7_sumLeft_56 (by decide) v56 e56 rfl ?_
            refine k_goto C 25 dX7_sumLeft_59 (by decide) ?_
            exact ih25 (j + 1) v54 v56 (⟨by omega, by omega, by rw [hnx]; omega⟩) (by omega)
          · skip
            have hal : ¬ al m k (j + 1) = true := fun e => by (rw [if_pos e] at h43; omega)
            have hnx := sR_n hal
            refine k_lconst C dX7_sumLeft_47 0 (by decide) ?_
            refine k_goto C 54 dX7_sumLeft_48 (by decide) ?_
            refine k_ladd C dX7_sumLeft_54 ?_
            refine k_nmL (fun v54 e54 => ?_)
            refine k_lstore_n C (lo' := [(2, .long (jL v54)), (4, .int (iI i)), (0, .ref mo), (1, .int (iI q))]) dX7_sumLeft_55 rfl (by decide) rfl ?_
            obtain ⟨v56, e56⟩ : ∃ y : Int, y = i + 1 := ⟨_, rfl⟩
            refine k_iinc C (lo' := [(4, .int (iI v56)), (2, .long (jL v54)), (0, .ref mo), (1, .int (iI q))]) 1 rfl dX7_sumLeft_56 (by decide) v56 e56 rfl ?_
            refine k_goto C 25 dX7_sumLeft_59 (by decide) ?_
            exact ih25 (j + 1) v54 v56 (⟨by omega, by omega, by rw [hnx]; omega⟩) (by omega)
    exact L25 _ 0 0 1 (⟨rfl, by omega, rfl⟩) (Nat.lt_succ_self _)
  · skip
    refine k_lconst C dX7_sumLeft_13 0 (by decide) ?_
    exact k_lret C hR (u := (0, u7.2, fg, u3.2)) rfl (by (try dsimp only) <;> exact (Or.inr ⟨by omega, by omega⟩)) rfl (Nat.le_of_ble_eq_true rfl) (Nat.le_of_ble_eq_true rfl) dX7_sumLeft_14
theorem in_X7_restLeft_X7 : ∀ w ∈ wsX70, w ∈ wsX7_restLeft := by decide +kernel
set_option maxHeartbeats 4000000 in
set_option maxRecDepth 100000 in
theorem c_X7_restLeft (l : Launch) (G : KG) (mo s sv tx fa ea go qu : Nat) (st ty th un om : Int) (n k m : Nat) (q r : Int) (fs fe fg fq : Nat → Int) (hM : MS fs 0 n k m) (hE : ∀ i : Nat, i < 40 → fe i = (sp i : Int)) (hq : -2147483648 ≤ q ∧ q < 2147483648) (hr : -2147483648 ≤ r ∧ r < 2147483648) : Ct l G yX7_restLeft wsX7_restLeft (rmD 2 0 0) [.ref mo, .int (iI q), .int (iI r)] [(mo, .inr (6, [.ref s, .int (iI st), .ref sv, .ref tx, .int (iI ty), .int (iI th), .ref fa, .ref ea, .ref go, .ref qu, .int (iI un), .int (iI om)])), (s, .inl (g_I G, 756, .inl (aI fs))), (ea, .inl (g_I G, 40, .inl (aI fe))), (go, .inl (g_Z G, 100000, .inl (aI fg))), (qu, .inl (g_I G, 700, .inl (aI fq)))] (fun u : Int × Int × (Nat → Int) × (Nat → Int) => (((0 ≤ q ∧ q < (SZ n : Int)) ∧ 0 ≤ r ∧ r ≤ 3) ∧ u.1 = (cR m k r.toNat (qv n q.toNat) : Int) ∧ u.2.1 = 0) ∨ (¬ (0 ≤ q ∧ q < (SZ n : Int)) ∧ u.2.1 = 1) ∨ ((0 ≤ q ∧ q < (SZ n : Int)) ∧ ¬ (0 ≤ r ∧ r ≤ 3) ∧ u.2.1 = 2)) (fun u : Int × Int × (Nat → Int) × (Nat → Int) => some (.int (iI u.1))) (fun u : Int × Int × (Nat → Int) × (Nat → Int) => [(mo, .inr (6, [.ref s, .int (iI st), .ref sv, .ref tx, .int (iI ty), .int (iI u.2.1), .ref fa, .ref ea, .ref go, .ref qu, .int (iI ((SZ n : Nat) : Int)), .int (iI om)])), (s, .inl (g_I G, 756, .inl (aI fs))), (ea, .inl (g_I G, 40, .inl (aI fe))), (go, .inl (g_Z G, 100000, .inl (aI u.2.2.1))), (qu, .inl (g_I G, 700, .inl (aI u.2.2.2)))]) := by
  refine Ct.of (cc := cX7_restLeft) (maxL := 5) (ret := (some .int)) (by decide +kernel) rfl (Nat.le_of_ble_eq_true rfl) ?_
  intro X C hG hL hnm hR
  subst hG
  subst hL
  have C : Cx X cX7_restLeft RX7 wsX7_restLeft (some .int) 5 (rmD 2 0 0) := C
  obtain ⟨m1, m2, m3, m4⟩ := id hM
  have mk : k ≤ 40 := m4.2.2.1
  have mn1 : 1 ≤ n := m4.1
  have mn2 : n ≤ 99999 := m4.2.1
  have hz2 := SZ_631 mn2
  have hz1 := SZ_pos mn1
  show K_ X 0 0 [(mo, .inr (6, [.ref s, .int (iI st), .ref sv, .ref tx, .int (iI ty), .int (iI th), .ref fa, .ref ea, .ref go, .ref qu, .int (iI un), .int (iI om)])), (s, .inl (g_I (x_G X), 756, .inl (aI fs))), (ea, .inl (g_I (x_G X), 40, .inl (aI fe))), (go, .inl (g_Z (x_G X), 100000, .inl (aI fg))), (qu, .inl (g_I (x_G X), 700, .inl (aI fq)))] 0 [(0, .ref mo), (1, .int (iI q)), (2, .int (iI r))] []
  refine k_aload_n C 0 rfl dX7_restLeft_0 rfl ?_
  refine k_aload_n C 0 rfl dX7_restLeft_1 rfl ?_
  refine k_iload_n C 1 rfl dX7_restLeft_2 rfl ?_
  refine k_callV C (y := yX7_isQuotient) [.int (iI q)] 1 rfl (c_X7_isQuotient (x_l X) (x_G X) mo s sv tx fa ea go qu st ty th un om q n k m fs fq (hM) (by first | assumption | omega)) gX7_restLeft_X7_isQuotient rfl ⟨rfl, by decide +kernel, by decide +kernel, by decide +kernel⟩ ⟨by decide, by decide⟩ 0 (fs := [.ref s, .int (iI st), .ref sv, .ref tx, .int (iI ty), .int (iI th), .ref fa, .ref ea, .ref go, .ref qu, .int (iI un), .int (iI om)]) rfl rfl rfl [0, 1, 4] (by decide) (wc := [(mo, .inr (6, [.ref s, .int (iI st), .ref sv, .ref tx, .int (iI ty), .int (iI th), .ref fa, .ref ea, .ref go, .ref qu, .int (iI un), .int (iI om)])), (s, .inl (g_I (x_G X), 756, .inl (aI fs))), (qu, .inl (g_I (x_G X), 700, .inl (aI fq)))]) rfl [.ref mo] rfl (Nat.le_of_ble_eq_true rfl) ⟨Nat.le_of_ble_eq_true rfl, Nat.le_of_ble_eq_true rfl⟩ dX7_restLeft_3 (fun u3 => [(mo, .inr (6, [.ref s, .int (iI st), .ref sv, .ref tx, .int (iI ty), .int (iI th), .ref fa, .ref ea, .ref go, .ref qu, .int (iI ((SZ n : Nat) : Int)), .int (iI om)])), (s, .inl (g_I (x_G X), 756, .inl (aI fs))), (ea, .inl (g_I (x_G X), 40, .inl (aI fe))), (go, .inl (g_Z (x_G X), 100000, .inl (aI fg))), (qu, .inl (g_I (x_G X), 700, .inl (aI u3.2)))]) (Or.inr ⟨[2, 3], [2, 3, 0, 1, 4], [(ea, .inl (g_I (x_G X), 40, .inl (aI fe))), (go, .inl (g_Z (x_G X), 100000, .inl (aI fg)))], rfl, by decide, by decide, by decide, fun _ => rfl⟩) (fun u3 => [.int (iI u3.1), .ref mo]) (fun _ => rfl) 0 0 ⟨rfl, rfl⟩ (fun u3 hu3 => ?_)
  refine k_iload_n C 2 rfl dX7_restLeft_6 rfl ?_
  refine k_iconst C dX7_restLeft_7 ?_
  refine k_iconst C dX7_restLeft_8 ?_
  refine k_callS C (y := yX7_in) [.int (iI r), .int (iI 0), .int (iI 3)] 3 rfl (c_X7_in (x_l X) (x_G X) r 0 3 (by omega) (by omega) (by omega)) gX7_restLeft_X7_in rfl ⟨by decide +kernel, by decide +kernel, by decide +kernel⟩ ⟨by decide, by decide⟩ [] (by decide) (wc := []) rfl [.int (iI u3.1), .ref mo] rfl (Nat.le_of_ble_eq_true rfl) ⟨Nat.le_of_ble_eq_true rfl, Nat.le_of_ble_eq_true rfl⟩ dX7_restLeft_9 (fun _ => [(mo, .inr (6, [.ref s, .int (iI st), .ref sv, .ref tx, .int (iI ty), .int (iI th), .ref fa, .ref ea, .ref go, .ref qu, .int (iI ((SZ n : Nat) : Int)), .int (iI om)])), (s, .inl (g_I (x_G X), 756, .inl (aI fs))), (ea, .inl (g_I (x_G X), 40, .inl (aI fe))), (go, .inl (g_Z (x_G X), 100000, .inl (aI fg))), (qu, .inl (g_I (x_G X), 700, .inl (aI u3.2)))]) (Or.inl (fun _ => ⟨rfl, rfl⟩)) (fun u9 => [.int (iI u9), .int (iI u3.1), .ref mo]) (fun _ => rfl) 0 0 ⟨rfl, rfl⟩ (fun u9 hu9 => ?_)
  refine k_callV C (y := yX7_goes) [.int (iI u3.1), .int (iI u9)] 2 rfl (c_X7_goes (x_l X) (x_G X) mo s sv tx fa ea go qu st ty th ((SZ n : Nat) : Int) om u3.1 u9 (by omega) (by omega)) gX7_restLeft_X7_goes rfl ⟨rfl, by decide +kernel, by decide +kernel, by decide +kernel⟩ ⟨by decide, by decide⟩ 0 (fs := [.ref s, .int (iI st), .ref sv, .ref tx, .int (iI ty), .int (iI th), .ref fa, .ref ea, .ref go, .ref qu, .int (iI ((SZ n : Nat) : Int)), .int (iI om)]) rfl rfl rfl [0] (by decide) (wc := [(mo, .inr (6, [.ref s, .int (iI st), .ref sv, .ref tx, .int (iI ty), .int (iI th), .ref fa, .ref ea, .ref go, .ref qu, .int (iI ((SZ n : Nat) : Int)), .int (iI om)]))]) rfl [] rfl (Nat.le_of_ble_eq_true rfl) ⟨Nat.le_of_ble_eq_true rfl, Nat.le_of_ble_eq_true rfl⟩ dX7_restLeft_12 (fun u12 => [(mo, .inr (6, [.ref s, .int (iI st), .ref sv, .ref tx, .int (iI ty), .int (iI u12.2), .ref fa, .ref ea, .ref go, .ref qu, .int (iI ((SZ n : Nat) : Int)), .int (iI om)])), (s, .inl (g_I (x_G X), 756, .inl (aI fs))), (ea, .inl (g_I (x_G X), 40, .inl (aI fe))), (go, .inl (g_Z (x_G X), 100000, .inl (aI fg))), (qu, .inl (g_I (x_G X), 700, .inl (aI u3.2)))]) (Or.inr ⟨[1, 2, 3, 4], [4, 0, 1, 2, 3], [(s, .inl (g_I (x_G X), 756, .inl (aI fs))), (ea, .inl (g_I (x_G X), 40, .inl (aI fe))), (go, .inl (g_Z (x_G X), 100000, .inl (aI fg))), (qu, .inl (g_I (x_G X), 700, .inl (aI u3.2)))], rfl, by decide, by decide, by decide, fun _ => rfl⟩) (fun u12 => [.int (iI u12.1)]) (fun _ => rfl) 0 0 ⟨rfl, rfl⟩ (fun u12 hu12 => ?_)
  refine k_if_ne C 20 (⟨by omega, by omega⟩) dX7_restLeft_15 (by decide) (fun c15 => ?_) (fun c15 => ?_)
  · skip
    refine k_aload_n C 0 rfl dX7_restLeft_20 rfl ?_
    refine k_iconst C dX7_restLeft_21 ?_
    refine k_callV C (y := yX7_lays) [.int (iI 0)] 1 rfl (c_X7_lays (x_l X) (x_G X) mo s sv tx fa ea go qu st ty u12.2 ((SZ n : Nat) : Int) om 0 0 n k m fs fe fg (rfl) (by decide) (hM) (by assumption)) gX7_restLeft_X7_lays rfl ⟨rfl, by decide +kernel, by decide +kernel, by decide +kernel⟩ ⟨by decide, by decide⟩ 0 (fs := [.ref s, .int (iI st), .ref sv, .ref tx, .int (iI ty), .int (iI u12.2), .ref fa, .ref ea, .ref go, .ref qu, .int (iI ((SZ n : Nat) : Int)), .int (iI om)]) rfl rfl rfl [0, 1, 2, 3] (by decide) (wc := [(mo, .inr (6, [.ref s, .int (iI st), .ref sv, .ref tx, .int (iI ty), .int (iI u12.2), .ref fa, .ref ea, .ref go, .ref qu, .int (iI ((SZ n : Nat) : Int)), .int (iI om)])), (s, .inl (g_I (x_G X), 756, .inl (aI fs))), (ea, .inl (g_I (x_G X), 40, .inl (aI fe))), (go, .inl (g_Z (x_G X), 100000, .inl (aI fg)))]) rfl [] rfl (Nat.le_of_ble_eq_true rfl) ⟨Nat.le_of_ble_eq_true rfl, Nat.le_of_ble_eq_true rfl⟩ dX7_restLeft_22 (fun u22 => [(mo, .inr (6, [.ref s, .int (iI st), .ref sv, .ref tx, .int (iI ty), .int (iI u12.2), .ref fa, .ref ea, .ref go, .ref qu, .int (iI ((SZ n : Nat) : Int)), .int (iI om)])), (s, .inl (g_I (x_G X), 756, .inl (aI fs))), (ea, .inl (g_I (x_G X), 40, .inl (aI fe))), (go, .inl (g_Z (x_G X), 100000, .inl (aI u22))), (qu, .inl (g_I (x_G X), 700, .inl (aI u3.2)))]) (Or.inr ⟨[4], [1, 2, 3, 4, 0], [(qu, .inl (g_I (x_G X), 700, .inl (aI u3.2)))], rfl, by decide, by decide, by decide, fun _ => rfl⟩) (fun u22 => []) (fun _ => rfl) 0 0 ⟨rfl, rfl⟩ (fun u22 hu22 => ?_)
    have hqp := qv_pos mn1 (q := q.toNat) (by omega)
    refine k_iconst C dX7_restLeft_25 ?_
    refine k_istore_n C (lo' := [(3, .int (iI 0)), (0, .ref mo), (1, .int (iI q)), (2, .int (iI r))]) dX7_restLeft_26 rfl (by decide) rfl ?_
    refine k_iconst C dX7_restLeft_27 ?_
    refine k_istore C (lo' := [(4, .int (iI 1)), (3, .int (iI 0)), (0, .ref mo), (1, .int (iI q)), (2, .int (iI r))]) dX7_restLeft_28 (by decide) rfl ?_
    have L30 : ∀ (nf : Nat) (j : Nat) (c : Int) (i : Int), (i = ((j + 1 : Nat) : Int) ∧ j ≤ qv n q.toNat ∧ c = (cR m k r.toNat j : Int)) → qv n q.toNat - j < nf → K_ X 0 0 [(mo, .inr (6, [.ref s, .int (iI st), .ref sv, .ref tx, .int (iI ty), .int (iI u12.2), .ref fa, .ref ea, .ref go, .ref qu, .int (iI ((SZ n : Nat) : Int)), .int (iI om)])), (s, .inl (g_I (x_G X), 756, .inl (aI fs))), (ea, .inl (g_I (x_G X), 40, .inl (aI fe))), (go, .inl (g_Z (x_G X), 100000, .inl (aI u22))), (qu, .inl (g_I (x_G X), 700, .inl (aI u3.2)))] 30 [(4, .int (iI i)), (3, .int (iI c)), (0, .ref mo), (1, .int (iI q)), (2, .int (iI r))] [] := by
      intro nf
      induction nf with
      | zero => intro j c i hI hm; exact absurd hm (Nat.not_lt_zero _)
      | succ nf ih30 =>
        intro j c i hI30 hm30
        obtain ⟨i1, i2, i3⟩ := hI30
        have hcl : cR m k r.toNat j ≤ j := ct_le _ j
        refine k_iload C 0 rfl dX7_restLeft_30 ?_
        refine k_aload_n C 2 rfl dX7_restLeft_32 rfl ?_
        refine k_get C (Cn := RX7) (T := TX7) (N := 12) (ci := 6) (ref := "StruckCountsModel") in_X7_restLeft_X7 0 rfl rfl 9 (by decide) 1 rfl rfl (v := .ref qu) rfl dX7_restLeft_33 ?_
        refine k_iload_n C 3 rfl dX7_restLeft_36 rfl ?_
        refine k_iald C (f := u3.2) 4 rfl (⟨by omega, by omega⟩) (by decide) dX7_restLeft_37 ?_
        refine k_nmI (fun v37 e37 => ?_)
        have h37 : v37 = (qv n q.toNat : Int) := by rw [e37]; exact hu3.2 _ (by omega)
        refine k_icmp_gt C 73 (⟨by omega, by omega⟩) (⟨by omega, by omega⟩) dX7_restLeft_38 (by decide) (fun c38 => ?_) (fun c38 => ?_)
        · skip
          refine k_iload_n C 1 rfl dX7_restLeft_73 rfl ?_
          exact k_iret C hR (u := (c, u12.2, u22, u3.2)) rfl (by (try dsimp only) <;> exact (Or.inl ⟨by omega, by rw [i3, show qv n q.toNat = j by omega], by omega⟩)) rfl (Nat.le_of_ble_eq_true rfl) (Nat.le_of_ble_eq_true rfl) dX7_restLeft_74
        · skip
          refine k_iload_n C 1 rfl dX7_restLeft_41 rfl ?_
          refine k_aload_n C 2 rfl dX7_restLeft_42 rfl ?_
          refine k_get C (Cn := RX7) (T := TX7) (N := 12) (ci := 6) (ref := "StruckCountsModel") in_X7_restLeft_X7 0 rfl rfl 8 (by decide) 2 rfl rfl (v := .ref go) rfl dX7_restLeft_43 ?_
          refine k_iload C 0 rfl dX7_restLeft_46 ?_
          refine k_zald C (f := u22) 3 rfl (⟨by omega, by omega⟩) (by decide) dX7_restLeft_48 ?_
          refine k_nmI (fun v48 e48 => ?_)
          have h48 : v48 = if al m k (j + 1) = true then 0 else 1 := by rw [e48, show i.toNat = j + 1 by omega]; exact hu22 _ (by omega) (by omega)
          refine k_if_ne C 64 (⟨by omega, by omega⟩) dX7_restLeft_49 (by decide) (fun c49 => ?_) (fun c49 => ?_)
          · skip
            have hal : ¬ al m k (j + 1) = true := fun e => by (rw [if_pos e] at h48; omega)
            have hnx := cR_n (r := r.toNat) (fun z => hal z.1)
            refine k_iconst C dX7_restLeft_64 ?_
            refine k_iadd C dX7_restLeft_65 ?_
            refine k_nmI (fun v65 e65 => ?_)
            refine k_istore_n C (lo' := [(3, .int (iI v65)), (4, .int (iI i)), (0, .ref mo), (1, .int (iI q)), (2, .int (iI r))]) dX7_restLeft_66 rfl (by decide) rfl ?_
            obtain ⟨v67, e67⟩ : ∃ y : Int, y = i + 1 := ⟨_, rfl⟩
            refine k_iinc C (lo' := [(4, .int (iI v67)), (3, .int (iI v65)), (0, .ref mo), (1, .int (iI q)), (2, .int (iI r))]) 1 rfl dX7_restLeft_67 (by decide) v67 e67 rfl ?_
            refine k_goto C 30 dX7_restLeft_70 (by decide) ?_
            exact ih30 (j + 1) v65 v67 (⟨by omega, by omega, by rw [hnx]; omega⟩) (by omega)
          · skip
            have hal : al m k (j + 1) = true := by (by_cases e : al m k (j + 1) = true; (exact e); (rw [if_neg e] at h48; omega))
            refine k_iload C 0 rfl dX7_restLeft_52 ?_
            refine k_iconst C dX7_restLeft_54 ?_
            refine k_irem C ⟨by omega, by omega⟩ ⟨by omega, by omega⟩ dX7_restLeft_55 ?_
            refine k_nmI (fun v55 e55 => ?_)
            refine k_iload_n C 4 rfl dX7_restLeft_56 rfl ?_
            refine k_icmp_ne C 64 (⟨by omega, by omega⟩) (⟨by omega, by omega⟩) dX7_restLeft_57 (by decide) (fun c57 => ?_) (fun c57 => ?_)
            · skip
              have hnx := cR_n (m := m) (k := k) (r := r.toNat) (j := j) (fun z => by have := z.2; omega)
              refine k_iconst C dX7_restLeft_64 ?_
              refine k_iadd C dX7_restLeft_65 ?_
              refine k_nmI (fun v65 e65 => ?_)
              refine k_istore_n C (lo' := [(3, .int (iI v65)), (4, .int (iI i)), (0, .ref mo), (1, .int (iI q)), (2, .int (iI r))]) dX7_restLeft_66 rfl (by decide) rfl ?_
              obtain ⟨v67, e67⟩ : ∃ y : Int, y = i + 1 := ⟨_, rfl⟩
              refine k_iinc C (lo' := [(4, .int (iI v67)), (3, .int (iI v65)), (0, .ref mo), (1, .int (iI q)), (2, .int (iI r))]) 1 rfl dX7_restLeft_67 (by decide) v67 e67 rfl ?_
              refine k_goto C 30 dX7_restLeft_70 (by decide) ?_
              exact ih30 (j + 1) v65 v67 (⟨by omega, by omega, by rw [hnx]; omega⟩) (by omega)
            · skip
              have hnx := cR_y (r := r.toNat) hal (by omega)
              refine k_iconst C dX7_restLeft_60 ?_
              refine k_goto C 65 dX7_restLeft_61 (by decide) ?_
              refine k_iadd C dX7_restLeft_65 ?_
              refine k_nmI (fun v65 e65 => ?_)
              refine k_istore_n C (lo' := [(3, .int (iI v65)), (4, .int (iI i)), (0, .ref mo), (1, .int (iI q)), (2, .int (iI r))]) dX7_restLeft_66 rfl (by decide) rfl ?_
              obtain ⟨v67, e67⟩ : ∃ y : Int, y = i + 1 := ⟨_, rfl⟩
              refine k_iinc C (lo' := [(4, .int (iI v67)), (3, .int (iI v65)), (0, .ref mo), (1, .int (iI q)), (2, .int (iI r))]) 1 rfl dX7_restLeft_67 (by decide) v67 e67 rfl ?_
              refine k_goto C 30 dX7_restLeft_70 (by decide) ?_
              exact ih30 (j + 1) v65 v67 (⟨by omega, by omega, by rw [hnx]; omega⟩) (by omega)
    exact L30 _ 0 0 1 (⟨rfl, by omega, rfl⟩) (Nat.lt_succ_self _)
  · skip
    refine k_iconst C dX7_restLeft_18 ?_
    exact k_iret C hR (u := (0, u12.2, fg, u3.2)) rfl (by (try dsimp only) <;> exact (Or.inr (by omega))) rfl (Nat.le_of_ble_eq_true rfl) (Nat.le_of_ble_eq_true rfl) dX7_restLeft_19
theorem in_X7_came_X7 : ∀ w ∈ wsX70, w ∈ wsX7_came := by decide +kernel
set_option maxHeartbeats 4000000 in
set_option maxRecDepth 100000 in
theorem c_X7_came (l : Launch) (G : KG) (mo s sv tx fa ea go qu : Nat) (st ty th un om : Int) (n k m : Nat) (j : Int) (fs fe : Nat → Int) (hM : MS fs 0 n k m) (hE : ∀ i : Nat, i < 40 → fe i = (sp i : Int)) (hj : -2147483648 ≤ j ∧ j < 2147483648) : Ct l G yX7_came wsX7_came (rmD 1 0 0) [.ref mo, .int (iI j)] [(mo, .inr (6, [.ref s, .int (iI st), .ref sv, .ref tx, .int (iI ty), .int (iI th), .ref fa, .ref ea, .ref go, .ref qu, .int (iI un), .int (iI om)])), (s, .inl (g_I G, 756, .inl (aI fs))), (ea, .inl (g_I G, 40, .inl (aI fe)))] (fun u : Int × Int => ((0 ≤ j) ∧ u.1 = cmI k m j ∧ u.2 = 0) ∨ (¬ 0 ≤ j ∧ u.2 = 1)) (fun u : Int × Int => some (.int (iI u.1))) (fun u : Int × Int => [(mo, .inr (6, [.ref s, .int (iI st), .ref sv, .ref tx, .int (iI ty), .int (iI u.2), .ref fa, .ref ea, .ref go, .ref qu, .int (iI un), .int (iI om)])), (s, .inl (g_I G, 756, .inl (aI fs))), (ea, .inl (g_I G, 40, .inl (aI fe)))]) := by
  refine Ct.of (cc := cX7_came) (maxL := 2) (ret := (some .int)) (by decide +kernel) rfl (Nat.le_of_ble_eq_true rfl) ?_
  intro X C hG hL hnm hR
  subst hG
  subst hL
  have C : Cx X cX7_came RX7 wsX7_came (some .int) 2 (rmD 1 0 0) := C
  obtain ⟨m1, m2, m3, m4⟩ := id hM
  have mk : k ≤ 40 := m4.2.2.1
  have mn1 : 1 ≤ n := m4.1
  have mn2 : n ≤ 99999 := m4.2.1
  have hz2 := SZ_631 mn2
  have hz1 := SZ_pos mn1
  show K_ X 0 0 [(mo, .inr (6, [.ref s, .int (iI st), .ref sv, .ref tx, .int (iI ty), .int (iI th), .ref fa, .ref ea, .ref go, .ref qu, .int (iI un), .int (iI om)])), (s, .inl (g_I (x_G X), 756, .inl (aI fs))), (ea, .inl (g_I (x_G X), 40, .inl (aI fe)))] 0 [(0, .ref mo), (1, .int (iI j))] []
  refine k_aload_n C 0 rfl dX7_came_0 rfl ?_
  refine k_iload_n C 1 rfl dX7_came_1 rfl ?_
  refine k_if_lt C 9 (⟨by omega, by omega⟩) dX7_came_2 (by decide) (fun c2 => ?_) (fun c2 => ?_)
  · skip
    refine k_iconst C dX7_came_9 ?_
    refine k_iconst C dX7_came_10 ?_
    refine k_callV C (y := yX7_goes) [.int (iI 0), .int (iI 1)] 2 rfl (c_X7_goes (x_l X) (x_G X) mo s sv tx fa ea go qu st ty th un om 0 1 (by omega) (by omega)) gX7_came_X7_goes rfl ⟨rfl, by decide +kernel, by decide +kernel, by decide +kernel⟩ ⟨by decide, by decide⟩ 0 (fs := [.ref s, .int (iI st), .ref sv, .ref tx, .int (iI ty), .int (iI th), .ref fa, .ref ea, .ref go, .ref qu, .int (iI un), .int (iI om)]) rfl rfl rfl [0] (by decide) (wc := [(mo, .inr (6, [.ref s, .int (iI st), .ref sv, .ref tx, .int (iI ty), .int (iI th), .ref fa, .ref ea, .ref go, .ref qu, .int (iI un), .int (iI om)]))]) rfl [] rfl (Nat.le_of_ble_eq_true rfl) ⟨Nat.le_of_ble_eq_true rfl, Nat.le_of_ble_eq_true rfl⟩ dX7_came_11 (fun u11 => [(mo, .inr (6, [.ref s, .int (iI st), .ref sv, .ref tx, .int (iI ty), .int (iI u11.2), .ref fa, .ref ea, .ref go, .ref qu, .int (iI un), .int (iI om)])), (s, .inl (g_I (x_G X), 756, .inl (aI fs))), (ea, .inl (g_I (x_G X), 40, .inl (aI fe)))]) (Or.inr ⟨[1, 2], [2, 0, 1], [(s, .inl (g_I (x_G X), 756, .inl (aI fs))), (ea, .inl (g_I (x_G X), 40, .inl (aI fe)))], rfl, by decide, by decide, by decide, fun _ => rfl⟩) (fun u11 => [.int (iI u11.1)]) (fun _ => rfl) 0 0 ⟨rfl, rfl⟩ (fun u11 hu11 => ?_)
    refine k_if_ne C 19 (⟨by omega, by omega⟩) dX7_came_14 (by decide) (fun c14 => ?_) (fun c14 => ?_)
    · exfalso; omega
    · skip
      refine k_iconst C dX7_came_17 ?_
      exact k_iret C hR (u := (0, u11.2)) rfl (by (try dsimp only) <;> exact (Or.inr ⟨by omega, by omega⟩)) rfl (Nat.le_of_ble_eq_true rfl) (Nat.le_of_ble_eq_true rfl) dX7_came_18
  · skip
    refine k_iconst C dX7_came_5 ?_
    refine k_goto C 10 dX7_came_6 (by decide) ?_
    refine k_iconst C dX7_came_10 ?_
    refine k_callV C (y := yX7_goes) [.int (iI 1), .int (iI 1)] 2 rfl (c_X7_goes (x_l X) (x_G X) mo s sv tx fa ea go qu st ty th un om 1 1 (by omega) (by omega)) gX7_came_X7_goes rfl ⟨rfl, by decide +kernel, by decide +kernel, by decide +kernel⟩ ⟨by decide, by decide⟩ 0 (fs := [.ref s, .int (iI st), .ref sv, .ref tx, .int (iI ty), .int (iI th), .ref fa, .ref ea, .ref go, .ref qu, .int (iI un), .int (iI om)]) rfl rfl rfl [0] (by decide) (wc := [(mo, .inr (6, [.ref s, .int (iI st), .ref sv, .ref tx, .int (iI ty), .int (iI th), .ref fa, .ref ea, .ref go, .ref qu, .int (iI un), .int (iI om)]))]) rfl [] rfl (Nat.le_of_ble_eq_true rfl) ⟨Nat.le_of_ble_eq_true rfl, Nat.le_of_ble_eq_true rfl⟩ dX7_came_11 (fun u11 => [(mo, .inr (6, [.ref s, .int (iI st), .ref sv, .ref tx, .int (iI ty), .int (iI u11.2), .ref fa, .ref ea, .ref go, .ref qu, .int (iI un), .int (iI om)])), (s, .inl (g_I (x_G X), 756, .inl (aI fs))), (ea, .inl (g_I (x_G X), 40, .inl (aI fe)))]) (Or.inr ⟨[1, 2], [2, 0, 1], [(s, .inl (g_I (x_G X), 756, .inl (aI fs))), (ea, .inl (g_I (x_G X), 40, .inl (aI fe)))], rfl, by decide, by decide, by decide, fun _ => rfl⟩) (fun u11 => [.int (iI u11.1)]) (fun _ => rfl) 0 0 ⟨rfl, rfl⟩ (fun u11 hu11 => ?_)
    refine k_if_ne C 19 (⟨by omega, by omega⟩) dX7_came_14 (by decide) (fun c14 => ?_) (fun c14 => ?_)
    · skip
      refine k_iload_n C 1 rfl dX7_came_19 rfl ?_
      refine k_aload_n C 0 rfl dX7_came_20 rfl ?_
      refine k_get C (Cn := RX7) (T := TX7) (N := 12) (ci := 6) (ref := "StruckCountsModel") in_X7_came_X7 0 rfl rfl 0 (by decide) 1 rfl rfl (v := .ref s) rfl dX7_came_21 ?_
      refine k_iconst C dX7_came_24 ?_
      refine k_iald C (f := fs) 1 rfl (⟨by omega, by omega⟩) (by decide) dX7_came_25 ?_
      refine k_nmI (fun v25 e25 => ?_)
      have h25 : v25 = (k : Int) := by rw [e25]; exact m2
      refine k_icmp_lt C 33 (⟨by omega, by omega⟩) (⟨by omega, by omega⟩) dX7_came_26 (by decide) (fun c26 => ?_) (fun c26 => ?_)
      · skip
        refine k_aload_n C 0 rfl dX7_came_33 rfl ?_
        refine k_get C (Cn := RX7) (T := TX7) (N := 12) (ci := 6) (ref := "StruckCountsModel") in_X7_came_X7 0 rfl rfl 0 (by decide) 1 rfl rfl (v := .ref s) rfl dX7_came_34 ?_
        refine k_iconst C dX7_came_37 ?_
        refine k_iload_n C 1 rfl dX7_came_38 rfl ?_
        refine k_iadd C dX7_came_39 ?_
        refine k_nmI (fun v39 e39 => ?_)
        refine k_iald C (f := fs) 1 rfl (⟨by omega, by omega⟩) (by decide) dX7_came_40 ?_
        refine k_nmI (fun v40 e40 => ?_)
        have h40 : v40 = if m.testBit j.toNat = true then 1 else 0 := by rw [e40, show v39.toNat = 42 * 0 + 2 + j.toNat by omega]; exact m3 _ (by omega)
        refine k_iconst C dX7_came_41 ?_
        refine k_icmp_ne C 54 (⟨by omega, by omega⟩) (⟨by omega, by omega⟩) dX7_came_42 (by decide) (fun c42 => ?_) (fun c42 => ?_)
        · skip
          refine k_aload_n C 0 rfl dX7_came_54 rfl ?_
          refine k_get C (Cn := RX7) (T := TX7) (N := 12) (ci := 6) (ref := "StruckCountsModel") in_X7_came_X7 0 rfl rfl 7 (by decide) 2 rfl rfl (v := .ref ea) rfl dX7_came_55 ?_
          refine k_iload_n C 1 rfl dX7_came_58 rfl ?_
          refine k_iald C (f := fe) 2 rfl (⟨by omega, by omega⟩) (by decide) dX7_came_59 ?_
          refine k_nmI (fun v59 e59 => ?_)
          have h59 : v59 = (sp j.toNat : Int) := by rw [e59]; exact hE _ (by omega)
          have hs1 := sp_le (show j.toNat < 65 by omega)
          refine k_ineg C dX7_came_60 ?_
          refine k_nmI (fun v60 e60 => ?_)
          exact k_iret C hR (u := (v60, u11.2)) rfl (by (try dsimp only) <;> exact (Or.inl ⟨by omega, by unfold cmI; rw [if_pos (by omega), if_neg (fun e => by (rw [if_pos e] at h40; omega)), ← h59]; omega, by omega⟩)) rfl (Nat.le_of_ble_eq_true rfl) (Nat.le_of_ble_eq_true rfl) dX7_came_61
        · skip
          refine k_aload_n C 0 rfl dX7_came_45 rfl ?_
          refine k_get C (Cn := RX7) (T := TX7) (N := 12) (ci := 6) (ref := "StruckCountsModel") in_X7_came_X7 0 rfl rfl 7 (by decide) 2 rfl rfl (v := .ref ea) rfl dX7_came_46 ?_
          refine k_iload_n C 1 rfl dX7_came_49 rfl ?_
          refine k_iald C (f := fe) 2 rfl (⟨by omega, by omega⟩) (by decide) dX7_came_50 ?_
          refine k_nmI (fun v50 e50 => ?_)
          have h50 : v50 = (sp j.toNat : Int) := by rw [e50]; exact hE _ (by omega)
          refine k_goto C 61 dX7_came_51 (by decide) ?_
          exact k_iret C hR (u := (v50, u11.2)) rfl (by (try dsimp only) <;> exact (Or.inl ⟨by omega, by unfold cmI; rw [if_pos (by omega), if_pos (by (by_cases e : m.testBit j.toNat = true; (exact e); (rw [if_neg e] at h40; omega)))]; exact h50, by omega⟩)) rfl (Nat.le_of_ble_eq_true rfl) (Nat.le_of_ble_eq_true rfl) dX7_came_61
      · skip
        refine k_iconst C dX7_came_29 ?_
        refine k_goto C 61 dX7_came_30 (by decide) ?_
        exact k_iret C hR (u := (0, u11.2)) rfl (by (try dsimp only) <;> exact (Or.inl ⟨by omega, by unfold cmI; rw [if_neg (by omega)], by omega⟩)) rfl (Nat.le_of_ble_eq_true rfl) (Nat.le_of_ble_eq_true rfl) dX7_came_61
    · exfalso; omega
theorem in_X7_wouldStrike_X7 : ∀ w ∈ wsX70, w ∈ wsX7_wouldStrike := by decide +kernel
set_option maxHeartbeats 4000000 in
set_option maxRecDepth 100000 in
theorem c_X7_wouldStrike (l : Launch) (G : KG) (mo s sv tx fa ea go qu : Nat) (st ty th un om : Int) (n k m : Nat) (q : Int) (fs fe fg fq : Nat → Int) (hM : MS fs 0 n k m) (hE : ∀ i : Nat, i < 40 → fe i = (sp i : Int)) (hq : -2147483648 ≤ q ∧ q < 2147483648) : Ct l G yX7_wouldStrike wsX7_wouldStrike (rmD 2 0 0) [.ref mo, .int (iI q)] [(mo, .inr (6, [.ref s, .int (iI st), .ref sv, .ref tx, .int (iI ty), .int (iI th), .ref fa, .ref ea, .ref go, .ref qu, .int (iI un), .int (iI om)])), (s, .inl (g_I G, 756, .inl (aI fs))), (ea, .inl (g_I G, 40, .inl (aI fe))), (go, .inl (g_Z G, 100000, .inl (aI fg))), (qu, .inl (g_I G, 700, .inl (aI fq)))] (fun u : Int × Int × (Nat → Int) × (Nat → Int) => ((0 ≤ q ∧ q < (SZ n : Int)) ∧ u.1 = wsI n k m q ∧ u.2.1 = 0) ∨ (¬ (0 ≤ q ∧ q < (SZ n : Int)) ∧ u.2.1 = 1)) (fun u : Int × Int × (Nat → Int) × (Nat → Int) => some (.int (iI u.1))) (fun u : Int × Int × (Nat → Int) × (Nat → Int) => [(mo, .inr (6, [.ref s, .int (iI st), .ref sv, .ref tx, .int (iI ty), .int (iI u.2.1), .ref fa, .ref ea, .ref go, .ref qu, .int (iI ((SZ n : Nat) : Int)), .int (iI om)])), (s, .inl (g_I G, 756, .inl (aI fs))), (ea, .inl (g_I G, 40, .inl (aI fe))), (go, .inl (g_Z G, 100000, .inl (aI u.2.2.1))), (qu, .inl (g_I G, 700, .inl (aI u.2.2.2)))]) := by
  refine Ct.of (cc := cX7_wouldStrike) (maxL := 2) (ret := (some .int)) (by decide +kernel) rfl (Nat.le_of_ble_eq_true rfl) ?_
  intro X C hG hL hnm hR
  subst hG
  subst hL
  have C : Cx X cX7_wouldStrike RX7 wsX7_wouldStrike (some .int) 2 (rmD 2 0 0) := C
  obtain ⟨m1, m2, m3, m4⟩ := id hM
  have mk : k ≤ 40 := m4.2.2.1
  have mn1 : 1 ≤ n := m4.1
  have mn2 : n ≤ 99999 := m4.2.1
  have hz2 := SZ_631 mn2
  have hz1 := SZ_pos mn1
  have hrn := nxI_or n k
  show K_ X 0 0 [(mo, .inr (6, [.ref s, .int (iI st), .ref sv, .ref tx, .int (iI ty), .int (iI th), .ref fa, .ref ea, .ref go, .ref qu, .int (iI un), .int (iI om)])), (s, .inl (g_I (x_G X), 756, .inl (aI fs))), (ea, .inl (g_I (x_G X), 40, .inl (aI fe))), (go, .inl (g_Z (x_G X), 100000, .inl (aI fg))), (qu, .inl (g_I (x_G X), 700, .inl (aI fq)))] 0 [(0, .ref mo), (1, .int (iI q))] []
  refine k_aload_n C 0 rfl dX7_wouldStrike_0 rfl ?_
  refine k_aload_n C 0 rfl dX7_wouldStrike_1 rfl ?_
  refine k_iload_n C 1 rfl dX7_wouldStrike_2 rfl ?_
  refine k_callV C (y := yX7_isQuotient) [.int (iI q)] 1 rfl (c_X7_isQuotient (x_l X) (x_G X) mo s sv tx fa ea go qu st ty th un om q n k m fs fq (hM) (by first | assumption | omega)) gX7_wouldStrike_X7_isQuotient rfl ⟨rfl, by decide +kernel, by decide +kernel, by decide +kernel⟩ ⟨by decide, by decide⟩ 0 (fs := [.ref s, .int (iI st), .ref sv, .ref tx, .int (iI ty), .int (iI th), .ref fa, .ref ea, .ref go, .ref qu, .int (iI un), .int (iI om)]) rfl rfl rfl [0, 1, 4] (by decide) (wc := [(mo, .inr (6, [.ref s, .int (iI st), .ref sv, .ref tx, .int (iI ty), .int (iI th), .ref fa, .ref ea, .ref go, .ref qu, .int (iI un), .int (iI om)])), (s, .inl (g_I (x_G X), 756, .inl (aI fs))), (qu, .inl (g_I (x_G X), 700, .inl (aI fq)))]) rfl [.ref mo] rfl (Nat.le_of_ble_eq_true rfl) ⟨Nat.le_of_ble_eq_true rfl, Nat.le_of_ble_eq_true rfl⟩ dX7_wouldStrike_3 (fun u3 => [(mo, .inr (6, [.ref s, .int (iI st), .ref sv, .ref tx, .int (iI ty), .int (iI th), .ref fa, .ref ea, .ref go, .ref qu, .int (iI ((SZ n : Nat) : Int)), .int (iI om)])), (s, .inl (g_I (x_G X), 756, .inl (aI fs))), (ea, .inl (g_I (x_G X), 40, .inl (aI fe))), (go, .inl (g_Z (x_G X), 100000, .inl (aI fg))), (qu, .inl (g_I (x_G X), 700, .inl (aI u3.2)))]) (Or.inr ⟨[2, 3], [2, 3, 0, 1, 4], [(ea, .inl (g_I (x_G X), 40, .inl (aI fe))), (go, .inl (g_Z (x_G X), 100000, .inl (aI fg)))], rfl, by decide, by decide, by decide, fun _ => rfl⟩) (fun u3 => [.int (iI u3.1), .ref mo]) (fun _ => rfl) 0 0 ⟨rfl, rfl⟩ (fun u3 hu3 => ?_)
  refine k_iconst C dX7_wouldStrike_6 ?_
  refine k_callV C (y := yX7_goes) [.int (iI u3.1), .int (iI 1)] 2 rfl (c_X7_goes (x_l X) (x_G X) mo s sv tx fa ea go qu st ty th ((SZ n : Nat) : Int) om u3.1 1 (by omega) (by omega)) gX7_wouldStrike_X7_goes rfl ⟨rfl, by decide +kernel, by decide +kernel, by decide +kernel⟩ ⟨by decide, by decide⟩ 0 (fs := [.ref s, .int (iI st), .ref sv, .ref tx, .int (iI ty), .int (iI th), .ref fa, .ref ea, .ref go, .ref qu, .int (iI ((SZ n : Nat) : Int)), .int (iI om)]) rfl rfl rfl [0] (by decide) (wc := [(mo, .inr (6, [.ref s, .int (iI st), .ref sv, .ref tx, .int (iI ty), .int (iI th), .ref fa, .ref ea, .ref go, .ref qu, .int (iI ((SZ n : Nat) : Int)), .int (iI om)]))]) rfl [] rfl (Nat.le_of_ble_eq_true rfl) ⟨Nat.le_of_ble_eq_true rfl, Nat.le_of_ble_eq_true rfl⟩ dX7_wouldStrike_7 (fun u7 => [(mo, .inr (6, [.ref s, .int (iI st), .ref sv, .ref tx, .int (iI ty), .int (iI u7.2), .ref fa, .ref ea, .ref go, .ref qu, .int (iI ((SZ n : Nat) : Int)), .int (iI om)])), (s, .inl (g_I (x_G X), 756, .inl (aI fs))), (ea, .inl (g_I (x_G X), 40, .inl (aI fe))), (go, .inl (g_Z (x_G X), 100000, .inl (aI fg))), (qu, .inl (g_I (x_G X), 700, .inl (aI u3.2)))]) (Or.inr ⟨[1, 2, 3, 4], [4, 0, 1, 2, 3], [(s, .inl (g_I (x_G X), 756, .inl (aI fs))), (ea, .inl (g_I (x_G X), 40, .inl (aI fe))), (go, .inl (g_Z (x_G X), 100000, .inl (aI fg))), (qu, .inl (g_I (x_G X), 700, .inl (aI u3.2)))], rfl, by decide, by decide, by decide, fun _ => rfl⟩) (fun u7 => [.int (iI u7.1)]) (fun _ => rfl) 0 0 ⟨rfl, rfl⟩ (fun u7 hu7 => ?_)
  refine k_if_ne C 15 (⟨by omega, by omega⟩) dX7_wouldStrike_10 (by decide) (fun c10 => ?_) (fun c10 => ?_)
  · skip
    refine k_aload_n C 0 rfl dX7_wouldStrike_15 rfl ?_
    refine k_iconst C dX7_wouldStrike_16 ?_
    refine k_callV C (y := yX7_lays) [.int (iI 0)] 1 rfl (c_X7_lays (x_l X) (x_G X) mo s sv tx fa ea go qu st ty u7.2 ((SZ n : Nat) : Int) om 0 0 n k m fs fe fg (rfl) (by decide) (hM) (by assumption)) gX7_wouldStrike_X7_lays rfl ⟨rfl, by decide +kernel, by decide +kernel, by decide +kernel⟩ ⟨by decide, by decide⟩ 0 (fs := [.ref s, .int (iI st), .ref sv, .ref tx, .int (iI ty), .int (iI u7.2), .ref fa, .ref ea, .ref go, .ref qu, .int (iI ((SZ n : Nat) : Int)), .int (iI om)]) rfl rfl rfl [0, 1, 2, 3] (by decide) (wc := [(mo, .inr (6, [.ref s, .int (iI st), .ref sv, .ref tx, .int (iI ty), .int (iI u7.2), .ref fa, .ref ea, .ref go, .ref qu, .int (iI ((SZ n : Nat) : Int)), .int (iI om)])), (s, .inl (g_I (x_G X), 756, .inl (aI fs))), (ea, .inl (g_I (x_G X), 40, .inl (aI fe))), (go, .inl (g_Z (x_G X), 100000, .inl (aI fg)))]) rfl [] rfl (Nat.le_of_ble_eq_true rfl) ⟨Nat.le_of_ble_eq_true rfl, Nat.le_of_ble_eq_true rfl⟩ dX7_wouldStrike_17 (fun u17 => [(mo, .inr (6, [.ref s, .int (iI st), .ref sv, .ref tx, .int (iI ty), .int (iI u7.2), .ref fa, .ref ea, .ref go, .ref qu, .int (iI ((SZ n : Nat) : Int)), .int (iI om)])), (s, .inl (g_I (x_G X), 756, .inl (aI fs))), (ea, .inl (g_I (x_G X), 40, .inl (aI fe))), (go, .inl (g_Z (x_G X), 100000, .inl (aI u17))), (qu, .inl (g_I (x_G X), 700, .inl (aI u3.2)))]) (Or.inr ⟨[4], [1, 2, 3, 4, 0], [(qu, .inl (g_I (x_G X), 700, .inl (aI u3.2)))], rfl, by decide, by decide, by decide, fun _ => rfl⟩) (fun u17 => []) (fun _ => rfl) 0 0 ⟨rfl, rfl⟩ (fun u17 hu17 => ?_)
    refine k_aload_n C 0 rfl dX7_wouldStrike_20 rfl ?_
    refine k_iconst C dX7_wouldStrike_21 ?_
    refine k_callV C (y := yX7_next) [.int (iI 0)] 1 rfl (c_X7_next (x_l X) (x_G X) mo s sv tx fa ea go qu st ty u7.2 ((SZ n : Nat) : Int) om 0 0 n k m fs fe (rfl) (by decide) (hM) (by assumption)) gX7_wouldStrike_X7_next rfl ⟨rfl, by decide +kernel, by decide +kernel, by decide +kernel⟩ ⟨by decide, by decide⟩ 0 (fs := [.ref s, .int (iI st), .ref sv, .ref tx, .int (iI ty), .int (iI u7.2), .ref fa, .ref ea, .ref go, .ref qu, .int (iI ((SZ n : Nat) : Int)), .int (iI om)]) rfl rfl rfl [0, 1, 2] (by decide) (wc := [(mo, .inr (6, [.ref s, .int (iI st), .ref sv, .ref tx, .int (iI ty), .int (iI u7.2), .ref fa, .ref ea, .ref go, .ref qu, .int (iI ((SZ n : Nat) : Int)), .int (iI om)])), (s, .inl (g_I (x_G X), 756, .inl (aI fs))), (ea, .inl (g_I (x_G X), 40, .inl (aI fe)))]) rfl [] rfl (Nat.le_of_ble_eq_true rfl) ⟨Nat.le_of_ble_eq_true rfl, Nat.le_of_ble_eq_true rfl⟩ dX7_wouldStrike_22 (fun _ => [(mo, .inr (6, [.ref s, .int (iI st), .ref sv, .ref tx, .int (iI ty), .int (iI u7.2), .ref fa, .ref ea, .ref go, .ref qu, .int (iI ((SZ n : Nat) : Int)), .int (iI om)])), (s, .inl (g_I (x_G X), 756, .inl (aI fs))), (ea, .inl (g_I (x_G X), 40, .inl (aI fe))), (go, .inl (g_Z (x_G X), 100000, .inl (aI u17))), (qu, .inl (g_I (x_G X), 700, .inl (aI u3.2)))]) (Or.inl (fun _ => ⟨rfl, rfl⟩)) (fun u22 => [.int (iI u22)]) (fun _ => rfl) 0 0 ⟨rfl, rfl⟩ (fun u22 hu22 => ?_)
    refine k_if_ge C 32 (by rw [hu22]; omega) dX7_wouldStrike_25 (by decide) (fun c25 => ?_) (fun c25 => ?_)
    · skip
      have hnn : ¬ nxI n k = -1 := by omega
      obtain ⟨y2, y3, y1⟩ := nxI_some hnn
      have hs1 := sp_le (show k < 65 by omega)
      have hs2 := sp_ge2 (show k < 65 by omega)
      refine k_aload_n C 0 rfl dX7_wouldStrike_32 rfl ?_
      refine k_aload_n C 0 rfl dX7_wouldStrike_33 rfl ?_
      refine k_get C (Cn := RX7) (T := TX7) (N := 12) (ci := 6) (ref := "StruckCountsModel") in_X7_wouldStrike_X7 0 rfl rfl 9 (by decide) 1 rfl rfl (v := .ref qu) rfl dX7_wouldStrike_34 ?_
      refine k_iload_n C 1 rfl dX7_wouldStrike_37 rfl ?_
      refine k_iald C (f := u3.2) 4 rfl (⟨by omega, by omega⟩) (by decide) dX7_wouldStrike_38 ?_
      refine k_nmI (fun v38 e38 => ?_)
      have h38 : v38 = (qv n q.toNat : Int) := by rw [e38]; exact hu3.2 _ (by omega)
      have hqp := qv_pos mn1 (q := q.toNat) (by omega)
      refine k_aload_n C 0 rfl dX7_wouldStrike_39 rfl ?_
      refine k_iconst C dX7_wouldStrike_40 ?_
      refine k_callV C (y := yX7_next) [.int (iI 0)] 1 rfl (c_X7_next (x_l X) (x_G X) mo s sv tx fa ea go qu st ty u7.2 ((SZ n : Nat) : Int) om 0 0 n k m fs fe (rfl) (by decide) (hM) (by assumption)) gX7_wouldStrike_X7_next rfl ⟨rfl, by decide +kernel, by decide +kernel, by decide +kernel⟩ ⟨by decide, by decide⟩ 0 (fs := [.ref s, .int (iI st), .ref sv, .ref tx, .int (iI ty), .int (iI u7.2), .ref fa, .ref ea, .ref go, .ref qu, .int (iI ((SZ n : Nat) : Int)), .int (iI om)]) rfl rfl rfl [0, 1, 2] (by decide) (wc := [(mo, .inr (6, [.ref s, .int (iI st), .ref sv, .ref tx, .int (iI ty), .int (iI u7.2), .ref fa, .ref ea, .ref go, .ref qu, .int (iI ((SZ n : Nat) : Int)), .int (iI om)])), (s, .inl (g_I (x_G X), 756, .inl (aI fs))), (ea, .inl (g_I (x_G X), 40, .inl (aI fe)))]) rfl [.int (iI v38), .ref mo] rfl (Nat.le_of_ble_eq_true rfl) ⟨Nat.le_of_ble_eq_true rfl, Nat.le_of_ble_eq_true rfl⟩ dX7_wouldStrike_41 (fun _ => [(mo, .inr (6, [.ref s, .int (iI st), .ref sv, .ref tx, .int (iI ty), .int (iI u7.2), .ref fa, .ref ea, .ref go, .ref qu, .int (iI ((SZ n : Nat) : Int)), .int (iI om)])), (s, .inl (g_I (x_G X), 756, .inl (aI fs))), (ea, .inl (g_I (x_G X), 40, .inl (aI fe))), (go, .inl (g_Z (x_G X), 100000, .inl (aI u17))), (qu, .inl (g_I (x_G X), 700, .inl (aI u3.2)))]) (Or.inl (fun _ => ⟨rfl, rfl⟩)) (fun u41 => [.int (iI u41), .int (iI v38), .ref mo]) (fun _ => rfl) 0 0 ⟨rfl, rfl⟩ (fun u41 hu41 => ?_)
      refine k_callV C (y := yX7_leftBy) [.int (iI v38), .int (iI u41)] 2 rfl (c_X7_leftBy (x_l X) (x_G X) mo s sv tx fa ea go qu st ty u7.2 ((SZ n : Nat) : Int) om v38 u41 (qv n q.toNat) (sp k) n k m u17 (h38) (by rw [hu41]; exact y1) (by omega) (hqp.2) (mn2) (hu17)) gX7_wouldStrike_X7_leftBy rfl ⟨rfl, by decide +kernel, by decide +kernel, by decide +kernel⟩ ⟨by decide, by decide⟩ 0 (fs := [.ref s, .int (iI st), .ref sv, .ref tx, .int (iI ty), .int (iI u7.2), .ref fa, .ref ea, .ref go, .ref qu, .int (iI ((SZ n : Nat) : Int)), .int (iI om)]) rfl rfl rfl [0, 3] (by decide) (wc := [(mo, .inr (6, [.ref s, .int (iI st), .ref sv, .ref tx, .int (iI ty), .int (iI u7.2), .ref fa, .ref ea, .ref go, .ref qu, .int (iI ((SZ n : Nat) : Int)), .int (iI om)])), (go, .inl (g_Z (x_G X), 100000, .inl (aI u17)))]) rfl [] rfl (Nat.le_of_ble_eq_true rfl) ⟨Nat.le_of_ble_eq_true rfl, Nat.le_of_ble_eq_true rfl⟩ dX7_wouldStrike_44 (fun _ => [(mo, .inr (6, [.ref s, .int (iI st), .ref sv, .ref tx, .int (iI ty), .int (iI u7.2), .ref fa, .ref ea, .ref go, .ref qu, .int (iI ((SZ n : Nat) : Int)), .int (iI om)])), (s, .inl (g_I (x_G X), 756, .inl (aI fs))), (ea, .inl (g_I (x_G X), 40, .inl (aI fe))), (go, .inl (g_Z (x_G X), 100000, .inl (aI u17))), (qu, .inl (g_I (x_G X), 700, .inl (aI u3.2)))]) (Or.inl (fun _ => ⟨rfl, rfl⟩)) (fun u44 => [.int (iI u44)]) (fun _ => rfl) 0 0 ⟨rfl, rfl⟩ (fun u44 hu44 => ?_)
      rw [mP_cA mk rfl] at hu44
      exact k_iret C hR (u := (u44, u7.2, u17, u3.2)) rfl (by (try dsimp only) <;> exact (Or.inl ⟨by omega, by unfold wsI; rw [if_neg hnn]; exact hu44, by omega⟩)) rfl (Nat.le_of_ble_eq_true rfl) (Nat.le_of_ble_eq_true rfl) dX7_wouldStrike_47
    · skip
      refine k_iconst C dX7_wouldStrike_28 ?_
      refine k_goto C 47 dX7_wouldStrike_29 (by decide) ?_
      exact k_iret C hR (u := (0, u7.2, u17, u3.2)) rfl (by (try dsimp only) <;> exact (Or.inl ⟨by omega, by unfold wsI; rw [if_pos (by omega)], by omega⟩)) rfl (Nat.le_of_ble_eq_true rfl) (Nat.le_of_ble_eq_true rfl) dX7_wouldStrike_47
  · skip
    refine k_iconst C dX7_wouldStrike_13 ?_
    exact k_iret C hR (u := (0, u7.2, fg, u3.2)) rfl (by (try dsimp only) <;> exact (Or.inr ⟨by omega, by omega⟩)) rfl (Nat.le_of_ble_eq_true rfl) (Nat.le_of_ble_eq_true rfl) dX7_wouldStrike_14
theorem in_X7_howMany_X7 : ∀ w ∈ wsX70, w ∈ wsX7_howMany := by decide +kernel
set_option maxHeartbeats 4000000 in
set_option maxRecDepth 100000 in
theorem c_X7_howMany (l : Launch) (G : KG) (mo s sv tx fa ea go qu : Nat) (st ty th un om : Int) (n k m : Nat) (w : Int) (fs : Nat → Int) (hM : MS fs 0 n k m) (hw : w = 0 ∨ w = 1) : Ct l G yX7_howMany wsX7_howMany (rmD 0 0 0) [.ref mo, .int (iI w)] [(mo, .inr (6, [.ref s, .int (iI st), .ref sv, .ref tx, .int (iI ty), .int (iI th), .ref fa, .ref ea, .ref go, .ref qu, .int (iI un), .int (iI om)])), (s, .inl (g_I G, 756, .inl (aI fs)))] (fun u : Int => u = hmI w m k) (fun u : Int => some (.int (iI u))) (fun u : Int => [(mo, .inr (6, [.ref s, .int (iI st), .ref sv, .ref tx, .int (iI ty), .int (iI th), .ref fa, .ref ea, .ref go, .ref qu, .int (iI un), .int (iI om)])), (s, .inl (g_I G, 756, .inl (aI fs)))]) := by
  refine Ct.of (cc := cX7_howMany) (maxL := 4) (ret := (some .int)) (by decide +kernel) rfl (Nat.le_of_ble_eq_true rfl) ?_
  intro X C hG hL hnm hR
  subst hG
  subst hL
  have C : Cx X cX7_howMany RX7 wsX7_howMany (some .int) 4 (rmD 0 0 0) := C
  obtain ⟨m1, m2, m3, m4⟩ := id hM
  have mk : k ≤ 40 := m4.2.2.1
  have mn1 : 1 ≤ n := m4.1
  have mn2 : n ≤ 99999 := m4.2.1
  have hz2 := SZ_631 mn2
  have hz1 := SZ_pos mn1
  show K_ X 0 0 [(mo, .inr (6, [.ref s, .int (iI st), .ref sv, .ref tx, .int (iI ty), .int (iI th), .ref fa, .ref ea, .ref go, .ref qu, .int (iI un), .int (iI om)])), (s, .inl (g_I (x_G X), 756, .inl (aI fs)))] 0 [(0, .ref mo), (1, .int (iI w))] []
  refine k_iconst C dX7_howMany_0 ?_
  refine k_istore_n C (lo' := [(2, .int (iI 0)), (0, .ref mo), (1, .int (iI w))]) dX7_howMany_1 rfl (by decide) rfl ?_
  refine k_iconst C dX7_howMany_2 ?_
  refine k_istore_n C (lo' := [(3, .int (iI 0)), (2, .int (iI 0)), (0, .ref mo), (1, .int (iI w))]) dX7_howMany_3 rfl (by decide) rfl ?_
  have L4 : ∀ (nf : Nat) (c : Int) (i : Int), (0 ≤ i ∧ i ≤ (k : Int) ∧ c = hmI w m i.toNat) → ((k : Int) - i).toNat < nf → K_ X 0 0 [(mo, .inr (6, [.ref s, .int (iI st), .ref sv, .ref tx, .int (iI ty), .int (iI th), .ref fa, .ref ea, .ref go, .ref qu, .int (iI un), .int (iI om)])), (s, .inl (g_I (x_G X), 756, .inl (aI fs)))] 4 [(3, .int (iI i)), (2, .int (iI c)), (0, .ref mo), (1, .int (iI w))] [] := by
    intro nf
    induction nf with
    | zero => intro c i hI hm; exact absurd hm (Nat.not_lt_zero _)
    | succ nf ih4 =>
      intro c i hI4 hm4
      obtain ⟨i1, i2, i3⟩ := hI4
      have hhr := hmI_rng (w := w) (m := m) (j := i.toNat)
      refine k_iload_n C 0 rfl dX7_howMany_4 rfl ?_
      refine k_aload_n C 2 rfl dX7_howMany_5 rfl ?_
      refine k_get C (Cn := RX7) (T := TX7) (N := 12) (ci := 6) (ref := "StruckCountsModel") in_X7_howMany_X7 0 rfl rfl 0 (by decide) 1 rfl rfl (v := .ref s) rfl dX7_howMany_6 ?_
      refine k_iconst C dX7_howMany_9 ?_
      refine k_iald C (f := fs) 1 rfl (⟨by omega, by omega⟩) (by decide) dX7_howMany_10 ?_
      refine k_nmI (fun v10 e10 => ?_)
      have h10 : v10 = (k : Int) := by rw [e10]; exact m2
      refine k_icmp_ge C 40 (⟨by omega, by omega⟩) (⟨by omega, by omega⟩) dX7_howMany_11 (by decide) (fun c11 => ?_) (fun c11 => ?_)
      · skip
        refine k_iload_n C 1 rfl dX7_howMany_40 rfl ?_
        exact k_iret C hR (u := c) rfl (by rw [i3, show i.toNat = k by omega]) rfl (Nat.le_of_ble_eq_true rfl) (Nat.le_of_ble_eq_true rfl) dX7_howMany_41
      · skip
        refine k_iload_n C 1 rfl dX7_howMany_14 rfl ?_
        refine k_aload_n C 2 rfl dX7_howMany_15 rfl ?_
        refine k_get C (Cn := RX7) (T := TX7) (N := 12) (ci := 6) (ref := "StruckCountsModel") in_X7_howMany_X7 0 rfl rfl 0 (by decide) 1 rfl rfl (v := .ref s) rfl dX7_howMany_16 ?_
        refine k_iconst C dX7_howMany_19 ?_
        refine k_iload_n C 0 rfl dX7_howMany_20 rfl ?_
        refine k_iadd C dX7_howMany_21 ?_
        refine k_nmI (fun v21 e21 => ?_)
        refine k_iald C (f := fs) 1 rfl (⟨by omega, by omega⟩) (by decide) dX7_howMany_22 ?_
        refine k_nmI (fun v22 e22 => ?_)
        have h22 : v22 = if m.testBit i.toNat = true then 1 else 0 := by rw [e22, show v21.toNat = 42 * 0 + 2 + i.toNat by omega]; exact m3 _ (by omega)
        have h22b : 0 ≤ v22 ∧ v22 ≤ 1 := by rw [h22]; split <;> omega
        refine k_iload_n C 3 rfl dX7_howMany_23 rfl ?_
        refine k_icmp_ne C 31 (⟨by omega, by omega⟩) (⟨by omega, by omega⟩) dX7_howMany_24 (by decide) (fun c24 => ?_) (fun c24 => ?_)
        · skip
          have hnx := hmI_n hw h22 (by omega)
          refine k_iconst C dX7_howMany_31 ?_
          refine k_iadd C dX7_howMany_32 ?_
          refine k_nmI (fun v32 e32 => ?_)
          refine k_istore_n C (lo' := [(2, .int (iI v32)), (3, .int (iI i)), (0, .ref mo), (1, .int (iI w))]) dX7_howMany_33 rfl (by decide) rfl ?_
          obtain ⟨v34, e34⟩ : ∃ y : Int, y = i + 1 := ⟨_, rfl⟩
          refine k_iinc C (lo' := [(3, .int (iI v34)), (2, .int (iI v32)), (0, .ref mo), (1, .int (iI w))]) 1 rfl dX7_howMany_34 (by decide) v34 e34 rfl ?_
          refine k_goto C 4 dX7_howMany_37 (by decide) ?_
          exact ih4 v32 v34 (⟨by omega, by omega, by rw [show v34.toNat = i.toNat + 1 by omega, hnx]; omega⟩) (by omega)
        · skip
          have hnx := hmI_y hw h22 (by omega)
          refine k_iconst C dX7_howMany_27 ?_
          refine k_goto C 32 dX7_howMany_28 (by decide) ?_
          refine k_iadd C dX7_howMany_32 ?_
          refine k_nmI (fun v32 e32 => ?_)
          refine k_istore_n C (lo' := [(2, .int (iI v32)), (3, .int (iI i)), (0, .ref mo), (1, .int (iI w))]) dX7_howMany_33 rfl (by decide) rfl ?_
          obtain ⟨v34, e34⟩ : ∃ y : Int, y = i + 1 := ⟨_, rfl⟩
          refine k_iinc C (lo' := [(3, .int (iI v34)), (2, .int (iI v32)), (0, .ref mo), (1, .int (iI w))]) 1 rfl dX7_howMany_34 (by decide) v34 e34 rfl ?_
          refine k_goto C 4 dX7_howMany_37 (by decide) ?_
          exact ih4 v32 v34 (⟨by omega, by omega, by rw [show v34.toNat = i.toNat + 1 by omega, hnx]; omega⟩) (by omega)
  exact L4 _ 0 0 (⟨by omega, by omega, by unfold hmI; split <;> rfl⟩) (Nat.lt_succ_self _)
theorem in_X7_about_X7 : ∀ w ∈ wsX70, w ∈ wsX7_about := by decide +kernel
set_option maxHeartbeats 4000000 in
set_option maxRecDepth 100000 in
theorem c_X7_about (l : Launch) (G : KG) (mo s sv tx fa ea go qu : Nat) (st ty th un om : Int) (n k m : Nat) (w : Int) (fs fe fg fq : Nat → Int) (hM : MS fs 0 n k m) (hE : ∀ i : Nat, i < 40 → fe i = (sp i : Int)) (hw : -2147483648 ≤ w ∧ w < 2147483648) : Ct l G yX7_about wsX7_about (rmD 2 0 0) [.ref mo, .int (iI w)] [(mo, .inr (6, [.ref s, .int (iI st), .ref sv, .ref tx, .int (iI ty), .int (iI th), .ref fa, .ref ea, .ref go, .ref qu, .int (iI un), .int (iI om)])), (s, .inl (g_I G, 756, .inl (aI fs))), (ea, .inl (g_I G, 40, .inl (aI fe))), (go, .inl (g_Z G, 100000, .inl (aI fg))), (qu, .inl (g_I G, 700, .inl (aI fq)))] (fun u : Int × Int × Int × (Nat → Int) × (Nat → Int) => ((0 ≤ w ∧ w ≤ 6) ∧ u.1 = abI n k m w ∧ u.2.1 = 0) ∨ (¬ (0 ≤ w ∧ w ≤ 6) ∧ u.2.1 = 1)) (fun u : Int × Int × Int × (Nat → Int) × (Nat → Int) => some (.int (iI u.1))) (fun u : Int × Int × Int × (Nat → Int) × (Nat → Int) => [(mo, .inr (6, [.ref s, .int (iI st), .ref sv, .ref tx, .int (iI ty), .int (iI u.2.1), .ref fa, .ref ea, .ref go, .ref qu, .int (iI u.2.2.1), .int (iI om)])), (s, .inl (g_I G, 756, .inl (aI fs))), (ea, .inl (g_I G, 40, .inl (aI fe))), (go, .inl (g_Z G, 100000, .inl (aI u.2.2.2.1))), (qu, .inl (g_I G, 700, .inl (aI u.2.2.2.2)))]) := by
  refine Ct.of (cc := cX7_about) (maxL := 2) (ret := (some .int)) (by decide +kernel) rfl (Nat.le_of_ble_eq_true rfl) ?_
  intro X C hG hL hnm hR
  subst hG
  subst hL
  have C : Cx X cX7_about RX7 wsX7_about (some .int) 2 (rmD 2 0 0) := C
  obtain ⟨m1, m2, m3, m4⟩ := id hM
  have mk : k ≤ 40 := m4.2.2.1
  have mn1 : 1 ≤ n := m4.1
  have mn2 : n ≤ 99999 := m4.2.1
  have hz2 := SZ_631 mn2
  have hz1 := SZ_pos mn1
  show K_ X 0 0 [(mo, .inr (6, [.ref s, .int (iI st), .ref sv, .ref tx, .int (iI ty), .int (iI th), .ref fa, .ref ea, .ref go, .ref qu, .int (iI un), .int (iI om)])), (s, .inl (g_I (x_G X), 756, .inl (aI fs))), (ea, .inl (g_I (x_G X), 40, .inl (aI fe))), (go, .inl (g_Z (x_G X), 100000, .inl (aI fg))), (qu, .inl (g_I (x_G X), 700, .inl (aI fq)))] 0 [(0, .ref mo), (1, .int (iI w))] []
  refine k_aload_n C 0 rfl dX7_about_0 rfl ?_
  refine k_iload_n C 1 rfl dX7_about_1 rfl ?_
  refine k_iconst C dX7_about_2 ?_
  refine k_bipush C dX7_about_3 (by decide) ?_
  refine k_callS C (y := yX7_in) [.int (iI w), .int (iI 0), .int (iI 6)] 3 rfl (c_X7_in (x_l X) (x_G X) w 0 6 (by omega) (by omega) (by omega)) gX7_about_X7_in rfl ⟨by decide +kernel, by decide +kernel, by decide +kernel⟩ ⟨by decide, by decide⟩ [] (by decide) (wc := []) rfl [.ref mo] rfl (Nat.le_of_ble_eq_true rfl) ⟨Nat.le_of_ble_eq_true rfl, Nat.le_of_ble_eq_true rfl⟩ dX7_about_5 (fun _ => [(mo, .inr (6, [.ref s, .int (iI st), .ref sv, .ref tx, .int (iI ty), .int (iI th), .ref fa, .ref ea, .ref go, .ref qu, .int (iI un), .int (iI om)])), (s, .inl (g_I (x_G X), 756, .inl (aI fs))), (ea, .inl (g_I (x_G X), 40, .inl (aI fe))), (go, .inl (g_Z (x_G X), 100000, .inl (aI fg))), (qu, .inl (g_I (x_G X), 700, .inl (aI fq)))]) (Or.inl (fun _ => ⟨rfl, rfl⟩)) (fun u5 => [.int (iI u5), .ref mo]) (fun _ => rfl) 0 0 ⟨rfl, rfl⟩ (fun u5 hu5 => ?_)
  refine k_iconst C dX7_about_8 ?_
  refine k_callV C (y := yX7_goes) [.int (iI u5), .int (iI 1)] 2 rfl (c_X7_goes (x_l X) (x_G X) mo s sv tx fa ea go qu st ty th un om u5 1 (by omega) (by omega)) gX7_about_X7_goes rfl ⟨rfl, by decide +kernel, by decide +kernel, by decide +kernel⟩ ⟨by decide, by decide⟩ 0 (fs := [.ref s, .int (iI st), .ref sv, .ref tx, .int (iI ty), .int (iI th), .ref fa, .ref ea, .ref go, .ref qu, .int (iI un), .int (iI om)]) rfl rfl rfl [0] (by decide) (wc := [(mo, .inr (6, [.ref s, .int (iI st), .ref sv, .ref tx, .int (iI ty), .int (iI th), .ref fa, .ref ea, .ref go, .ref qu, .int (iI un), .int (iI om)]))]) rfl [] rfl (Nat.le_of_ble_eq_true rfl) ⟨Nat.le_of_ble_eq_true rfl, Nat.le_of_ble_eq_true rfl⟩ dX7_about_9 (fun u9 => [(mo, .inr (6, [.ref s, .int (iI st), .ref sv, .ref tx, .int (iI ty), .int (iI u9.2), .ref fa, .ref ea, .ref go, .ref qu, .int (iI un), .int (iI om)])), (s, .inl (g_I (x_G X), 756, .inl (aI fs))), (ea, .inl (g_I (x_G X), 40, .inl (aI fe))), (go, .inl (g_Z (x_G X), 100000, .inl (aI fg))), (qu, .inl (g_I (x_G X), 700, .inl (aI fq)))]) (Or.inr ⟨[1, 2, 3, 4], [4, 0, 1, 2, 3], [(s, .inl (g_I (x_G X), 756, .inl (aI fs))), (ea, .inl (g_I (x_G X), 40, .inl (aI fe))), (go, .inl (g_Z (x_G X), 100000, .inl (aI fg))), (qu, .inl (g_I (x_G X), 700, .inl (aI fq)))], rfl, by decide, by decide, by decide, fun _ => rfl⟩) (fun u9 => [.int (iI u9.1)]) (fun _ => rfl) 0 0 ⟨rfl, rfl⟩ (fun u9 hu9 => ?_)
  refine k_if_ne C 17 (⟨by omega, by omega⟩) dX7_about_12 (by decide) (fun c12 => ?_) (fun c12 => ?_)
  · skip
    refine k_aload_n C 0 rfl dX7_about_17 rfl ?_
    refine k_iconst C dX7_about_18 ?_
    refine k_callV C (y := yX7_divides) [.int (iI 0)] 1 rfl (c_X7_divides (x_l X) (x_G X) mo s sv tx fa ea go qu st ty u9.2 un om 0 0 n k m fs fq (rfl) (by decide) (hM)) gX7_about_X7_divides rfl ⟨rfl, by decide +kernel, by decide +kernel, by decide +kernel⟩ ⟨by decide, by decide⟩ 0 (fs := [.ref s, .int (iI st), .ref sv, .ref tx, .int (iI ty), .int (iI u9.2), .ref fa, .ref ea, .ref go, .ref qu, .int (iI un), .int (iI om)]) rfl rfl rfl [0, 1, 4] (by decide) (wc := [(mo, .inr (6, [.ref s, .int (iI st), .ref sv, .ref tx, .int (iI ty), .int (iI u9.2), .ref fa, .ref ea, .ref go, .ref qu, .int (iI un), .int (iI om)])), (s, .inl (g_I (x_G X), 756, .inl (aI fs))), (qu, .inl (g_I (x_G X), 700, .inl (aI fq)))]) rfl [] rfl (Nat.le_of_ble_eq_true rfl) ⟨Nat.le_of_ble_eq_true rfl, Nat.le_of_ble_eq_true rfl⟩ dX7_about_19 (fun u19 => [(mo, .inr (6, [.ref s, .int (iI st), .ref sv, .ref tx, .int (iI ty), .int (iI u9.2), .ref fa, .ref ea, .ref go, .ref qu, .int (iI ((SZ n : Nat) : Int)), .int (iI om)])), (s, .inl (g_I (x_G X), 756, .inl (aI fs))), (ea, .inl (g_I (x_G X), 40, .inl (aI fe))), (go, .inl (g_Z (x_G X), 100000, .inl (aI fg))), (qu, .inl (g_I (x_G X), 700, .inl (aI u19)))]) (Or.inr ⟨[2, 3], [2, 3, 0, 1, 4], [(ea, .inl (g_I (x_G X), 40, .inl (aI fe))), (go, .inl (g_Z (x_G X), 100000, .inl (aI fg)))], rfl, by decide, by decide, by decide, fun _ => rfl⟩) (fun u19 => []) (fun _ => rfl) 0 0 ⟨rfl, rfl⟩ (fun u19 hu19 => ?_)
    refine k_iload_n C 1 rfl dX7_about_22 rfl ?_
    rcases (show (w < 0 ∨ 5 < w) ∨ (w = 0) ∨ (w = 1) ∨ (w = 2) ∨ (w = 3) ∨ (w = 4) ∨ (w = 5) by omega) with c23 | c23 | c23 | c23 | c23 | c23 | c23
    · refine k_tabOut C 96 (⟨by omega, by omega⟩) dX7_about_23 c23 (by decide) ?_
      refine k_aload_n C 0 rfl dX7_about_96 rfl ?_
      refine k_get C (Cn := RX7) (T := TX7) (N := 12) (ci := 6) (ref := "StruckCountsModel") in_X7_about_X7 0 rfl rfl 0 (by decide) 1 rfl rfl (v := .ref s) rfl dX7_about_97 ?_
      refine k_iconst C dX7_about_100 ?_
      refine k_iald C (f := fs) 1 rfl (⟨by omega, by omega⟩) (by decide) dX7_about_101 ?_
      refine k_nmI (fun v101 e101 => ?_)
      have h101 : v101 = (k : Int) := by rw [e101]; exact m2
      refine k_if_ne C 109 (⟨by omega, by omega⟩) dX7_about_102 (by decide) (fun c102 => ?_) (fun c102 => ?_)
      · skip
        refine k_aload_n C 0 rfl dX7_about_109 rfl ?_
        refine k_get C (Cn := RX7) (T := TX7) (N := 12) (ci := 6) (ref := "StruckCountsModel") in_X7_about_X7 0 rfl rfl 7 (by decide) 3 rfl rfl (v := .ref ea) rfl dX7_about_110 ?_
        refine k_aload_n C 0 rfl dX7_about_113 rfl ?_
        refine k_get C (Cn := RX7) (T := TX7) (N := 12) (ci := 6) (ref := "StruckCountsModel") in_X7_about_X7 0 rfl rfl 0 (by decide) 1 rfl rfl (v := .ref s) rfl dX7_about_114 ?_
        refine k_iconst C dX7_about_117 ?_
        refine k_iald C (f := fs) 1 rfl (⟨by omega, by omega⟩) (by decide) dX7_about_118 ?_
        refine k_nmI (fun v118 e118 => ?_)
        have h118 : v118 = (k : Int) := by rw [e118]; exact m2
        refine k_iconst C dX7_about_119 ?_
        refine k_isub C dX7_about_120 ?_
        refine k_nmI (fun v120 e120 => ?_)
        refine k_iald C (f := fe) 2 rfl (⟨by omega, by omega⟩) (by decide) dX7_about_121 ?_
        refine k_nmI (fun v121 e121 => ?_)
        have h121 : v121 = (sp (k - 1) : Int) := by rw [e121, show v120.toNat = k - 1 by omega]; exact hE _ (by omega)
        exact k_iret C hR (u := (v121, u9.2, ((SZ n : Nat) : Int), fg, u19)) rfl (by (try dsimp only) <;> exact (Or.inl ⟨by omega, by rw [ab_6 (by omega), show (k : Int) - 1 = ((k - 1 : Nat) : Int) by omega, pA_in (by omega)]; exact h121, by omega⟩)) rfl (Nat.le_of_ble_eq_true rfl) (Nat.le_of_ble_eq_true rfl) dX7_about_122
      · skip
        refine k_iconst C dX7_about_105 ?_
        refine k_goto C 122 dX7_about_106 (by decide) ?_
        exact k_iret C hR (u := ((-1), u9.2, ((SZ n : Nat) : Int), fg, u19)) rfl (by (try dsimp only) <;> exact (Or.inl ⟨by omega, by rw [ab_6 (by omega), show (k : Int) - 1 = -1 by omega]; rfl, by omega⟩)) rfl (Nat.le_of_ble_eq_true rfl) (Nat.le_of_ble_eq_true rfl) dX7_about_122
    · refine k_tabIn C 60 (⟨by omega, by omega⟩) dX7_about_23 (by omega) (by omega) (by rw [c23]; rfl) (by decide) ?_
      refine k_aload_n C 0 rfl dX7_about_60 rfl ?_
      refine k_get C (Cn := RX7) (T := TX7) (N := 12) (ci := 6) (ref := "StruckCountsModel") in_X7_about_X7 0 rfl rfl 0 (by decide) 1 rfl rfl (v := .ref s) rfl dX7_about_61 ?_
      refine k_iconst C dX7_about_64 ?_
      refine k_iald C (f := fs) 1 rfl (⟨by omega, by omega⟩) (by decide) dX7_about_65 ?_
      refine k_nmI (fun v65 e65 => ?_)
      have h65 : v65 = (n : Int) := by rw [e65]; exact m1
      exact k_iret C hR (u := (v65, u9.2, ((SZ n : Nat) : Int), fg, u19)) rfl (by (try dsimp only) <;> exact (Or.inl ⟨by omega, by rw [c23]; exact h65, by omega⟩)) rfl (Nat.le_of_ble_eq_true rfl) (Nat.le_of_ble_eq_true rfl) dX7_about_66
    · refine k_tabIn C 67 (⟨by omega, by omega⟩) dX7_about_23 (by omega) (by omega) (by rw [c23]; rfl) (by decide) ?_
      refine k_aload_n C 0 rfl dX7_about_67 rfl ?_
      refine k_get C (Cn := RX7) (T := TX7) (N := 12) (ci := 6) (ref := "StruckCountsModel") in_X7_about_X7 0 rfl rfl 10 (by decide) 2 rfl rfl (v := .int (iI ((SZ n : Nat) : Int))) rfl dX7_about_68 ?_
      exact k_iret C hR (u := (((SZ n : Nat) : Int), u9.2, ((SZ n : Nat) : Int), fg, u19)) rfl (by (try dsimp only) <;> exact (Or.inl ⟨by omega, by rw [c23]; rfl, by omega⟩)) rfl (Nat.le_of_ble_eq_true rfl) (Nat.le_of_ble_eq_true rfl) dX7_about_71
    · refine k_tabIn C 72 (⟨by omega, by omega⟩) dX7_about_23 (by omega) (by omega) (by rw [c23]; rfl) (by decide) ?_
      refine k_aload_n C 0 rfl dX7_about_72 rfl ?_
      refine k_iconst C dX7_about_73 ?_
      refine k_callV C (y := yX7_howMany) [.int (iI 1)] 1 rfl (c_X7_howMany (x_l X) (x_G X) mo s sv tx fa ea go qu st ty u9.2 ((SZ n : Nat) : Int) om n k m 1 fs (by first | assumption | omega) (by first | assumption | omega)) gX7_about_X7_howMany rfl ⟨rfl, by decide +kernel, by decide +kernel, by decide +kernel⟩ ⟨by decide, by decide⟩ 0 (fs := [.ref s, .int (iI st), .ref sv, .ref tx, .int (iI ty), .int (iI u9.2), .ref fa, .ref ea, .ref go, .ref qu, .int (iI ((SZ n : Nat) : Int)), .int (iI om)]) rfl rfl rfl [0, 1] (by decide) (wc := [(mo, .inr (6, [.ref s, .int (iI st), .ref sv, .ref tx, .int (iI ty), .int (iI u9.2), .ref fa, .ref ea, .ref go, .ref qu, .int (iI ((SZ n : Nat) : Int)), .int (iI om)])), (s, .inl (g_I (x_G X), 756, .inl (aI fs)))]) rfl [] rfl (Nat.le_of_ble_eq_true rfl) ⟨Nat.le_of_ble_eq_true rfl, Nat.le_of_ble_eq_true rfl⟩ dX7_about_74 (fun _ => [(mo, .inr (6, [.ref s, .int (iI st), .ref sv, .ref tx, .int (iI ty), .int (iI u9.2), .ref fa, .ref ea, .ref go, .ref qu, .int (iI ((SZ n : Nat) : Int)), .int (iI om)])), (s, .inl (g_I (x_G X), 756, .inl (aI fs))), (ea, .inl (g_I (x_G X), 40, .inl (aI fe))), (go, .inl (g_Z (x_G X), 100000, .inl (aI fg))), (qu, .inl (g_I (x_G X), 700, .inl (aI u19)))]) (Or.inl (fun _ => ⟨rfl, rfl⟩)) (fun u74 => [.int (iI u74)]) (fun _ => rfl) 0 0 ⟨rfl, rfl⟩ (fun u74 hu74 => ?_)
      exact k_iret C hR (u := (u74, u9.2, ((SZ n : Nat) : Int), fg, u19)) rfl (by (try dsimp only) <;> exact (Or.inl ⟨by omega, by rw [c23, hu74]; show (popk m k : Int) = (popc m : Int); rw [popk_popc mk m4.2.2.2], by omega⟩)) rfl (Nat.le_of_ble_eq_true rfl) (Nat.le_of_ble_eq_true rfl) dX7_about_77
    · refine k_tabIn C 78 (⟨by omega, by omega⟩) dX7_about_23 (by omega) (by omega) (by rw [c23]; rfl) (by decide) ?_
      refine k_aload_n C 0 rfl dX7_about_78 rfl ?_
      refine k_iconst C dX7_about_79 ?_
      refine k_callV C (y := yX7_howMany) [.int (iI 0)] 1 rfl (c_X7_howMany (x_l X) (x_G X) mo s sv tx fa ea go qu st ty u9.2 ((SZ n : Nat) : Int) om n k m 0 fs (by first | assumption | omega) (by first | assumption | omega)) gX7_about_X7_howMany rfl ⟨rfl, by decide +kernel, by decide +kernel, by decide +kernel⟩ ⟨by decide, by decide⟩ 0 (fs := [.ref s, .int (iI st), .ref sv, .ref tx, .int (iI ty), .int (iI u9.2), .ref fa, .ref ea, .ref go, .ref qu, .int (iI ((SZ n : Nat) : Int)), .int (iI om)]) rfl rfl rfl [0, 1] (by decide) (wc := [(mo, .inr (6, [.ref s, .int (iI st), .ref sv, .ref tx, .int (iI ty), .int (iI u9.2), .ref fa, .ref ea, .ref go, .ref qu, .int (iI ((SZ n : Nat) : Int)), .int (iI om)])), (s, .inl (g_I (x_G X), 756, .inl (aI fs)))]) rfl [] rfl (Nat.le_of_ble_eq_true rfl) ⟨Nat.le_of_ble_eq_true rfl, Nat.le_of_ble_eq_true rfl⟩ dX7_about_80 (fun _ => [(mo, .inr (6, [.ref s, .int (iI st), .ref sv, .ref tx, .int (iI ty), .int (iI u9.2), .ref fa, .ref ea, .ref go, .ref qu, .int (iI ((SZ n : Nat) : Int)), .int (iI om)])), (s, .inl (g_I (x_G X), 756, .inl (aI fs))), (ea, .inl (g_I (x_G X), 40, .inl (aI fe))), (go, .inl (g_Z (x_G X), 100000, .inl (aI fg))), (qu, .inl (g_I (x_G X), 700, .inl (aI u19)))]) (Or.inl (fun _ => ⟨rfl, rfl⟩)) (fun u80 => [.int (iI u80)]) (fun _ => rfl) 0 0 ⟨rfl, rfl⟩ (fun u80 hu80 => ?_)
      exact k_iret C hR (u := (u80, u9.2, ((SZ n : Nat) : Int), fg, u19)) rfl (by (try dsimp only) <;> exact (Or.inl ⟨by omega, by rw [c23, hu80]; show (k : Int) - (popk m k : Int) = (k : Int) - (popc m : Int); rw [popk_popc mk m4.2.2.2], by omega⟩)) rfl (Nat.le_of_ble_eq_true rfl) (Nat.le_of_ble_eq_true rfl) dX7_about_83
    · refine k_tabIn C 84 (⟨by omega, by omega⟩) dX7_about_23 (by omega) (by omega) (by rw [c23]; rfl) (by decide) ?_
      refine k_aload_n C 0 rfl dX7_about_84 rfl ?_
      refine k_iconst C dX7_about_85 ?_
      refine k_callV C (y := yX7_leftIn) [.int (iI 0)] 1 rfl (c_X7_leftIn (x_l X) (x_G X) mo s sv tx fa ea go qu st ty u9.2 ((SZ n : Nat) : Int) om 0 0 n k m fs fe fg (rfl) (by decide) (hM) (by assumption)) gX7_about_X7_leftIn rfl ⟨rfl, by decide +kernel, by decide +kernel, by decide +kernel⟩ ⟨by decide, by decide⟩ 0 (fs := [.ref s, .int (iI st), .ref sv, .ref tx, .int (iI ty), .int (iI u9.2), .ref fa, .ref ea, .ref go, .ref qu, .int (iI ((SZ n : Nat) : Int)), .int (iI om)]) rfl rfl rfl [0, 1, 2, 3] (by decide) (wc := [(mo, .inr (6, [.ref s, .int (iI st), .ref sv, .ref tx, .int (iI ty), .int (iI u9.2), .ref fa, .ref ea, .ref go, .ref qu, .int (iI ((SZ n : Nat) : Int)), .int (iI om)])), (s, .inl (g_I (x_G X), 756, .inl (aI fs))), (ea, .inl (g_I (x_G X), 40, .inl (aI fe))), (go, .inl (g_Z (x_G X), 100000, .inl (aI fg)))]) rfl [] rfl (Nat.le_of_ble_eq_true rfl) ⟨Nat.le_of_ble_eq_true rfl, Nat.le_of_ble_eq_true rfl⟩ dX7_about_86 (fun u86 => [(mo, .inr (6, [.ref s, .int (iI st), .ref sv, .ref tx, .int (iI ty), .int (iI u9.2), .ref fa, .ref ea, .ref go, .ref qu, .int (iI ((SZ n : Nat) : Int)), .int (iI om)])), (s, .inl (g_I (x_G X), 756, .inl (aI fs))), (ea, .inl (g_I (x_G X), 40, .inl (aI fe))), (go, .inl (g_Z (x_G X), 100000, .inl (aI u86.2))), (qu, .inl (g_I (x_G X), 700, .inl (aI u19)))]) (Or.inr ⟨[4], [1, 2, 3, 4, 0], [(qu, .inl (g_I (x_G X), 700, .inl (aI u19)))], rfl, by decide, by decide, by decide, fun _ => rfl⟩) (fun u86 => [.int (iI u86.1)]) (fun _ => rfl) 0 0 ⟨rfl, rfl⟩ (fun u86 hu86 => ?_)
      exact k_iret C hR (u := (u86.1, u9.2, ((SZ n : Nat) : Int), u86.2, u19)) rfl (by (try dsimp only) <;> exact (Or.inl ⟨by omega, by rw [c23]; exact hu86.1, by omega⟩)) rfl (Nat.le_of_ble_eq_true rfl) (Nat.le_of_ble_eq_true rfl) dX7_about_89
    · refine k_tabIn C 90 (⟨by omega, by omega⟩) dX7_about_23 (by omega) (by omega) (by rw [c23]; rfl) (by decide) ?_
      refine k_aload_n C 0 rfl dX7_about_90 rfl ?_
      refine k_iconst C dX7_about_91 ?_
      refine k_callV C (y := yX7_next) [.int (iI 0)] 1 rfl (c_X7_next (x_l X) (x_G X) mo s sv tx fa ea go qu st ty u9.2 ((SZ n : Nat) : Int) om 0 0 n k m fs fe (rfl) (by decide) (hM) (by assumption)) gX7_about_X7_next rfl ⟨rfl, by decide +kernel, by decide +kernel, by decide +kernel⟩ ⟨by decide, by decide⟩ 0 (fs := [.ref s, .int (iI st), .ref sv, .ref tx, .int (iI ty), .int (iI u9.2), .ref fa, .ref ea, .ref go, .ref qu, .int (iI ((SZ n : Nat) : Int)), .int (iI om)]) rfl rfl rfl [0, 1, 2] (by decide) (wc := [(mo, .inr (6, [.ref s, .int (iI st), .ref sv, .ref tx, .int (iI ty), .int (iI u9.2), .ref fa, .ref ea, .ref go, .ref qu, .int (iI ((SZ n : Nat) : Int)), .int (iI om)])), (s, .inl (g_I (x_G X), 756, .inl (aI fs))), (ea, .inl (g_I (x_G X), 40, .inl (aI fe)))]) rfl [] rfl (Nat.le_of_ble_eq_true rfl) ⟨Nat.le_of_ble_eq_true rfl, Nat.le_of_ble_eq_true rfl⟩ dX7_about_92 (fun _ => [(mo, .inr (6, [.ref s, .int (iI st), .ref sv, .ref tx, .int (iI ty), .int (iI u9.2), .ref fa, .ref ea, .ref go, .ref qu, .int (iI ((SZ n : Nat) : Int)), .int (iI om)])), (s, .inl (g_I (x_G X), 756, .inl (aI fs))), (ea, .inl (g_I (x_G X), 40, .inl (aI fe))), (go, .inl (g_Z (x_G X), 100000, .inl (aI fg))), (qu, .inl (g_I (x_G X), 700, .inl (aI u19)))]) (Or.inl (fun _ => ⟨rfl, rfl⟩)) (fun u92 => [.int (iI u92)]) (fun _ => rfl) 0 0 ⟨rfl, rfl⟩ (fun u92 hu92 => ?_)
      exact k_iret C hR (u := (u92, u9.2, ((SZ n : Nat) : Int), fg, u19)) rfl (by (try dsimp only) <;> exact (Or.inl ⟨by omega, by rw [c23]; exact hu92, by omega⟩)) rfl (Nat.le_of_ble_eq_true rfl) (Nat.le_of_ble_eq_true rfl) dX7_about_95
  · skip
    refine k_iconst C dX7_about_15 ?_
    exact k_iret C hR (u := (0, u9.2, un, fg, fq)) rfl (by (try dsimp only) <;> exact (Or.inr ⟨by omega, by omega⟩)) rfl (Nat.le_of_ble_eq_true rfl) (Nat.le_of_ble_eq_true rfl) dX7_about_16
