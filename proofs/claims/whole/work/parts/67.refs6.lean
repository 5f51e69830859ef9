theorem mP_1 (m k v : Nat) : ct (mP m k 1) v = cA m k v := ct_cong fun x _ _ => by
  unfold mP; rw [Nat.mod_one]; simp

theorem in_X7_leftIn_X7 : ∀ w ∈ wsX70, w ∈ wsX7_leftIn := by decide +kernel
set_option maxHeartbeats 4000000 in
set_option maxRecDepth 100000 in
theorem c_X7_leftIn (l : Launch) (G : KG) (mo s sv tx fa ea go qu : Nat) (st ty th un om : Int) (j : Int) (J : Nat) (n k m : Nat) (fs fe fg : Nat → Int) (hj : j = (J : Int)) (hJ : J < 18) (hM : MS fs J n k m) (hE : ∀ i : Nat, i < 40 → fe i = (sp i : Int)) : Ct l G yX7_leftIn wsX7_leftIn (rmD 1 0 0) [.ref mo, .int (iI j)] [(mo, .inr (6, [.ref s, .int (iI st), .ref sv, .ref tx, .int (iI ty), .int (iI th), .ref fa, .ref ea, .ref go, .ref qu, .int (iI un), .int (iI om)])), (s, .inl (g_I G, 756, .inl (aI fs))), (ea, .inl (g_I G, 40, .inl (aI fe))), (go, .inl (g_Z G, 100000, .inl (aI fg)))] (fun u : Int × (Nat → Int) => u.1 = (cA m k n : Int) ∧ GnI n m k u.2) (fun u : Int × (Nat → Int) => some (.int (iI u.1))) (fun u : Int × (Nat → Int) => [(mo, .inr (6, [.ref s, .int (iI st), .ref sv, .ref tx, .int (iI ty), .int (iI th), .ref fa, .ref ea, .ref go, .ref qu, .int (iI un), .int (iI om)])), (s, .inl (g_I G, 756, .inl (aI fs))), (ea, .inl (g_I G, 40, .inl (aI fe))), (go, .inl (g_Z G, 100000, .inl (aI u.2)))]) := by
  refine Ct.of (cc := cX7_leftIn) (maxL := 2) (ret := (some .int)) (by decide +kernel) rfl (Nat.le_of_ble_eq_true rfl) ?_
  intro X C hG hL hnm hR
  subst hG
  subst hL
  have C : Cx X cX7_leftIn RX7 wsX7_leftIn (some .int) 2 (rmD 1 0 0) := C
  obtain ⟨m1, m2, m3, m4⟩ := id hM
  have mk : k ≤ 40 := m4.2.2.1
  have mn1 : 1 ≤ n := m4.1
  have mn2 : n ≤ 99999 := m4.2.1
  show K_ X 0 0 [(mo, .inr (6, [.ref s, .int (iI st), .ref sv, .ref tx, .int (iI ty), .int (iI th), .ref fa, .ref ea, .ref go, .ref qu, .int (iI un), .int (iI om)])), (s, .inl (g_I (x_G X), 756, .inl (aI fs))), (ea, .inl (g_I (x_G X), 40, .inl (aI fe))), (go, .inl (g_Z (x_G X), 100000, .inl (aI fg)))] 0 [(0, .ref mo), (1, .int (iI j))] []
  refine k_aload_n C 0 rfl dX7_leftIn_0 rfl ?_
  refine k_iload_n C 1 rfl dX7_leftIn_1 rfl ?_
  refine k_callV C (y := yX7_lays) [.int (iI j)] 1 rfl (c_X7_lays (x_l X) (x_G X) mo s sv tx fa ea go qu st ty th un om j J n k m fs fe fg (by assumption) (by assumption) (by assumption) (by assumption)) gX7_leftIn_X7_lays rfl ⟨rfl, by decide +kernel, by decide +kernel, by decide +kernel⟩ ⟨by decide, by decide⟩ 0 (fs := [.ref s, .int (iI st), .ref sv, .ref tx, .int (iI ty), .int (iI th), .ref fa, .ref ea, .ref go, .ref qu, .int (iI un), .int (iI om)]) rfl rfl rfl [0, 1, 2, 3] (by decide) (wc := [(mo, .inr (6, [.ref s, .int (iI st), .ref sv, .ref tx, .int (iI ty), .int (iI th), .ref fa, .ref ea, .ref go, .ref qu, .int (iI un), .int (iI om)])), (s, .inl (g_I (x_G X), 756, .inl (aI fs))), (ea, .inl (g_I (x_G X), 40, .inl (aI fe))), (go, .inl (g_Z (x_G X), 100000, .inl (aI fg)))]) rfl [] rfl (Nat.le_of_ble_eq_true rfl) ⟨Nat.le_of_ble_eq_true rfl, Nat.le_of_ble_eq_true rfl⟩ dX7_leftIn_2 (fun u2 => [(mo, .inr (6, [.ref s, .int (iI st), .ref sv, .ref tx, .int (iI ty), .int (iI th), .ref fa, .ref ea, .ref go, .ref qu, .int (iI un), .int (iI om)])), (s, .inl (g_I (x_G X), 756, .inl (aI fs))), (ea, .inl (g_I (x_G X), 40, .inl (aI fe))), (go, .inl (g_Z (x_G X), 100000, .inl (aI u2)))]) (Or.inr ⟨[], [0, 1, 2, 3], [], rfl, by decide, by decide, by decide, fun _ => rfl⟩) (fun u2 => []) (fun _ => rfl) 0 0 ⟨rfl, rfl⟩ (fun u2 hu2 => ?_)
  refine k_aload_n C 0 rfl dX7_leftIn_5 rfl ?_
  refine k_aload_n C 0 rfl dX7_leftIn_6 rfl ?_
  refine k_get C (Cn := RX7) (T := TX7) (N := 12) (ci := 6) (ref := "StruckCountsModel") in_X7_leftIn_X7 0 rfl rfl 0 (by decide) 1 rfl rfl (v := .ref s) rfl dX7_leftIn_7 ?_
  refine k_bipush C dX7_leftIn_10 (by decide) ?_
  refine k_iload_n C 1 rfl dX7_leftIn_12 rfl ?_
  refine k_imul C dX7_leftIn_13 ?_
  refine k_nmI (fun v13 e13 => ?_)
  refine k_iald C (f := fs) 1 rfl (⟨by omega, by omega⟩) (by decide) dX7_leftIn_14 ?_
  refine k_nmI (fun v14 e14 => ?_)
  have hn : v14 = (n : Int) := by rw [e14, show v13.toNat = 42 * J by omega]; exact m1
  refine k_iconst C dX7_leftIn_15 ?_
  refine k_callV C (y := yX7_leftBy) [.int (iI v14), .int (iI 1)] 2 rfl (c_X7_leftBy (x_l X) (x_G X) mo s sv tx fa ea go qu st ty th un om v14 1 n 1 n k m u2 (hn) (rfl) (by decide) (Nat.le_refl _) (mn2) (hu2)) gX7_leftIn_X7_leftBy rfl ⟨rfl, by decide +kernel, by decide +kernel, by decide +kernel⟩ ⟨by decide, by decide⟩ 0 (fs := [.ref s, .int (iI st), .ref sv, .ref tx, .int (iI ty), .int (iI th), .ref fa, .ref ea, .ref go, .ref qu, .int (iI un), .int (iI om)]) rfl rfl rfl [0, 3] (by decide) (wc := [(mo, .inr (6, [.ref s, .int (iI st), .ref sv, .ref tx, .int (iI ty), .int (iI th), .ref fa, .ref ea, .ref go, .ref qu, .int (iI un), .int (iI om)])), (go, .inl (g_Z (x_G X), 100000, .inl (aI u2)))]) rfl [] rfl (Nat.le_of_ble_eq_true rfl) ⟨Nat.le_of_ble_eq_true rfl, Nat.le_of_ble_eq_true rfl⟩ dX7_leftIn_16 (fun _ => [(mo, .inr (6, [.ref s, .int (iI st), .ref sv, .ref tx, .int (iI ty), .int (iI th), .ref fa, .ref ea, .ref go, .ref qu, .int (iI un), .int (iI om)])), (s, .inl (g_I (x_G X), 756, .inl (aI fs))), (ea, .inl (g_I (x_G X), 40, .inl (aI fe))), (go, .inl (g_Z (x_G X), 100000, .inl (aI u2)))]) (Or.inl (fun _ => ⟨rfl, rfl⟩)) (fun u16 => [.int (iI u16)]) (fun _ => rfl) 0 0 ⟨rfl, rfl⟩ (fun u16 hu16 => ?_)
  exact k_iret C hR (u := (u16, u2)) rfl (by (try dsimp only) <;> exact (⟨by rw [hu16, mP_1], hu2⟩)) rfl (Nat.le_of_ble_eq_true rfl) (Nat.le_of_ble_eq_true rfl) dX7_leftIn_19
