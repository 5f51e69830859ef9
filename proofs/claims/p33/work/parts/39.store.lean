theorem in_X2_init_X2 : ∀ w ∈ wsX20, w ∈ wsX2_init := by decide +kernel
set_option maxHeartbeats 4000000 in
set_option maxRecDepth 100000 in
theorem c_X2_init (l : Launch) (G : KG) (so : Nat)  : Ct l G yX2_init wsX2_init (rmD 1 3 48) [.ref so] [(so, .inr (2, [.null, .null, .null, .int (iI 0), .int (iI 0)]))] (fun u : Nat × Nat × Nat => True) (fun u : Nat × Nat × Nat => none) (fun u : Nat × Nat × Nat => [(so, .inr (2, [.ref u.1, .ref u.2.1, .ref u.2.2, .int (iI 0), .int (iI 0)])), (u.1, .inl (g_I G, 16, .inl (aI (fun _ => 0)))), (u.2.1, .inl (g_I G, 16, .inl (aI (fun _ => 0)))), (u.2.2, .inl (g_J G, 16, .inr (.inl (aL (fun _ => 0)))))]) := by
  refine Ct.of (cc := cX2_init) (maxL := 1) (ret := none) (by decide +kernel) rfl (Nat.le_of_ble_eq_true rfl) ?_
  intro X C hG hL hnm hR
  subst hG
  subst hL
  have C : Cx X cX2_init RX2 wsX2_init none 1 (rmD 1 3 48) := C
  show K_ X 0 0 [(so, .inr (2, [.null, .null, .null, .int (iI 0), .int (iI 0)]))] 0 [(0, .ref so)] []
  refine k_aload_n C 0 rfl dX2_init_0 rfl ?_
  refine k_objInit C 1 2 3 rfl rfl rfl (by decide) (Nat.le_of_ble_eq_true rfl) dX2_init_1 ?_
  refine k_aload_n C 0 rfl dX2_init_4 rfl ?_
  refine k_bipush C dX2_init_5 (by decide) ?_
  refine k_newI C 16 rfl (by decide) 4 rfl (Nat.le_of_ble_eq_true rfl) (Nat.le_of_ble_eq_true rfl) dX2_init_7 (fun q7 => ?_)
  refine k_eq (ws2 := [(so, .inr (2, [.null, .null, .null, .int (iI 0), .int (iI 0)])), (q7, .inl (g_I (x_G X), 16, .inl (aI (fun _ => 0))))]) (st2 := [.ref q7, .ref so]) rfl rfl rfl rfl ?_
  refine k_wide (k2 := 1) (j2 := 16) (Nat.le_refl _) (Nat.le_refl _) ?_
  refine k_putF C (Cn := RX2) (T := TX2) (N := 5) (ci := 2) (ref := "StruckCounts$Store") in_X2_init_X2 tyX2 tyX2_ok nmX2 0 rfl rfl 0 (by decide) 5 rfl rfl rfl hnm rfl (v := .ref q7) (rfl) (rfl) (Nat.le_of_ble_eq_true rfl) [(so, .inr (2, [.ref q7, .null, .null, .int (iI 0), .int (iI 0)])), (q7, .inl (g_I (x_G X), 16, .inl (aI (fun _ => 0))))] rfl dX2_init_9 ?_
  refine k_aload_n C 0 rfl dX2_init_12 rfl ?_
  refine k_bipush C dX2_init_13 (by decide) ?_
  refine k_newI C 16 rfl (by decide) 4 rfl (Nat.le_of_ble_eq_true rfl) (Nat.le_of_ble_eq_true rfl) dX2_init_15 (fun q15 => ?_)
  refine k_eq (ws2 := [(so, .inr (2, [.ref q7, .null, .null, .int (iI 0), .int (iI 0)])), (q7, .inl (g_I (x_G X), 16, .inl (aI (fun _ => 0)))), (q15, .inl (g_I (x_G X), 16, .inl (aI (fun _ => 0))))]) (st2 := [.ref q15, .ref so]) rfl rfl rfl rfl ?_
  refine k_wide (k2 := 2) (j2 := 32) (Nat.le_refl _) (Nat.le_refl _) ?_
  refine k_putF C (Cn := RX2) (T := TX2) (N := 5) (ci := 2) (ref := "StruckCounts$Store") in_X2_init_X2 tyX2 tyX2_ok nmX2 0 rfl rfl 1 (by decide) 6 rfl rfl rfl hnm rfl (v := .ref q15) (rfl) (rfl) (Nat.le_of_ble_eq_true rfl) [(so, .inr (2, [.ref q7, .ref q15, .null, .int (iI 0), .int (iI 0)])), (q7, .inl (g_I (x_G X), 16, .inl (aI (fun _ => 0)))), (q15, .inl (g_I (x_G X), 16, .inl (aI (fun _ => 0))))] rfl dX2_init_17 ?_
  refine k_aload_n C 0 rfl dX2_init_20 rfl ?_
  refine k_bipush C dX2_init_21 (by decide) ?_
  refine k_newJ C 16 rfl (by decide) 7 rfl (Nat.le_of_ble_eq_true rfl) (Nat.le_of_ble_eq_true rfl) dX2_init_23 (fun q23 => ?_)
  refine k_eq (ws2 := [(so, .inr (2, [.ref q7, .ref q15, .null, .int (iI 0), .int (iI 0)])), (q7, .inl (g_I (x_G X), 16, .inl (aI (fun _ => 0)))), (q15, .inl (g_I (x_G X), 16, .inl (aI (fun _ => 0)))), (q23, .inl (g_J (x_G X), 16, .inr (.inl (aL (fun _ => 0)))))]) (st2 := [.ref q23, .ref so]) rfl rfl rfl rfl ?_
  refine k_wide (k2 := 3) (j2 := 48) (Nat.le_refl _) (Nat.le_refl _) ?_
  refine k_putF C (Cn := RX2) (T := TX2) (N := 5) (ci := 2) (ref := "StruckCounts$Store") in_X2_init_X2 tyX2 tyX2_ok nmX2 0 rfl rfl 2 (by decide) 8 rfl rfl rfl hnm rfl (v := .ref q23) (rfl) (rfl) (Nat.le_of_ble_eq_true rfl) [(so, .inr (2, [.ref q7, .ref q15, .ref q23, .int (iI 0), .int (iI 0)])), (q7, .inl (g_I (x_G X), 16, .inl (aI (fun _ => 0)))), (q15, .inl (g_I (x_G X), 16, .inl (aI (fun _ => 0)))), (q23, .inl (g_J (x_G X), 16, .inr (.inl (aL (fun _ => 0)))))] rfl dX2_init_25 ?_
  exact k_vret C hR (u := (q7, q15, q23)) rfl (by (try dsimp only) <;> exact (trivial)) rfl (Nat.le_of_ble_eq_true rfl) (Nat.le_of_ble_eq_true rfl) dX2_init_28
theorem in_X2_put_X2 : ∀ w ∈ wsX20, w ∈ wsX2_put := by decide +kernel
theorem in_X2_put_X0 : ∀ w ∈ wsX00, w ∈ wsX2_put := by decide +kernel
set_option maxHeartbeats 4000000 in
set_option maxRecDepth 100000 in
theorem c_X2_put (l : Launch) (G : KG) (so bo ca ss : Nat) (nw rb : Int) (b t : Nat) (tl bd cm sk : Int) (p : Int) (fb fc fk : Nat → Int) (hp : 0 ≤ p ∧ p < 16) : Ct l G yX2_put wsX2_put (rmD 1 0 0) [.ref so, .int (iI p), .ref b] [(so, .inr (2, [.ref bo, .ref ca, .ref ss, .int (iI nw), .int (iI rb)])), (bo, .inl (g_I G, 16, .inl (aI fb))), (ca, .inl (g_I G, 16, .inl (aI fc))), (ss, .inl (g_J G, 16, .inr (.inl (aL fk)))), (b, .inr (0, [.ref t, .int (iI tl), .int (iI bd), .int (iI cm), .long (jL sk)]))] (fun u : (Nat → Int) × (Nat → Int) × (Nat → Int) => u.1 = upI fb p.toNat bd ∧ u.2.1 = upI fc p.toNat cm ∧ u.2.2 = upI fk p.toNat sk) (fun u : (Nat → Int) × (Nat → Int) × (Nat → Int) => none) (fun u : (Nat → Int) × (Nat → Int) × (Nat → Int) => [(so, .inr (2, [.ref bo, .ref ca, .ref ss, .int (iI nw), .int (iI rb)])), (bo, .inl (g_I G, 16, .inl (aI u.1))), (ca, .inl (g_I G, 16, .inl (aI u.2.1))), (ss, .inl (g_J G, 16, .inr (.inl (aL u.2.2)))), (b, .inr (0, [.ref t, .int (iI tl), .int (iI bd), .int (iI cm), .long (jL sk)]))]) := by
  refine Ct.of (cc := cX2_put) (maxL := 3) (ret := none) (by decide +kernel) rfl (Nat.le_of_ble_eq_true rfl) ?_
  intro X C hG hL hnm hR
  subst hG
  subst hL
  have C : Cx X cX2_put RX2 wsX2_put none 3 (rmD 1 0 0) := C
  show K_ X 0 0 [(so, .inr (2, [.ref bo, .ref ca, .ref ss, .int (iI nw), .int (iI rb)])), (bo, .inl (g_I (x_G X), 16, .inl (aI fb))), (ca, .inl (g_I (x_G X), 16, .inl (aI fc))), (ss, .inl (g_J (x_G X), 16, .inr (.inl (aL fk)))), (b, .inr (0, [.ref t, .int (iI tl), .int (iI bd), .int (iI cm), .long (jL sk)]))] 0 [(0, .ref so), (1, .int (iI p)), (2, .ref b)] []
  refine k_iload_n C 1 rfl dX2_put_0 rfl ?_
  refine k_iconst C dX2_put_1 ?_
  refine k_bipush C dX2_put_2 (by decide) ?_
  refine k_callSN C (y := yX6_outside) [.int (iI p), .int (iI 0), .int (iI 15)] 3 rfl (c_X6_outside (x_l X) (x_G X) p 0 15 (by omega) (by omega) (by omega)) gX2_put_X6_outside_n45 rfl 3 rfl 5 4 rfl rfl ⟨by decide +kernel, by decide +kernel, by decide +kernel⟩ ⟨by decide, by decide⟩ [] (by decide) (wc := []) rfl [] rfl (Nat.le_of_ble_eq_true rfl) ⟨Nat.le_of_ble_eq_true rfl, Nat.le_of_ble_eq_true rfl⟩ dX2_put_4 (fun _ => [(so, .inr (2, [.ref bo, .ref ca, .ref ss, .int (iI nw), .int (iI rb)])), (bo, .inl (g_I (x_G X), 16, .inl (aI fb))), (ca, .inl (g_I (x_G X), 16, .inl (aI fc))), (ss, .inl (g_J (x_G X), 16, .inr (.inl (aL fk)))), (b, .inr (0, [.ref t, .int (iI tl), .int (iI bd), .int (iI cm), .long (jL sk)]))]) (Or.inl (fun _ => ⟨rfl, rfl⟩)) (fun u4 => [.int (iI u4)]) (fun _ => rfl) 0 0 ⟨rfl, rfl⟩ (fun u4 hu4 => ?_)
  refine k_if_ne C 40 (⟨by omega, by omega⟩) dX2_put_7 (by decide) (fun c7 => ?_) (fun c7 => ?_)
  · exfalso; omega
  · skip
    have hu4 := bo_f hu4 c7
    refine k_aload_n C 0 rfl dX2_put_10 rfl ?_
    refine k_get C (Cn := RX2) (T := TX2) (N := 5) (ci := 2) (ref := "StruckCounts$Store") in_X2_put_X2 0 rfl rfl 0 (by decide) 1 rfl rfl (v := .ref bo) rfl dX2_put_11 ?_
    refine k_iload_n C 1 rfl dX2_put_14 rfl ?_
    refine k_aload_n C 2 rfl dX2_put_15 rfl ?_
    refine k_getN C (Cn := RX0) (T := TX0) (N := 5) (ci := 0) (ref := "StruckCounts$Board") in_X2_put_X0 4 rfl rfl 2 (by decide) 2 rfl rfl (v := .int (iI bd)) rfl dX2_put_16 ?_
    refine k_iast C (f := fb) 1 rfl (⟨by omega, by omega⟩) (by decide) (fun gg => [(so, .inr (2, [.ref bo, .ref ca, .ref ss, .int (iI nw), .int (iI rb)])), (bo, .inl (g_I (x_G X), 16, .inl (aI gg))), (ca, .inl (g_I (x_G X), 16, .inl (aI fc))), (ss, .inl (g_J (x_G X), 16, .inr (.inl (aL fk)))), (b, .inr (0, [.ref t, .int (iI tl), .int (iI bd), .int (iI cm), .long (jL sk)]))]) (fun _ => rfl) dX2_put_19 (fun g19 e19 => ?_)
    refine k_aload_n C 0 rfl dX2_put_20 rfl ?_
    refine k_get C (Cn := RX2) (T := TX2) (N := 5) (ci := 2) (ref := "StruckCounts$Store") in_X2_put_X2 0 rfl rfl 1 (by decide) 2 rfl rfl (v := .ref ca) rfl dX2_put_21 ?_
    refine k_iload_n C 1 rfl dX2_put_24 rfl ?_
    refine k_aload_n C 2 rfl dX2_put_25 rfl ?_
    refine k_getN C (Cn := RX0) (T := TX0) (N := 5) (ci := 0) (ref := "StruckCounts$Board") in_X2_put_X0 4 rfl rfl 3 (by decide) 4 rfl rfl (v := .int (iI cm)) rfl dX2_put_26 ?_
    refine k_iast C (f := fc) 2 rfl (⟨by omega, by omega⟩) (by decide) (fun gg => [(so, .inr (2, [.ref bo, .ref ca, .ref ss, .int (iI nw), .int (iI rb)])), (bo, .inl (g_I (x_G X), 16, .inl (aI g19))), (ca, .inl (g_I (x_G X), 16, .inl (aI gg))), (ss, .inl (g_J (x_G X), 16, .inr (.inl (aL fk)))), (b, .inr (0, [.ref t, .int (iI tl), .int (iI bd), .int (iI cm), .long (jL sk)]))]) (fun _ => rfl) dX2_put_29 (fun g29 e29 => ?_)
    refine k_aload_n C 0 rfl dX2_put_30 rfl ?_
    refine k_get C (Cn := RX2) (T := TX2) (N := 5) (ci := 2) (ref := "StruckCounts$Store") in_X2_put_X2 0 rfl rfl 2 (by decide) 3 rfl rfl (v := .ref ss) rfl dX2_put_31 ?_
    refine k_iload_n C 1 rfl dX2_put_34 rfl ?_
    refine k_aload_n C 2 rfl dX2_put_35 rfl ?_
    refine k_getN C (Cn := RX0) (T := TX0) (N := 5) (ci := 0) (ref := "StruckCounts$Board") in_X2_put_X0 4 rfl rfl 4 (by decide) 6 rfl rfl (v := .long (jL sk)) rfl dX2_put_36 ?_
    refine k_last C (f := fk) 3 rfl (⟨by omega, by omega⟩) (by decide) (fun gg => [(so, .inr (2, [.ref bo, .ref ca, .ref ss, .int (iI nw), .int (iI rb)])), (bo, .inl (g_I (x_G X), 16, .inl (aI g19))), (ca, .inl (g_I (x_G X), 16, .inl (aI g29))), (ss, .inl (g_J (x_G X), 16, .inr (.inl (aL gg)))), (b, .inr (0, [.ref t, .int (iI tl), .int (iI bd), .int (iI cm), .long (jL sk)]))]) (fun _ => rfl) dX2_put_39 (fun g39 e39 => ?_)
    exact k_vret C hR (u := (g19, g29, g39)) rfl (by (try dsimp only) <;> exact (⟨by assumption, by assumption, by assumption⟩)) rfl (Nat.le_of_ble_eq_true rfl) (Nat.le_of_ble_eq_true rfl) dX2_put_40
theorem in_X2_show_X2 : ∀ w ∈ wsX20, w ∈ wsX2_show := by decide +kernel
set_option maxHeartbeats 4000000 in
set_option maxRecDepth 100000 in
theorem c_X2_show (l : Launch) (G : KG) (so bo ca ss : Nat) (nw rb : Int) (b t : Nat) (tl bd cm sk : Int) (p : Int) (fb fc fk : Nat → Int) (hp : 0 ≤ p ∧ p < 16) : Ct l G yX2_show wsX2_show (rmD 1 0 0) [.ref so, .int (iI p), .ref b] [(so, .inr (2, [.ref bo, .ref ca, .ref ss, .int (iI nw), .int (iI rb)])), (bo, .inl (g_I G, 16, .inl (aI fb))), (ca, .inl (g_I G, 16, .inl (aI fc))), (ss, .inl (g_J G, 16, .inr (.inl (aL fk)))), (b, .inr (0, [.ref t, .int (iI tl), .int (iI bd), .int (iI cm), .long (jL sk)]))] (fun u : Int × Int × Int => u.1 = fb p.toNat ∧ u.2.1 = fc p.toNat ∧ u.2.2 = fk p.toNat) (fun u : Int × Int × Int => none) (fun u : Int × Int × Int => [(so, .inr (2, [.ref bo, .ref ca, .ref ss, .int (iI nw), .int (iI rb)])), (bo, .inl (g_I G, 16, .inl (aI fb))), (ca, .inl (g_I G, 16, .inl (aI fc))), (ss, .inl (g_J G, 16, .inr (.inl (aL fk)))), (b, .inr (0, [.ref t, .int (iI (-1)), .int (iI u.1), .int (iI u.2.1), .long (jL u.2.2)]))]) := by
  refine Ct.of (cc := cX2_show) (maxL := 3) (ret := none) (by decide +kernel) rfl (Nat.le_of_ble_eq_true rfl) ?_
  intro X C hG hL hnm hR
  subst hG
  subst hL
  have C : Cx X cX2_show RX2 wsX2_show none 3 (rmD 1 0 0) := C
  show K_ X 0 0 [(so, .inr (2, [.ref bo, .ref ca, .ref ss, .int (iI nw), .int (iI rb)])), (bo, .inl (g_I (x_G X), 16, .inl (aI fb))), (ca, .inl (g_I (x_G X), 16, .inl (aI fc))), (ss, .inl (g_J (x_G X), 16, .inr (.inl (aL fk)))), (b, .inr (0, [.ref t, .int (iI tl), .int (iI bd), .int (iI cm), .long (jL sk)]))] 0 [(0, .ref so), (1, .int (iI p)), (2, .ref b)] []
  refine k_iload_n C 1 rfl dX2_show_0 rfl ?_
  refine k_iconst C dX2_show_1 ?_
  refine k_bipush C dX2_show_2 (by decide) ?_
  refine k_callSN C (y := yX6_outside) [.int (iI p), .int (iI 0), .int (iI 15)] 3 rfl (c_X6_outside (x_l X) (x_G X) p 0 15 (by omega) (by omega) (by omega)) gX2_show_X6_outside_n45 rfl 3 rfl 5 4 rfl rfl ⟨by decide +kernel, by decide +kernel, by decide +kernel⟩ ⟨by decide, by decide⟩ [] (by decide) (wc := []) rfl [] rfl (Nat.le_of_ble_eq_true rfl) ⟨Nat.le_of_ble_eq_true rfl, Nat.le_of_ble_eq_true rfl⟩ dX2_show_4 (fun _ => [(so, .inr (2, [.ref bo, .ref ca, .ref ss, .int (iI nw), .int (iI rb)])), (bo, .inl (g_I (x_G X), 16, .inl (aI fb))), (ca, .inl (g_I (x_G X), 16, .inl (aI fc))), (ss, .inl (g_J (x_G X), 16, .inr (.inl (aL fk)))), (b, .inr (0, [.ref t, .int (iI tl), .int (iI bd), .int (iI cm), .long (jL sk)]))]) (Or.inl (fun _ => ⟨rfl, rfl⟩)) (fun u4 => [.int (iI u4)]) (fun _ => rfl) 0 0 ⟨rfl, rfl⟩ (fun u4 hu4 => ?_)
  refine k_if_ne C 32 (⟨by omega, by omega⟩) dX2_show_7 (by decide) (fun c7 => ?_) (fun c7 => ?_)
  · exfalso; omega
  · skip
    have hu4 := bo_f hu4 c7
    refine k_aload_n C 2 rfl dX2_show_10 rfl ?_
    refine k_aload_n C 0 rfl dX2_show_11 rfl ?_
    refine k_get C (Cn := RX2) (T := TX2) (N := 5) (ci := 2) (ref := "StruckCounts$Store") in_X2_show_X2 0 rfl rfl 0 (by decide) 1 rfl rfl (v := .ref bo) rfl dX2_show_12 ?_
    refine k_iload_n C 1 rfl dX2_show_15 rfl ?_
    refine k_iald C (f := fb) 1 rfl (⟨by omega, by omega⟩) (by decide) dX2_show_16 ?_
    refine k_nmI (fun v16 e16 => ?_)
    refine k_aload_n C 0 rfl dX2_show_17 rfl ?_
    refine k_get C (Cn := RX2) (T := TX2) (N := 5) (ci := 2) (ref := "StruckCounts$Store") in_X2_show_X2 0 rfl rfl 1 (by decide) 2 rfl rfl (v := .ref ca) rfl dX2_show_18 ?_
    refine k_iload_n C 1 rfl dX2_show_21 rfl ?_
    refine k_iald C (f := fc) 2 rfl (⟨by omega, by omega⟩) (by decide) dX2_show_22 ?_
    refine k_nmI (fun v22 e22 => ?_)
    refine k_aload_n C 0 rfl dX2_show_23 rfl ?_
    refine k_get C (Cn := RX2) (T := TX2) (N := 5) (ci := 2) (ref := "StruckCounts$Store") in_X2_show_X2 0 rfl rfl 2 (by decide) 3 rfl rfl (v := .ref ss) rfl dX2_show_24 ?_
    refine k_iload_n C 1 rfl dX2_show_27 rfl ?_
    refine k_lald C (f := fk) 3 rfl (⟨by omega, by omega⟩) (by decide) dX2_show_28 ?_
    refine k_nmL (fun v28 e28 => ?_)
    refine k_callV C (y := yX0_show) [.int (iI v16), .int (iI v22), .long (jL v28)] 3 rfl (c_X0_show (x_l X) (x_G X) b t tl bd cm sk v16 v22 v28 ) gX2_show_X0_show rfl ⟨rfl, by decide +kernel, by decide +kernel, by decide +kernel⟩ ⟨by decide, by decide⟩ 4 (fs := [.ref t, .int (iI tl), .int (iI bd), .int (iI cm), .long (jL sk)]) rfl rfl rfl [4] (by decide) (wc := [(b, .inr (0, [.ref t, .int (iI tl), .int (iI bd), .int (iI cm), .long (jL sk)]))]) rfl [] rfl (Nat.le_of_ble_eq_true rfl) ⟨Nat.le_of_ble_eq_true rfl, Nat.le_of_ble_eq_true rfl⟩ dX2_show_29 (fun u29 => [(so, .inr (2, [.ref bo, .ref ca, .ref ss, .int (iI nw), .int (iI rb)])), (bo, .inl (g_I (x_G X), 16, .inl (aI fb))), (ca, .inl (g_I (x_G X), 16, .inl (aI fc))), (ss, .inl (g_J (x_G X), 16, .inr (.inl (aL fk)))), (b, .inr (0, [.ref t, .int (iI (-1)), .int (iI v16), .int (iI v22), .long (jL v28)]))]) (Or.inr ⟨[0, 1, 2, 3], [0, 1, 2, 3, 4], [(so, .inr (2, [.ref bo, .ref ca, .ref ss, .int (iI nw), .int (iI rb)])), (bo, .inl (g_I (x_G X), 16, .inl (aI fb))), (ca, .inl (g_I (x_G X), 16, .inl (aI fc))), (ss, .inl (g_J (x_G X), 16, .inr (.inl (aL fk))))], rfl, by decide, by decide, by decide, fun _ => rfl⟩) (fun u29 => []) (fun _ => rfl) 0 0 ⟨rfl, rfl⟩ (fun u29 hu29 => ?_)
    exact k_vret C hR (u := (v16, v22, v28)) rfl (by (try dsimp only) <;> exact (⟨by assumption, by assumption, by assumption⟩)) rfl (Nat.le_of_ble_eq_true rfl) (Nat.le_of_ble_eq_true rfl) dX2_show_32
theorem in_X2_remember_X2 : ∀ w ∈ wsX20, w ∈ wsX2_remember := by decide +kernel
set_option maxHeartbeats 4000000 in
set_option maxRecDepth 100000 in
theorem c_X2_remember (l : Launch) (G : KG) (so bo ca ss : Nat) (nw rb : Int) (b t : Nat) (tl bd cm sk : Int) (fb fc fk : Nat → Int) (hn : 0 ≤ nw ∧ nw < 14) (hr : 0 ≤ rb ∧ rb ≤ 14) : Ct l G yX2_remember wsX2_remember (rmD 2 0 0) [.ref so, .ref b] [(so, .inr (2, [.ref bo, .ref ca, .ref ss, .int (iI nw), .int (iI rb)])), (bo, .inl (g_I G, 16, .inl (aI fb))), (ca, .inl (g_I G, 16, .inl (aI fc))), (ss, .inl (g_J G, 16, .inr (.inl (aL fk)))), (b, .inr (0, [.ref t, .int (iI tl), .int (iI bd), .int (iI cm), .long (jL sk)]))] (fun u : Int × Int × (Nat → Int) × (Nat → Int) × (Nat → Int) => u.1 = (nw + 1) % 14 ∧ (u.2.1 = if rb = 14 then 14 else rb + 1) ∧ u.2.2.1 = upI fb ((nw + 1) % 14).toNat bd ∧ u.2.2.2.1 = upI fc ((nw + 1) % 14).toNat cm ∧ u.2.2.2.2 = upI fk ((nw + 1) % 14).toNat sk) (fun u : Int × Int × (Nat → Int) × (Nat → Int) × (Nat → Int) => none) (fun u : Int × Int × (Nat → Int) × (Nat → Int) × (Nat → Int) => [(so, .inr (2, [.ref bo, .ref ca, .ref ss, .int (iI u.1), .int (iI u.2.1)])), (bo, .inl (g_I G, 16, .inl (aI u.2.2.1))), (ca, .inl (g_I G, 16, .inl (aI u.2.2.2.1))), (ss, .inl (g_J G, 16, .inr (.inl (aL u.2.2.2.2)))), (b, .inr (0, [.ref t, .int (iI tl), .int (iI bd), .int (iI cm), .long (jL sk)]))]) := by
  refine Ct.of (cc := cX2_remember) (maxL := 2) (ret := none) (by decide +kernel) rfl (Nat.le_of_ble_eq_true rfl) ?_
  intro X C hG hL hnm hR
  subst hG
  subst hL
  have C : Cx X cX2_remember RX2 wsX2_remember none 2 (rmD 2 0 0) := C
  show K_ X 0 0 [(so, .inr (2, [.ref bo, .ref ca, .ref ss, .int (iI nw), .int (iI rb)])), (bo, .inl (g_I (x_G X), 16, .inl (aI fb))), (ca, .inl (g_I (x_G X), 16, .inl (aI fc))), (ss, .inl (g_J (x_G X), 16, .inr (.inl (aL fk)))), (b, .inr (0, [.ref t, .int (iI tl), .int (iI bd), .int (iI cm), .long (jL sk)]))] 0 [(0, .ref so), (1, .ref b)] []
  refine k_aload_n C 0 rfl dX2_remember_0 rfl ?_
  refine k_aload_n C 0 rfl dX2_remember_1 rfl ?_
  refine k_get C (Cn := RX2) (T := TX2) (N := 5) (ci := 2) (ref := "StruckCounts$Store") in_X2_remember_X2 0 rfl rfl 3 (by decide) 1 rfl rfl (v := .int (iI nw)) rfl dX2_remember_2 ?_
  refine k_iconst C dX2_remember_5 ?_
  refine k_iadd C dX2_remember_6 ?_
  refine k_nmI (fun v6 e6 => ?_)
  refine k_bipush C dX2_remember_7 (by decide) ?_
  refine k_irem C ⟨by omega, by omega⟩ ⟨by omega, by omega⟩ dX2_remember_9 ?_
  refine k_nmI (fun v9 e9 => ?_)
  refine k_put C (Cn := RX2) (T := TX2) (N := 5) (ci := 2) (ref := "StruckCounts$Store") in_X2_remember_X2 tyX2 tyX2_ok nmX2 0 rfl rfl 3 (by decide) 1 rfl rfl rfl (v := .int (iI v9)) (rfl) (rfl) (Nat.le_of_ble_eq_true rfl) [(so, .inr (2, [.ref bo, .ref ca, .ref ss, .int (iI v9), .int (iI rb)])), (bo, .inl (g_I (x_G X), 16, .inl (aI fb))), (ca, .inl (g_I (x_G X), 16, .inl (aI fc))), (ss, .inl (g_J (x_G X), 16, .inr (.inl (aL fk)))), (b, .inr (0, [.ref t, .int (iI tl), .int (iI bd), .int (iI cm), .long (jL sk)]))] rfl dX2_remember_10 ?_
  refine k_aload_n C 0 rfl dX2_remember_13 rfl ?_
  refine k_aload_n C 0 rfl dX2_remember_14 rfl ?_
  refine k_get C (Cn := RX2) (T := TX2) (N := 5) (ci := 2) (ref := "StruckCounts$Store") in_X2_remember_X2 0 rfl rfl 3 (by decide) 1 rfl rfl (v := .int (iI v9)) rfl dX2_remember_15 ?_
  refine k_aload_n C 1 rfl dX2_remember_18 rfl ?_
  refine k_callV C (y := yX2_put) [.int (iI v9), .ref b] 2 rfl (c_X2_put (x_l X) (x_G X) so bo ca ss v9 rb b t tl bd cm sk v9 fb fc fk (by omega)) gX2_remember_X2_put rfl ⟨rfl, by decide +kernel, by decide +kernel, by decide +kernel⟩ ⟨by decide, by decide⟩ 0 (fs := [.ref bo, .ref ca, .ref ss, .int (iI v9), .int (iI rb)]) rfl rfl rfl [0, 1, 2, 3, 4] (by decide) (wc := [(so, .inr (2, [.ref bo, .ref ca, .ref ss, .int (iI v9), .int (iI rb)])), (bo, .inl (g_I (x_G X), 16, .inl (aI fb))), (ca, .inl (g_I (x_G X), 16, .inl (aI fc))), (ss, .inl (g_J (x_G X), 16, .inr (.inl (aL fk)))), (b, .inr (0, [.ref t, .int (iI tl), .int (iI bd), .int (iI cm), .long (jL sk)]))]) rfl [] rfl (Nat.le_of_ble_eq_true rfl) ⟨Nat.le_of_ble_eq_true rfl, Nat.le_of_ble_eq_true rfl⟩ dX2_remember_19 (fun u19 => [(so, .inr (2, [.ref bo, .ref ca, .ref ss, .int (iI v9), .int (iI rb)])), (bo, .inl (g_I (x_G X), 16, .inl (aI u19.1))), (ca, .inl (g_I (x_G X), 16, .inl (aI u19.2.1))), (ss, .inl (g_J (x_G X), 16, .inr (.inl (aL u19.2.2)))), (b, .inr (0, [.ref t, .int (iI tl), .int (iI bd), .int (iI cm), .long (jL sk)]))]) (Or.inr ⟨[], [0, 1, 2, 3, 4], [], rfl, by decide, by decide, by decide, fun _ => rfl⟩) (fun u19 => []) (fun _ => rfl) 0 0 ⟨rfl, rfl⟩ (fun u19 hu19 => ?_)
  refine k_aload_n C 0 rfl dX2_remember_22 rfl ?_
  refine k_aload_n C 0 rfl dX2_remember_23 rfl ?_
  refine k_get C (Cn := RX2) (T := TX2) (N := 5) (ci := 2) (ref := "StruckCounts$Store") in_X2_remember_X2 0 rfl rfl 4 (by decide) 2 rfl rfl (v := .int (iI rb)) rfl dX2_remember_24 ?_
  refine k_iconst C dX2_remember_27 ?_
  refine k_iadd C dX2_remember_28 ?_
  refine k_nmI (fun v28 e28 => ?_)
  refine k_bipush C dX2_remember_29 (by decide) ?_
  refine k_min C 3 4 5 6 (⟨by omega, by omega⟩) (⟨by omega, by omega⟩) rfl rfl rfl rfl (by decide) (Nat.le_of_ble_eq_true rfl) ⟨by decide, by decide⟩ dX2_remember_31 (fun v31 e31 => ?_)
  refine k_put C (Cn := RX2) (T := TX2) (N := 5) (ci := 2) (ref := "StruckCounts$Store") in_X2_remember_X2 tyX2 tyX2_ok nmX2 0 rfl rfl 4 (by decide) 2 rfl rfl rfl (v := .int (iI v31)) (rfl) (rfl) (Nat.le_of_ble_eq_true rfl) [(so, .inr (2, [.ref bo, .ref ca, .ref ss, .int (iI v9), .int (iI v31)])), (bo, .inl (g_I (x_G X), 16, .inl (aI u19.1))), (ca, .inl (g_I (x_G X), 16, .inl (aI u19.2.1))), (ss, .inl (g_J (x_G X), 16, .inr (.inl (aL u19.2.2)))), (b, .inr (0, [.ref t, .int (iI tl), .int (iI bd), .int (iI cm), .long (jL sk)]))] rfl dX2_remember_34 ?_
  exact k_vret C hR (u := (v9, v31, u19.1, u19.2.1, u19.2.2)) rfl (by (try dsimp only) <;> exact (by have e : v9 = (nw + 1) % 14 := (by omega); rw [← e]; exact ⟨rfl, by split <;> omega, hu19.1, hu19.2.1, hu19.2.2⟩)) rfl (Nat.le_of_ble_eq_true rfl) (Nat.le_of_ble_eq_true rfl) dX2_remember_37
theorem in_X2_takeBack_X2 : ∀ w ∈ wsX20, w ∈ wsX2_takeBack := by decide +kernel
set_option maxHeartbeats 4000000 in
set_option maxRecDepth 100000 in
theorem c_X2_takeBack (l : Launch) (G : KG) (so bo ca ss : Nat) (nw rb : Int) (b t : Nat) (tl bd cm sk : Int) (fb fc fk : Nat → Int) (hn : 0 ≤ nw ∧ nw < 14) (hr : 1 ≤ rb ∧ rb ≤ 14) : Ct l G yX2_takeBack wsX2_takeBack (rmD 2 0 0) [.ref so, .ref b] [(so, .inr (2, [.ref bo, .ref ca, .ref ss, .int (iI nw), .int (iI rb)])), (bo, .inl (g_I G, 16, .inl (aI fb))), (ca, .inl (g_I G, 16, .inl (aI fc))), (ss, .inl (g_J G, 16, .inr (.inl (aL fk)))), (b, .inr (0, [.ref t, .int (iI tl), .int (iI bd), .int (iI cm), .long (jL sk)]))] (fun u : Int × Int × Int × Int × Int => u.1 = (nw + 13) % 14 ∧ u.2.1 = rb - 1 ∧ u.2.2.1 = fb nw.toNat ∧ u.2.2.2.1 = fc nw.toNat ∧ u.2.2.2.2 = fk nw.toNat) (fun u : Int × Int × Int × Int × Int => none) (fun u : Int × Int × Int × Int × Int => [(so, .inr (2, [.ref bo, .ref ca, .ref ss, .int (iI u.1), .int (iI u.2.1)])), (bo, .inl (g_I G, 16, .inl (aI fb))), (ca, .inl (g_I G, 16, .inl (aI fc))), (ss, .inl (g_J G, 16, .inr (.inl (aL fk)))), (b, .inr (0, [.ref t, .int (iI (-1)), .int (iI u.2.2.1), .int (iI u.2.2.2.1), .long (jL u.2.2.2.2)]))]) := by
  refine Ct.of (cc := cX2_takeBack) (maxL := 2) (ret := none) (by decide +kernel) rfl (Nat.le_of_ble_eq_true rfl) ?_
  intro X C hG hL hnm hR
  subst hG
  subst hL
  have C : Cx X cX2_takeBack RX2 wsX2_takeBack none 2 (rmD 2 0 0) := C
  show K_ X 0 0 [(so, .inr (2, [.ref bo, .ref ca, .ref ss, .int (iI nw), .int (iI rb)])), (bo, .inl (g_I (x_G X), 16, .inl (aI fb))), (ca, .inl (g_I (x_G X), 16, .inl (aI fc))), (ss, .inl (g_J (x_G X), 16, .inr (.inl (aL fk)))), (b, .inr (0, [.ref t, .int (iI tl), .int (iI bd), .int (iI cm), .long (jL sk)]))] 0 [(0, .ref so), (1, .ref b)] []
  refine k_aload_n C 0 rfl dX2_takeBack_0 rfl ?_
  refine k_aload_n C 0 rfl dX2_takeBack_1 rfl ?_
  refine k_get C (Cn := RX2) (T := TX2) (N := 5) (ci := 2) (ref := "StruckCounts$Store") in_X2_takeBack_X2 0 rfl rfl 3 (by decide) 1 rfl rfl (v := .int (iI nw)) rfl dX2_takeBack_2 ?_
  refine k_aload_n C 1 rfl dX2_takeBack_5 rfl ?_
  refine k_callV C (y := yX2_show) [.int (iI nw), .ref b] 2 rfl (c_X2_show (x_l X) (x_G X) so bo ca ss nw rb b t tl bd cm sk nw fb fc fk (by omega)) gX2_takeBack_X2_show rfl ⟨rfl, by decide +kernel, by decide +kernel, by decide +kernel⟩ ⟨by decide, by decide⟩ 0 (fs := [.ref bo, .ref ca, .ref ss, .int (iI nw), .int (iI rb)]) rfl rfl rfl [0, 1, 2, 3, 4] (by decide) (wc := [(so, .inr (2, [.ref bo, .ref ca, .ref ss, .int (iI nw), .int (iI rb)])), (bo, .inl (g_I (x_G X), 16, .inl (aI fb))), (ca, .inl (g_I (x_G X), 16, .inl (aI fc))), (ss, .inl (g_J (x_G X), 16, .inr (.inl (aL fk)))), (b, .inr (0, [.ref t, .int (iI tl), .int (iI bd), .int (iI cm), .long (jL sk)]))]) rfl [] rfl (Nat.le_of_ble_eq_true rfl) ⟨Nat.le_of_ble_eq_true rfl, Nat.le_of_ble_eq_true rfl⟩ dX2_takeBack_6 (fun u6 => [(so, .inr (2, [.ref bo, .ref ca, .ref ss, .int (iI nw), .int (iI rb)])), (bo, .inl (g_I (x_G X), 16, .inl (aI fb))), (ca, .inl (g_I (x_G X), 16, .inl (aI fc))), (ss, .inl (g_J (x_G X), 16, .inr (.inl (aL fk)))), (b, .inr (0, [.ref t, .int (iI (-1)), .int (iI u6.1), .int (iI u6.2.1), .long (jL u6.2.2)]))]) (Or.inr ⟨[], [0, 1, 2, 3, 4], [], rfl, by decide, by decide, by decide, fun _ => rfl⟩) (fun u6 => []) (fun _ => rfl) 0 0 ⟨rfl, rfl⟩ (fun u6 hu6 => ?_)
  refine k_aload_n C 0 rfl dX2_takeBack_9 rfl ?_
  refine k_aload_n C 0 rfl dX2_takeBack_10 rfl ?_
  refine k_get C (Cn := RX2) (T := TX2) (N := 5) (ci := 2) (ref := "StruckCounts$Store") in_X2_takeBack_X2 0 rfl rfl 3 (by decide) 1 rfl rfl (v := .int (iI nw)) rfl dX2_takeBack_11 ?_
  refine k_bipush C dX2_takeBack_14 (by decide) ?_
  refine k_iadd C dX2_takeBack_16 ?_
  refine k_nmI (fun v16 e16 => ?_)
  refine k_iconst C dX2_takeBack_17 ?_
  refine k_isub C dX2_takeBack_18 ?_
  refine k_nmI (fun v18 e18 => ?_)
  refine k_bipush C dX2_takeBack_19 (by decide) ?_
  refine k_irem C ⟨by omega, by omega⟩ ⟨by omega, by omega⟩ dX2_takeBack_21 ?_
  refine k_nmI (fun v21 e21 => ?_)
  refine k_put C (Cn := RX2) (T := TX2) (N := 5) (ci := 2) (ref := "StruckCounts$Store") in_X2_takeBack_X2 tyX2 tyX2_ok nmX2 0 rfl rfl 3 (by decide) 1 rfl rfl rfl (v := .int (iI v21)) (rfl) (rfl) (Nat.le_of_ble_eq_true rfl) [(so, .inr (2, [.ref bo, .ref ca, .ref ss, .int (iI v21), .int (iI rb)])), (bo, .inl (g_I (x_G X), 16, .inl (aI fb))), (ca, .inl (g_I (x_G X), 16, .inl (aI fc))), (ss, .inl (g_J (x_G X), 16, .inr (.inl (aL fk)))), (b, .inr (0, [.ref t, .int (iI (-1)), .int (iI u6.1), .int (iI u6.2.1), .long (jL u6.2.2)]))] rfl dX2_takeBack_22 ?_
  refine k_aload_n C 0 rfl dX2_takeBack_25 rfl ?_
  refine k_aload_n C 0 rfl dX2_takeBack_26 rfl ?_
  refine k_get C (Cn := RX2) (T := TX2) (N := 5) (ci := 2) (ref := "StruckCounts$Store") in_X2_takeBack_X2 0 rfl rfl 4 (by decide) 2 rfl rfl (v := .int (iI rb)) rfl dX2_takeBack_27 ?_
  refine k_iconst C dX2_takeBack_30 ?_
  refine k_isub C dX2_takeBack_31 ?_
  refine k_nmI (fun v31 e31 => ?_)
  refine k_iconst C dX2_takeBack_32 ?_
  refine k_max C 3 4 5 6 (⟨by omega, by omega⟩) (⟨by omega, by omega⟩) rfl rfl rfl rfl (by decide) (Nat.le_of_ble_eq_true rfl) ⟨by decide, by decide⟩ dX2_takeBack_33 (fun v33 e33 => ?_)
  refine k_put C (Cn := RX2) (T := TX2) (N := 5) (ci := 2) (ref := "StruckCounts$Store") in_X2_takeBack_X2 tyX2 tyX2_ok nmX2 0 rfl rfl 4 (by decide) 2 rfl rfl rfl (v := .int (iI v33)) (rfl) (rfl) (Nat.le_of_ble_eq_true rfl) [(so, .inr (2, [.ref bo, .ref ca, .ref ss, .int (iI v21), .int (iI v33)])), (bo, .inl (g_I (x_G X), 16, .inl (aI fb))), (ca, .inl (g_I (x_G X), 16, .inl (aI fc))), (ss, .inl (g_J (x_G X), 16, .inr (.inl (aL fk)))), (b, .inr (0, [.ref t, .int (iI (-1)), .int (iI u6.1), .int (iI u6.2.1), .long (jL u6.2.2)]))] rfl dX2_takeBack_36 ?_
  exact k_vret C hR (u := (v21, v33, u6.1, u6.2.1, u6.2.2)) rfl (by (try dsimp only) <;> exact (⟨by omega, by omega, hu6.1, hu6.2.1, hu6.2.2⟩)) rfl (Nat.le_of_ble_eq_true rfl) (Nat.le_of_ble_eq_true rfl) dX2_takeBack_39
