theorem bo_t {u : Int} {P : Prop} (h : (u = 1 ∧ P) ∨ (u = 0 ∧ ¬ P)) (c : ¬ u = 0) : P := by rcases h with ⟨a, b⟩ | ⟨a, b⟩; exact b; exact absurd a c
theorem bo_f {u : Int} {P : Prop} (h : (u = 1 ∧ P) ∨ (u = 0 ∧ ¬ P)) (c : u = 0) : ¬ P := by rcases h with ⟨a, b⟩ | ⟨a, b⟩; exact absurd (a.symm.trans c) (by decide); exact b

set_option maxHeartbeats 4000000 in
set_option maxRecDepth 100000 in
theorem c_X6_outside (l : Launch) (G : KG) (v lo hi : Int) (hv : -2147483648 ≤ v ∧ v < 2147483648) (hlo : -2147483648 ≤ lo ∧ lo < 2147483648) (hhi : -2147483648 ≤ hi ∧ hi < 2147483648) : Ct l G yX6_outside wsX6_outside (rmD 0 0 0) [.int (iI v), .int (iI lo), .int (iI hi)] [] (fun u : Int => (u = 1 ∧ (v < lo ∨ hi < v)) ∨ (u = 0 ∧ ¬ (v < lo ∨ hi < v))) (fun u : Int => some (.int (iI u))) (fun u : Int => []) := by
  refine Ct.of (cc := cX6_outside) (maxL := 3) (ret := (some .boolean)) (by decide +kernel) rfl (Nat.le_of_ble_eq_true rfl) ?_
  intro X C hG hL hnm hR
  subst hG
  subst hL
  have C : Cx X cX6_outside RX6 wsX6_outside (some .boolean) 3 (rmD 0 0 0) := C
  show K_ X 0 0 [] 0 [(0, .int (iI v)), (1, .int (iI lo)), (2, .int (iI hi))] []
  refine k_iload_n C 0 rfl dX6_outside_0 rfl ?_
  refine k_iload_n C 1 rfl dX6_outside_1 rfl ?_
  refine k_icmp_lt C 10 (⟨by omega, by omega⟩) (⟨by omega, by omega⟩) dX6_outside_2 (by decide) (fun c2 => ?_) (fun c2 => ?_)
  · skip
    refine k_iconst C dX6_outside_10 ?_
    refine k_goto C 15 dX6_outside_11 (by decide) ?_
    exact k_zret C hR (by omega) (u := 1) rfl (by omega) rfl (Nat.le_of_ble_eq_true rfl) (Nat.le_of_ble_eq_true rfl) dX6_outside_15
  · skip
    refine k_iload_n C 0 rfl dX6_outside_5 rfl ?_
    refine k_iload_n C 2 rfl dX6_outside_6 rfl ?_
    refine k_icmp_le C 14 (⟨by omega, by omega⟩) (⟨by omega, by omega⟩) dX6_outside_7 (by decide) (fun c7 => ?_) (fun c7 => ?_)
    · skip
      refine k_iconst C dX6_outside_14 ?_
      exact k_zret C hR (by omega) (u := 0) rfl (by omega) rfl (Nat.le_of_ble_eq_true rfl) (Nat.le_of_ble_eq_true rfl) dX6_outside_15
    · skip
      refine k_iconst C dX6_outside_10 ?_
      refine k_goto C 15 dX6_outside_11 (by decide) ?_
      exact k_zret C hR (by omega) (u := 1) rfl (by omega) rfl (Nat.le_of_ble_eq_true rfl) (Nat.le_of_ble_eq_true rfl) dX6_outside_15
theorem in_X3_has_X3 : ∀ w ∈ wsX30, w ∈ wsX3_has := by decide +kernel
set_option maxHeartbeats 4000000 in
set_option maxRecDepth 100000 in
theorem c_X3_has (l : Launch) (G : KG) (t va re su : Nat) (tb ts : Int) (q : Int) (hq : -2147483648 ≤ q ∧ q < 2147483648) (hts : 0 ≤ ts ∧ ts ≤ 631) : Ct l G yX3_has wsX3_has (rmD 0 0 0) [.ref t, .int (iI q)] [(t, .inr (3, [.ref va, .ref re, .ref su, .int (iI tb), .int (iI ts)]))] (fun u : Int => (u = 1 ∧ (0 ≤ q ∧ q < ts)) ∨ (u = 0 ∧ ¬ (0 ≤ q ∧ q < ts))) (fun u : Int => some (.int (iI u))) (fun u : Int => [(t, .inr (3, [.ref va, .ref re, .ref su, .int (iI tb), .int (iI ts)]))]) := by
  refine Ct.of (cc := cX3_has) (maxL := 2) (ret := (some .boolean)) (by decide +kernel) rfl (Nat.le_of_ble_eq_true rfl) ?_
  intro X C hG hL hnm hR
  subst hG
  subst hL
  have C : Cx X cX3_has RX3 wsX3_has (some .boolean) 2 (rmD 0 0 0) := C
  show K_ X 0 0 [(t, .inr (3, [.ref va, .ref re, .ref su, .int (iI tb), .int (iI ts)]))] 0 [(0, .ref t), (1, .int (iI q))] []
  refine k_iload_n C 1 rfl dX3_has_0 rfl ?_
  refine k_if_lt C 16 (⟨by omega, by omega⟩) dX3_has_1 (by decide) (fun c1 => ?_) (fun c1 => ?_)
  · skip
    refine k_iconst C dX3_has_16 ?_
    exact k_zret C hR (by omega) (u := 0) rfl (by omega) rfl (Nat.le_of_ble_eq_true rfl) (Nat.le_of_ble_eq_true rfl) dX3_has_17
  · skip
    refine k_iload_n C 1 rfl dX3_has_4 rfl ?_
    refine k_aload_n C 0 rfl dX3_has_5 rfl ?_
    refine k_get C (Cn := RX3) (T := TX3) (N := 5) (ci := 3) (ref := "StruckCounts$Tally") in_X3_has_X3 0 rfl rfl 4 (by decide) 1 rfl rfl (v := .int (iI ts)) rfl dX3_has_6 ?_
    refine k_icmp_ge C 16 (⟨by omega, by omega⟩) (⟨by omega, by omega⟩) dX3_has_9 (by decide) (fun c9 => ?_) (fun c9 => ?_)
    · skip
      refine k_iconst C dX3_has_16 ?_
      exact k_zret C hR (by omega) (u := 0) rfl (by omega) rfl (Nat.le_of_ble_eq_true rfl) (Nat.le_of_ble_eq_true rfl) dX3_has_17
    · skip
      refine k_iconst C dX3_has_12 ?_
      refine k_goto C 17 dX3_has_13 (by decide) ?_
      exact k_zret C hR (by omega) (u := 1) rfl (by omega) rfl (Nat.le_of_ble_eq_true rfl) (Nat.le_of_ble_eq_true rfl) dX3_has_17
theorem in_X3_valueAt_X3 : ∀ w ∈ wsX30, w ∈ wsX3_valueAt := by decide +kernel
set_option maxHeartbeats 4000000 in
set_option maxRecDepth 100000 in
theorem c_X3_valueAt (l : Launch) (G : KG) (t va re su : Nat) (tb ts : Int) (q : Int) (fv : Nat → Int) (hq : -2147483648 ≤ q ∧ q < 2147483648) (hts : 0 ≤ ts ∧ ts ≤ 631) : Ct l G yX3_valueAt wsX3_valueAt (rmD 1 0 0) [.ref t, .int (iI q)] [(t, .inr (3, [.ref va, .ref re, .ref su, .int (iI tb), .int (iI ts)])), (va, .inl (g_I G, 631, .inl (aI fv)))] (fun u : Int => u = vA fv ts q) (fun u : Int => some (.int (iI u))) (fun u : Int => [(t, .inr (3, [.ref va, .ref re, .ref su, .int (iI tb), .int (iI ts)])), (va, .inl (g_I G, 631, .inl (aI fv)))]) := by
  refine Ct.of (cc := cX3_valueAt) (maxL := 2) (ret := (some .int)) (by decide +kernel) rfl (Nat.le_of_ble_eq_true rfl) ?_
  intro X C hG hL hnm hR
  subst hG
  subst hL
  have C : Cx X cX3_valueAt RX3 wsX3_valueAt (some .int) 2 (rmD 1 0 0) := C
  show K_ X 0 0 [(t, .inr (3, [.ref va, .ref re, .ref su, .int (iI tb), .int (iI ts)])), (va, .inl (g_I (x_G X), 631, .inl (aI fv)))] 0 [(0, .ref t), (1, .int (iI q))] []
  refine k_aload_n C 0 rfl dX3_valueAt_0 rfl ?_
  refine k_iload_n C 1 rfl dX3_valueAt_1 rfl ?_
  refine k_callV C (y := yX3_has) [.int (iI q)] 1 rfl (c_X3_has (x_l X) (x_G X) t va re su tb ts q (by first | assumption | omega) (by first | assumption | omega)) gX3_valueAt_X3_has rfl ⟨rfl, by decide +kernel, by decide +kernel, by decide +kernel⟩ ⟨by decide, by decide⟩ 0 (fs := [.ref va, .ref re, .ref su, .int (iI tb), .int (iI ts)]) rfl rfl rfl [0] (by decide) (wc := [(t, .inr (3, [.ref va, .ref re, .ref su, .int (iI tb), .int (iI ts)]))]) rfl [] rfl (Nat.le_of_ble_eq_true rfl) ⟨Nat.le_of_ble_eq_true rfl, Nat.le_of_ble_eq_true rfl⟩ dX3_valueAt_2 (fun _ => [(t, .inr (3, [.ref va, .ref re, .ref su, .int (iI tb), .int (iI ts)])), (va, .inl (g_I (x_G X), 631, .inl (aI fv)))]) (Or.inl (fun _ => ⟨rfl, rfl⟩)) (fun u2 => [.int (iI u2)]) (fun _ => rfl) 0 0 ⟨rfl, rfl⟩ (fun u2 hu2 => ?_)
  refine k_if_eq C 17 (⟨by omega, by omega⟩) dX3_valueAt_5 (by decide) (fun c5 => ?_) (fun c5 => ?_)
  · skip
    have hu2 := bo_f hu2 c5
    refine k_iconst C dX3_valueAt_17 ?_
    exact k_iret C hR (u := 0) rfl (by unfold vA; rw [if_neg (by omega)]) rfl (Nat.le_of_ble_eq_true rfl) (Nat.le_of_ble_eq_true rfl) dX3_valueAt_18
  · skip
    have hu2 := bo_t hu2 c5
    refine k_aload_n C 0 rfl dX3_valueAt_8 rfl ?_
    refine k_get C (Cn := RX3) (T := TX3) (N := 5) (ci := 3) (ref := "StruckCounts$Tally") in_X3_valueAt_X3 0 rfl rfl 0 (by decide) 1 rfl rfl (v := .ref va) rfl dX3_valueAt_9 ?_
    refine k_iload_n C 1 rfl dX3_valueAt_12 rfl ?_
    refine k_iald C (f := fv) 1 rfl (⟨by omega, by omega⟩) (by decide) dX3_valueAt_13 ?_
    refine k_nmI (fun v13 e13 => ?_)
    refine k_goto C 18 dX3_valueAt_14 (by decide) ?_
    exact k_iret C hR (u := v13) rfl (by unfold vA; rw [if_pos (by omega)]; assumption) rfl (Nat.le_of_ble_eq_true rfl) (Nat.le_of_ble_eq_true rfl) dX3_valueAt_18
theorem in_X3_sumAt_X3 : ∀ w ∈ wsX30, w ∈ wsX3_sumAt := by decide +kernel
set_option maxHeartbeats 4000000 in
set_option maxRecDepth 100000 in
theorem c_X3_sumAt (l : Launch) (G : KG) (t va re su : Nat) (tb ts : Int) (q : Int) (fs : Nat → Int) (hq : -2147483648 ≤ q ∧ q < 2147483648) (hts : 0 ≤ ts ∧ ts ≤ 631) : Ct l G yX3_sumAt wsX3_sumAt (rmD 1 0 0) [.ref t, .int (iI q)] [(t, .inr (3, [.ref va, .ref re, .ref su, .int (iI tb), .int (iI ts)])), (su, .inl (g_J G, 631, .inr (.inl (aL fs))))] (fun u : Int => u = vA fs ts q) (fun u : Int => some (.long (jL u))) (fun u : Int => [(t, .inr (3, [.ref va, .ref re, .ref su, .int (iI tb), .int (iI ts)])), (su, .inl (g_J G, 631, .inr (.inl (aL fs))))]) := by
  refine Ct.of (cc := cX3_sumAt) (maxL := 2) (ret := (some .long)) (by decide +kernel) rfl (Nat.le_of_ble_eq_true rfl) ?_
  intro X C hG hL hnm hR
  subst hG
  subst hL
  have C : Cx X cX3_sumAt RX3 wsX3_sumAt (some .long) 2 (rmD 1 0 0) := C
  show K_ X 0 0 [(t, .inr (3, [.ref va, .ref re, .ref su, .int (iI tb), .int (iI ts)])), (su, .inl (g_J (x_G X), 631, .inr (.inl (aL fs))))] 0 [(0, .ref t), (1, .int (iI q))] []
  refine k_aload_n C 0 rfl dX3_sumAt_0 rfl ?_
  refine k_iload_n C 1 rfl dX3_sumAt_1 rfl ?_
  refine k_callV C (y := yX3_has) [.int (iI q)] 1 rfl (c_X3_has (x_l X) (x_G X) t va re su tb ts q (by first | assumption | omega) (by first | assumption | omega)) gX3_sumAt_X3_has rfl ⟨rfl, by decide +kernel, by decide +kernel, by decide +kernel⟩ ⟨by decide, by decide⟩ 0 (fs := [.ref va, .ref re, .ref su, .int (iI tb), .int (iI ts)]) rfl rfl rfl [0] (by decide) (wc := [(t, .inr (3, [.ref va, .ref re, .ref su, .int (iI tb), .int (iI ts)]))]) rfl [] rfl (Nat.le_of_ble_eq_true rfl) ⟨Nat.le_of_ble_eq_true rfl, Nat.le_of_ble_eq_true rfl⟩ dX3_sumAt_2 (fun _ => [(t, .inr (3, [.ref va, .ref re, .ref su, .int (iI tb), .int (iI ts)])), (su, .inl (g_J (x_G X), 631, .inr (.inl (aL fs))))]) (Or.inl (fun _ => ⟨rfl, rfl⟩)) (fun u2 => [.int (iI u2)]) (fun _ => rfl) 0 0 ⟨rfl, rfl⟩ (fun u2 hu2 => ?_)
  refine k_if_eq C 17 (⟨by omega, by omega⟩) dX3_sumAt_5 (by decide) (fun c5 => ?_) (fun c5 => ?_)
  · skip
    have hu2 := bo_f hu2 c5
    refine k_lconst C dX3_sumAt_17 0 (by decide) ?_
    exact k_lret C hR (u := 0) rfl (by unfold vA; rw [if_neg (by omega)]) rfl (Nat.le_of_ble_eq_true rfl) (Nat.le_of_ble_eq_true rfl) dX3_sumAt_18
  · skip
    have hu2 := bo_t hu2 c5
    refine k_aload_n C 0 rfl dX3_sumAt_8 rfl ?_
    refine k_get C (Cn := RX3) (T := TX3) (N := 5) (ci := 3) (ref := "StruckCounts$Tally") in_X3_sumAt_X3 0 rfl rfl 2 (by decide) 1 rfl rfl (v := .ref su) rfl dX3_sumAt_9 ?_
    refine k_iload_n C 1 rfl dX3_sumAt_12 rfl ?_
    refine k_lald C (f := fs) 1 rfl (⟨by omega, by omega⟩) (by decide) dX3_sumAt_13 ?_
    refine k_nmL (fun v13 e13 => ?_)
    refine k_goto C 18 dX3_sumAt_14 (by decide) ?_
    exact k_lret C hR (u := v13) rfl (by unfold vA; rw [if_pos (by omega)]; assumption) rfl (Nat.le_of_ble_eq_true rfl) (Nat.le_of_ble_eq_true rfl) dX3_sumAt_18
theorem in_X3_restAt_X3 : ∀ w ∈ wsX30, w ∈ wsX3_restAt := by decide +kernel
set_option maxHeartbeats 4000000 in
set_option maxRecDepth 100000 in
theorem c_X3_restAt (l : Launch) (G : KG) (t va re su : Nat) (tb ts : Int) (p r : Int) (fr : Nat → Int) (hp : -2147483648 ≤ p ∧ p < 2147483648) (hr : -2147483648 ≤ r ∧ r < 2147483648) (hts : 0 ≤ ts ∧ ts ≤ 631) : Ct l G yX3_restAt wsX3_restAt (rmD 1 0 0) [.ref t, .int (iI p), .int (iI r)] [(t, .inr (3, [.ref va, .ref re, .ref su, .int (iI tb), .int (iI ts)])), (re, .inl (g_I G, 2524, .inl (aI fr)))] (fun u : Int => u = rA fr ts p r) (fun u : Int => some (.int (iI u))) (fun u : Int => [(t, .inr (3, [.ref va, .ref re, .ref su, .int (iI tb), .int (iI ts)])), (re, .inl (g_I G, 2524, .inl (aI fr)))]) := by
  refine Ct.of (cc := cX3_restAt) (maxL := 3) (ret := (some .int)) (by decide +kernel) rfl (Nat.le_of_ble_eq_true rfl) ?_
  intro X C hG hL hnm hR
  subst hG
  subst hL
  have C : Cx X cX3_restAt RX3 wsX3_restAt (some .int) 3 (rmD 1 0 0) := C
  show K_ X 0 0 [(t, .inr (3, [.ref va, .ref re, .ref su, .int (iI tb), .int (iI ts)])), (re, .inl (g_I (x_G X), 2524, .inl (aI fr)))] 0 [(0, .ref t), (1, .int (iI p)), (2, .int (iI r))] []
  refine k_aload_n C 0 rfl dX3_restAt_0 rfl ?_
  refine k_iload_n C 1 rfl dX3_restAt_1 rfl ?_
  refine k_callV C (y := yX3_has) [.int (iI p)] 1 rfl (c_X3_has (x_l X) (x_G X) t va re su tb ts p (by first | assumption | omega) (by first | assumption | omega)) gX3_restAt_X3_has rfl ⟨rfl, by decide +kernel, by decide +kernel, by decide +kernel⟩ ⟨by decide, by decide⟩ 0 (fs := [.ref va, .ref re, .ref su, .int (iI tb), .int (iI ts)]) rfl rfl rfl [0] (by decide) (wc := [(t, .inr (3, [.ref va, .ref re, .ref su, .int (iI tb), .int (iI ts)]))]) rfl [] rfl (Nat.le_of_ble_eq_true rfl) ⟨Nat.le_of_ble_eq_true rfl, Nat.le_of_ble_eq_true rfl⟩ dX3_restAt_2 (fun _ => [(t, .inr (3, [.ref va, .ref re, .ref su, .int (iI tb), .int (iI ts)])), (re, .inl (g_I (x_G X), 2524, .inl (aI fr)))]) (Or.inl (fun _ => ⟨rfl, rfl⟩)) (fun u2 => [.int (iI u2)]) (fun _ => rfl) 0 0 ⟨rfl, rfl⟩ (fun u2 hu2 => ?_)
  refine k_if_eq C 30 (⟨by omega, by omega⟩) dX3_restAt_5 (by decide) (fun c5 => ?_) (fun c5 => ?_)
  · skip
    have hu2 := bo_f hu2 c5
    refine k_iconst C dX3_restAt_30 ?_
    exact k_iret C hR (u := 0) rfl (by unfold rA; rw [if_neg (by omega)]) rfl (Nat.le_of_ble_eq_true rfl) (Nat.le_of_ble_eq_true rfl) dX3_restAt_31
  · skip
    have hu2 := bo_t hu2 c5
    refine k_iload_n C 2 rfl dX3_restAt_8 rfl ?_
    refine k_iconst C dX3_restAt_9 ?_
    refine k_iconst C dX3_restAt_10 ?_
    refine k_callSN C (y := yX6_outside) [.int (iI r), .int (iI 0), .int (iI 3)] 3 rfl (c_X6_outside (x_l X) (x_G X) r 0 3 (by first | assumption | omega) (by first | assumption | omega) (by first | assumption | omega)) gX3_restAt_X6_outside_n48 rfl 4 rfl 9 8 rfl rfl ⟨by decide +kernel, by decide +kernel, by decide +kernel⟩ ⟨by decide, by decide⟩ [] (by decide) (wc := []) rfl [] rfl (Nat.le_of_ble_eq_true rfl) ⟨Nat.le_of_ble_eq_true rfl, Nat.le_of_ble_eq_true rfl⟩ dX3_restAt_11 (fun _ => [(t, .inr (3, [.ref va, .ref re, .ref su, .int (iI tb), .int (iI ts)])), (re, .inl (g_I (x_G X), 2524, .inl (aI fr)))]) (Or.inl (fun _ => ⟨rfl, rfl⟩)) (fun u11 => [.int (iI u11)]) (fun _ => rfl) 0 0 ⟨rfl, rfl⟩ (fun u11 hu11 => ?_)
    refine k_if_ne C 30 (⟨by omega, by omega⟩) dX3_restAt_14 (by decide) (fun c14 => ?_) (fun c14 => ?_)
    · skip
      have hu11 := bo_t hu11 c14
      refine k_iconst C dX3_restAt_30 ?_
      exact k_iret C hR (u := 0) rfl (by unfold rA; rw [if_neg (by omega)]) rfl (Nat.le_of_ble_eq_true rfl) (Nat.le_of_ble_eq_true rfl) dX3_restAt_31
    · skip
      have hu11 := bo_f hu11 c14
      refine k_aload_n C 0 rfl dX3_restAt_17 rfl ?_
      refine k_get C (Cn := RX3) (T := TX3) (N := 5) (ci := 3) (ref := "StruckCounts$Tally") in_X3_restAt_X3 0 rfl rfl 1 (by decide) 1 rfl rfl (v := .ref re) rfl dX3_restAt_18 ?_
      refine k_iconst C dX3_restAt_21 ?_
      refine k_iload_n C 1 rfl dX3_restAt_22 rfl ?_
      refine k_imul C dX3_restAt_23 ?_
      refine k_nmI (fun v23 e23 => ?_)
      refine k_iload_n C 2 rfl dX3_restAt_24 rfl ?_
      refine k_iadd C dX3_restAt_25 ?_
      refine k_nmI (fun v25 e25 => ?_)
      refine k_iald C (f := fr) 1 rfl (⟨by omega, by omega⟩) (by decide) dX3_restAt_26 ?_
      refine k_nmI (fun v26 e26 => ?_)
      refine k_goto C 31 dX3_restAt_27 (by decide) ?_
      exact k_iret C hR (u := v26) rfl (by unfold rA; rw [if_pos (by omega)]; rw [e26, e25, e23]) rfl (Nat.le_of_ble_eq_true rfl) (Nat.le_of_ble_eq_true rfl) dX3_restAt_31
set_option maxHeartbeats 4000000 in
set_option maxRecDepth 100000 in
theorem c_X3_countAt (l : Launch) (G : KG) (t va re su : Nat) (tb ts : Int) (p : Int) (fr : Nat → Int) (hp : -2147483648 ≤ p ∧ p < 2147483648) (hts : 0 ≤ ts ∧ ts ≤ 631) : Ct l G yX3_countAt wsX3_countAt (rmD 2 0 0) [.ref t, .int (iI p)] [(t, .inr (3, [.ref va, .ref re, .ref su, .int (iI tb), .int (iI ts)])), (re, .inl (g_I G, 2524, .inl (aI fr)))] (fun u : Int => u = rA fr ts p 0 + rA fr ts p 1 + rA fr ts p 2 + rA fr ts p 3) (fun u : Int => some (.int (iI u))) (fun u : Int => [(t, .inr (3, [.ref va, .ref re, .ref su, .int (iI tb), .int (iI ts)])), (re, .inl (g_I G, 2524, .inl (aI fr)))]) := by
  refine Ct.of (cc := cX3_countAt) (maxL := 4) (ret := (some .int)) (by decide +kernel) rfl (Nat.le_of_ble_eq_true rfl) ?_
  intro X C hG hL hnm hR
  subst hG
  subst hL
  have C : Cx X cX3_countAt RX3 wsX3_countAt (some .int) 4 (rmD 2 0 0) := C
  show K_ X 0 0 [(t, .inr (3, [.ref va, .ref re, .ref su, .int (iI tb), .int (iI ts)])), (re, .inl (g_I (x_G X), 2524, .inl (aI fr)))] 0 [(0, .ref t), (1, .int (iI p))] []
  refine k_iconst C dX3_countAt_0 ?_
  refine k_istore_n C (lo' := [(2, .int (iI 0)), (0, .ref t), (1, .int (iI p))]) dX3_countAt_1 rfl (by decide) rfl ?_
  refine k_iconst C dX3_countAt_2 ?_
  refine k_istore_n C (lo' := [(3, .int (iI 0)), (2, .int (iI 0)), (0, .ref t), (1, .int (iI p))]) dX3_countAt_3 rfl (by decide) rfl ?_
  have L4 : ∀ (nf : Nat) (cn : Int) (i : Int), ((i = 0 ∧ cn = 0) ∨ (i = 1 ∧ cn = rA fr ts p 0) ∨ (i = 2 ∧ cn = rA fr ts p 0 + rA fr ts p 1) ∨ (i = 3 ∧ cn = rA fr ts p 0 + rA fr ts p 1 + rA fr ts p 2) ∨ (i = 4 ∧ cn = rA fr ts p 0 + rA fr ts p 1 + rA fr ts p 2 + rA fr ts p 3)) → (4 - i).toNat < nf → K_ X 0 0 [(t, .inr (3, [.ref va, .ref re, .ref su, .int (iI tb), .int (iI ts)])), (re, .inl (g_I (x_G X), 2524, .inl (aI fr)))] 4 [(3, .int (iI i)), (2, .int (iI cn)), (0, .ref t), (1, .int (iI p))] [] := by
    intro nf
    induction nf with
    | zero => intro cn i hI hm; exact absurd hm (Nat.not_lt_zero _)
    | succ nf ih4 =>
      intro cn i hI4 hm4
      refine k_iload_n C 0 rfl dX3_countAt_4 rfl ?_
      refine k_iconst C dX3_countAt_5 ?_
      refine k_icmp_ge C 24 (⟨by omega, by omega⟩) (⟨by omega, by omega⟩) dX3_countAt_6 (by decide) (fun c6 => ?_) (fun c6 => ?_)
      · skip
        refine k_iload_n C 1 rfl dX3_countAt_24 rfl ?_
        exact k_iret C hR (u := cn) rfl (by omega) rfl (Nat.le_of_ble_eq_true rfl) (Nat.le_of_ble_eq_true rfl) dX3_countAt_25
      · skip
        refine k_iload_n C 1 rfl dX3_countAt_9 rfl ?_
        refine k_aload_n C 2 rfl dX3_countAt_10 rfl ?_
        refine k_iload_n C 3 rfl dX3_countAt_11 rfl ?_
        refine k_iload_n C 0 rfl dX3_countAt_12 rfl ?_
        refine k_callV C (y := yX3_restAt) [.int (iI p), .int (iI i)] 2 rfl (c_X3_restAt (x_l X) (x_G X) t va re su tb ts p i fr (by first | assumption | omega) (by first | assumption | omega) (by first | assumption | omega)) gX3_countAt_X3_restAt rfl ⟨rfl, by decide +kernel, by decide +kernel, by decide +kernel⟩ ⟨by decide, by decide⟩ 0 (fs := [.ref va, .ref re, .ref su, .int (iI tb), .int (iI ts)]) rfl rfl rfl [0, 1] (by decide) (wc := [(t, .inr (3, [.ref va, .ref re, .ref su, .int (iI tb), .int (iI ts)])), (re, .inl (g_I (x_G X), 2524, .inl (aI fr)))]) rfl [.int (iI cn)] rfl (Nat.le_of_ble_eq_true rfl) ⟨Nat.le_of_ble_eq_true rfl, Nat.le_of_ble_eq_true rfl⟩ dX3_countAt_13 (fun _ => [(t, .inr (3, [.ref va, .ref re, .ref su, .int (iI tb), .int (iI ts)])), (re, .inl (g_I (x_G X), 2524, .inl (aI fr)))]) (Or.inl (fun _ => ⟨rfl, rfl⟩)) (fun u13 => [.int (iI u13), .int (iI cn)]) (fun _ => rfl) 0 0 ⟨rfl, rfl⟩ (fun u13 hu13 => ?_)
        refine k_iadd C dX3_countAt_16 ?_
        refine k_nmI (fun v16 e16 => ?_)
        refine k_istore_n C (lo' := [(2, .int (iI v16)), (3, .int (iI i)), (0, .ref t), (1, .int (iI p))]) dX3_countAt_17 rfl (by decide) rfl ?_
        obtain ⟨v18, e18⟩ : ∃ y : Int, y = i + 1 := ⟨_, rfl⟩
        refine k_iinc C (lo' := [(3, .int (iI v18)), (2, .int (iI v16)), (0, .ref t), (1, .int (iI p))]) 1 rfl dX3_countAt_18 (by decide) v18 e18 rfl ?_
        refine k_goto C 4 dX3_countAt_21 (by decide) ?_
        exact ih4 v16 v18 (by rcases hI4 with ⟨a, b⟩ | ⟨a, b⟩ | ⟨a, b⟩ | ⟨a, b⟩ | ⟨a, b⟩ <;> subst a <;> omega) (by omega)
  exact L4 _ 0 0 (by omega) (Nat.lt_succ_self _)
theorem in_X3_placeOf_X3 : ∀ w ∈ wsX30, w ∈ wsX3_placeOf := by decide +kernel
set_option maxHeartbeats 4000000 in
set_option maxRecDepth 100000 in
theorem c_X3_placeOf (l : Launch) (G : KG) (t va re su : Nat) (tb ts : Int) (n : Nat) (v : Int) (hv : -2147483648 ≤ v ∧ v < 2147483648) (hn : 1 ≤ n ∧ n ≤ 99999) (htb : tb = (n : Int)) (hts : ts = (SZ n : Int)) : Ct l G yX3_placeOf wsX3_placeOf (rmD 0 0 0) [.ref t, .int (iI v)] [(t, .inr (3, [.ref va, .ref re, .ref su, .int (iI tb), .int (iI ts)]))] (fun u : Int => u = pI n v) (fun u : Int => some (.int (iI u))) (fun u : Int => [(t, .inr (3, [.ref va, .ref re, .ref su, .int (iI tb), .int (iI ts)]))]) := by
  refine Ct.of (cc := cX3_placeOf) (maxL := 3) (ret := (some .int)) (by decide +kernel) rfl (Nat.le_of_ble_eq_true rfl) ?_
  intro X C hG hL hnm hR
  subst hG
  subst hL
  have C : Cx X cX3_placeOf RX3 wsX3_placeOf (some .int) 3 (rmD 0 0 0) := C
  have hz := SZ_631 hn.2
  have hdl := Int.ediv_le_self (a := tb) v (by omega)
  show K_ X 0 0 [(t, .inr (3, [.ref va, .ref re, .ref su, .int (iI tb), .int (iI ts)]))] 0 [(0, .ref t), (1, .int (iI v))] []
  refine k_iload_n C 1 rfl dX3_placeOf_0 rfl ?_
  refine k_iconst C dX3_placeOf_1 ?_
  refine k_icmp_lt C 13 (⟨by omega, by omega⟩) (⟨by omega, by omega⟩) dX3_placeOf_2 (by decide) (fun c2 => ?_) (fun c2 => ?_)
  · skip
    refine k_iconst C dX3_placeOf_13 ?_
    exact k_iret C hR (u := (-1)) rfl (by first | (rw [pI_lo (by omega)]) | (rw [pI_hi (by omega)])) rfl (Nat.le_of_ble_eq_true rfl) (Nat.le_of_ble_eq_true rfl) dX3_placeOf_14
  · skip
    refine k_iload_n C 1 rfl dX3_placeOf_5 rfl ?_
    refine k_aload_n C 0 rfl dX3_placeOf_6 rfl ?_
    refine k_get C (Cn := RX3) (T := TX3) (N := 5) (ci := 3) (ref := "StruckCounts$Tally") in_X3_placeOf_X3 0 rfl rfl 3 (by decide) 1 rfl rfl (v := .int (iI tb)) rfl dX3_placeOf_7 ?_
    refine k_icmp_le C 15 (⟨by omega, by omega⟩) (⟨by omega, by omega⟩) dX3_placeOf_10 (by decide) (fun c10 => ?_) (fun c10 => ?_)
    · skip
      refine k_aload_n C 0 rfl dX3_placeOf_15 rfl ?_
      refine k_get C (Cn := RX3) (T := TX3) (N := 5) (ci := 3) (ref := "StruckCounts$Tally") in_X3_placeOf_X3 0 rfl rfl 3 (by decide) 1 rfl rfl (v := .int (iI tb)) rfl dX3_placeOf_16 ?_
      refine k_iload_n C 1 rfl dX3_placeOf_19 rfl ?_
      refine k_idiv C ⟨by omega, by omega⟩ ⟨by omega, by omega⟩ dX3_placeOf_20 ?_
      refine k_nmI (fun v20 e20 => ?_)
      have hd0 := Int.ediv_nonneg (a := tb) (b := v) (by omega) (by omega)
      refine k_istore_n C (lo' := [(2, .int (iI v20)), (0, .ref t), (1, .int (iI v))]) dX3_placeOf_21 rfl (by decide) rfl ?_
      refine k_iload_n C 0 rfl dX3_placeOf_22 rfl ?_
      refine k_iconst C dX3_placeOf_23 ?_
      refine k_icmp_lt C 37 (⟨by omega, by omega⟩) (⟨by omega, by omega⟩) dX3_placeOf_24 (by decide) (fun c24 => ?_) (fun c24 => ?_)
      · skip
        refine k_iconst C dX3_placeOf_37 ?_
        exact k_iret C hR (u := (-1)) rfl (by rw [htb] at *; rw [pI_bad (d := v20) (by omega) e20 (by omega)]) rfl (Nat.le_of_ble_eq_true rfl) (Nat.le_of_ble_eq_true rfl) dX3_placeOf_38
      · skip
        refine k_aload_n C 1 rfl dX3_placeOf_27 rfl ?_
        refine k_get C (Cn := RX3) (T := TX3) (N := 5) (ci := 3) (ref := "StruckCounts$Tally") in_X3_placeOf_X3 0 rfl rfl 3 (by decide) 1 rfl rfl (v := .int (iI tb)) rfl dX3_placeOf_28 ?_
        refine k_iload_n C 0 rfl dX3_placeOf_31 rfl ?_
        refine k_idiv C ⟨by omega, by omega⟩ ⟨by omega, by omega⟩ dX3_placeOf_32 ?_
        refine k_nmI (fun v32 e32 => ?_)
        have hd1 := Int.ediv_nonneg (a := tb) (b := v20) (by omega) (by omega)
        have hd2 := Int.ediv_le_self (a := tb) v20 (by omega)
        refine k_iload_n C 2 rfl dX3_placeOf_33 rfl ?_
        refine k_icmp_eq C 39 (⟨by omega, by omega⟩) (⟨by omega, by omega⟩) dX3_placeOf_34 (by decide) (fun c34 => ?_) (fun c34 => ?_)
        · skip
          refine k_iload_n C 2 rfl dX3_placeOf_39 rfl ?_
          refine k_iload_n C 0 rfl dX3_placeOf_40 rfl ?_
          refine k_icmp_gt C 53 (⟨by omega, by omega⟩) (⟨by omega, by omega⟩) dX3_placeOf_41 (by decide) (fun c41 => ?_) (fun c41 => ?_)
          · skip
            refine k_iload_n C 0 rfl dX3_placeOf_53 rfl ?_
            refine k_iconst C dX3_placeOf_54 ?_
            refine k_isub C dX3_placeOf_55 ?_
            refine k_nmI (fun v55 e55 => ?_)
            exact k_iret C hR (u := v55) rfl (by rw [htb] at *; rw [pI_ok (d := v20) (by omega) (by omega) e20 (by omega), if_neg (by omega)]; omega) rfl (Nat.le_of_ble_eq_true rfl) (Nat.le_of_ble_eq_true rfl) dX3_placeOf_56
          · skip
            refine k_aload_n C 1 rfl dX3_placeOf_44 rfl ?_
            refine k_get C (Cn := RX3) (T := TX3) (N := 5) (ci := 3) (ref := "StruckCounts$Tally") in_X3_placeOf_X3 0 rfl rfl 4 (by decide) 2 rfl rfl (v := .int (iI ts)) rfl dX3_placeOf_45 ?_
            refine k_iload_n C 2 rfl dX3_placeOf_48 rfl ?_
            refine k_isub C dX3_placeOf_49 ?_
            refine k_nmI (fun v49 e49 => ?_)
            refine k_goto C 56 dX3_placeOf_50 (by decide) ?_
            exact k_iret C hR (u := v49) rfl (by rw [htb] at *; rw [pI_ok (d := v20) (by omega) (by omega) e20 (by omega), if_pos (by omega)]; omega) rfl (Nat.le_of_ble_eq_true rfl) (Nat.le_of_ble_eq_true rfl) dX3_placeOf_56
        · skip
          refine k_iconst C dX3_placeOf_37 ?_
          exact k_iret C hR (u := (-1)) rfl (by rw [htb] at *; rw [pI_bad (d := v20) (by omega) e20 (by omega)]) rfl (Nat.le_of_ble_eq_true rfl) (Nat.le_of_ble_eq_true rfl) dX3_placeOf_38
    · skip
      refine k_iconst C dX3_placeOf_13 ?_
      exact k_iret C hR (u := (-1)) rfl (by first | (rw [pI_lo (by omega)]) | (rw [pI_hi (by omega)])) rfl (Nat.le_of_ble_eq_true rfl) (Nat.le_of_ble_eq_true rfl) dX3_placeOf_14
