theorem bo_t {u : Int} {P : Prop} (h : (u = 1 ∧ P) ∨ (u = 0 ∧ ¬ P)) (c : ¬ u = 0) : P := by rcases h with ⟨a, b⟩ | ⟨a, b⟩; exact b; exact absurd a c
theorem bo_f {u : Int} {P : Prop} (h : (u = 1 ∧ P) ∨ (u = 0 ∧ ¬ P)) (c : u = 0) : ¬ P := by rcases h with ⟨a, b⟩ | ⟨a, b⟩; exact absurd (a.symm.trans c) (by decide); exact b

set_option maxHeartbeats 4000000 in
set_option maxRecDepth 100000 in
theorem c_X6_outside (l : Launch) (G : KG) (v lo hi : Int) (hv : -2147483648 ≤ v ∧ v < 2147483648) (hlo : -2147483648 ≤ lo ∧ lo < 2147483648) (hhi : -2147483648 ≤ hi ∧ hi < 2147483648) : Ct l G yX6_outside wsX6_outside (rmD 0 0 0) [.int (iI v), .int (iI lo), .int (iI hi)] [] (fun u : Int => (u = 1 ∧ (v < lo ∨ hi < v)) ∨ (u = 0 ∧ ¬ (v < lo ∨ hi < v))) (fun u : Int => some (.int (iI u))) (fun u : Int => []) := by
  refine Ct.of (cc := cX6_outside) (maxL := 3) (ret := (some .boolean)) (by decide +kernel) rfl (by decide +kernel) ?_
  intro X C hG hL hnm hR
  subst hG
  subst hL
  have C : Cx X cX6_outside RX6 wsX6_outside (some .boolean) 3 (rmD 0 0 0) := C
  show K_ X 0 0 [] 0 [(0, .int (iI v)), (1, .int (iI lo)), (2, .int (iI hi))] []
  refine k_iload_n C 0 rfl dX6_outside_0 rfl ?_
  refine k_iload_n C 1 rfl dX6_outside_1 rfl ?_
  refine k_icmp_lt C 10 (⟨by omega, by omega⟩) (⟨by omega, by omega⟩) dX6_outside_2 (by decide) (fun c2 => ?_) (fun c2 => ?_)
  · skip
    refine k_iconst C dX6_outside_10 ?_
    refine k_goto C 15 dX6_outside_11 (by decide) ?_
    exact k_zret C hR (by omega) (u := 1) rfl (by omega) rfl (by decide) (by decide) dX6_outside_15
  · skip
    refine k_iload_n C 0 rfl dX6_outside_5 rfl ?_
    refine k_iload_n C 2 rfl dX6_outside_6 rfl ?_
    refine k_icmp_le C 14 (⟨by omega, by omega⟩) (⟨by omega, by omega⟩) dX6_outside_7 (by decide) (fun c7 => ?_) (fun c7 => ?_)
    · skip
      refine k_iconst C dX6_outside_14 ?_
      exact k_zret C hR (by omega) (u := 0) rfl (by omega) rfl (by decide) (by decide) dX6_outside_15
    · skip
      refine k_iconst C dX6_outside_10 ?_
      refine k_goto C 15 dX6_outside_11 (by decide) ?_
      exact k_zret C hR (by omega) (u := 1) rfl (by omega) rfl (by decide) (by decide) dX6_outside_15
theorem in_X3_has_X3 : ∀ w ∈ wsX30, w ∈ wsX3_has := by decide +kernel
set_option maxHeartbeats 4000000 in
set_option maxRecDepth 100000 in
theorem c_X3_has (l : Launch) (G : KG) (t va re su : Nat) (tb ts : Int) (q : Int) (hq : -2147483648 ≤ q ∧ q < 2147483648) (hts : 0 ≤ ts ∧ ts ≤ 631) : Ct l G yX3_has wsX3_has (rmD 0 0 0) [.ref t, .int (iI q)] [(t, .inr (3, [.ref va, .ref re, .ref su, .int (iI tb), .int (iI ts)]))] (fun u : Int => (u = 1 ∧ (0 ≤ q ∧ q < ts)) ∨ (u = 0 ∧ ¬ (0 ≤ q ∧ q < ts))) (fun u : Int => some (.int (iI u))) (fun u : Int => [(t, .inr (3, [.ref va, .ref re, .ref su, .int (iI tb), .int (iI ts)]))]) := by
  refine Ct.of (cc := cX3_has) (maxL := 2) (ret := (some .boolean)) (by decide +kernel) rfl (by decide +kernel) ?_
  intro X C hG hL hnm hR
  subst hG
  subst hL
  have C : Cx X cX3_has RX3 wsX3_has (some .boolean) 2 (rmD 0 0 0) := C
  show K_ X 0 0 [(t, .inr (3, [.ref va, .ref re, .ref su, .int (iI tb), .int (iI ts)]))] 0 [(0, .ref t), (1, .int (iI q))] []
  refine k_iload_n C 1 rfl dX3_has_0 rfl ?_
  refine k_if_lt C 16 (⟨by omega, by omega⟩) dX3_has_1 (by decide) (fun c1 => ?_) (fun c1 => ?_)
  · skip
    refine k_iconst C dX3_has_16 ?_
    exact k_zret C hR (by omega) (u := 0) rfl (by omega) rfl (by decide) (by decide) dX3_has_17
  · skip
    refine k_iload_n C 1 rfl dX3_has_4 rfl ?_
    refine k_aload_n C 0 rfl dX3_has_5 rfl ?_
    refine k_get C (Cn := RX3) (T := TX3) (N := 5) (ci := 3) (ref := "StruckCounts$Tally") in_X3_has_X3 0 rfl rfl 4 (by decide) 1 rfl rfl (v := .int (iI ts)) rfl dX3_has_6 ?_
    refine k_icmp_ge C 16 (⟨by omega, by omega⟩) (⟨by omega, by omega⟩) dX3_has_9 (by decide) (fun c9 => ?_) (fun c9 => ?_)
    · skip
      refine k_iconst C dX3_has_16 ?_
      exact k_zret C hR (by omega) (u := 0) rfl (by omega) rfl (by decide) (by decide) dX3_has_17
    · skip
      refine k_iconst C dX3_has_12 ?_
      refine k_goto C 17 dX3_has_13 (by decide) ?_
      exact k_zret C hR (by omega) (u := 1) rfl (by omega) rfl (by decide) (by decide) dX3_has_17
theorem in_X3_valueAt_X3 : ∀ w ∈ wsX30, w ∈ wsX3_valueAt := by decide +kernel
set_option maxHeartbeats 4000000 in
set_option maxRecDepth 100000 in
theorem c_X3_valueAt (l : Launch) (G : KG) (t va re su : Nat) (tb ts : Int) (q : Int) (fv : Nat → Int) (hq : -2147483648 ≤ q ∧ q < 2147483648) (hts : 0 ≤ ts ∧ ts ≤ 631) : Ct l G yX3_valueAt wsX3_valueAt (rmD 1 0 0) [.ref t, .int (iI q)] [(t, .inr (3, [.ref va, .ref re, .ref su, .int (iI tb), .int (iI ts)])), (va, .inl (g_I G, 631, .inl (aI fv)))] (fun u : Int => u = vA fv ts q) (fun u : Int => some (.int (iI u))) (fun u : Int => [(t, .inr (3, [.ref va, .ref re, .ref su, .int (iI tb), .int (iI ts)])), (va, .inl (g_I G, 631, .inl (aI fv)))]) := by
  refine Ct.of (cc := cX3_valueAt) (maxL := 2) (ret := (some .int)) (by decide +kernel) rfl (by decide +kernel) ?_
  intro X C hG hL hnm hR
  subst hG
  subst hL
  have C : Cx X cX3_valueAt RX3 wsX3_valueAt (some .int) 2 (rmD 1 0 0) := C
  show K_ X 0 0 [(t, .inr (3, [.ref va, .ref re, .ref su, .int (iI tb), .int (iI ts)])), (va, .inl (g_I (x_G X), 631, .inl (aI fv)))] 0 [(0, .ref t), (1, .int (iI q))] []
  refine k_aload_n C 0 rfl dX3_valueAt_0 rfl ?_
  refine k_iload_n C 1 rfl dX3_valueAt_1 rfl ?_
  refine k_callV C (y := yX3_has) [.int (iI q)] (c_X3_has (x_l X) (x_G X) t va re su tb ts q (by first | assumption | omega) (by first | assumption | omega)) gX3_valueAt_X3_has rfl ⟨rfl, by decide +kernel, by decide +kernel, by decide +kernel⟩ ⟨by decide, by decide⟩ 0 (fs := [.ref va, .ref re, .ref su, .int (iI tb), .int (iI ts)]) rfl rfl rfl [0] (by decide) (wc := [(t, .inr (3, [.ref va, .ref re, .ref su, .int (iI tb), .int (iI ts)]))]) rfl [] rfl (by decide) ⟨by decide, by decide⟩ dX3_valueAt_2 (fun _ => [(t, .inr (3, [.ref va, .ref re, .ref su, .int (iI tb), .int (iI ts)])), (va, .inl (g_I (x_G X), 631, .inl (aI fv)))]) (Or.inl (fun _ => ⟨rfl, rfl⟩)) (fun u2 => [.int (iI u2)]) (fun _ => rfl) 0 0 ⟨rfl, rfl⟩ (fun u2 hu2 => ?_)
  refine k_if_eq C 17 (⟨by omega, by omega⟩) dX3_valueAt_5 (by decide) (fun c5 => ?_) (fun c5 => ?_)
  · skip
    have hu2 := bo_f hu2 c5
    refine k_iconst C dX3_valueAt_17 ?_
    exact k_iret C hR (u := 0) rfl (by unfold vA; rw [if_neg (by omega)]) rfl (by decide) (by decide) dX3_valueAt_18
  · skip
    have hu2 := bo_t hu2 c5
    refine k_aload_n C 0 rfl dX3_valueAt_8 rfl ?_
    refine k_get C (Cn := RX3) (T := TX3) (N := 5) (ci := 3) (ref := "StruckCounts$Tally") in_X3_valueAt_X3 0 rfl rfl 0 (by decide) 1 rfl rfl (v := .ref va) rfl dX3_valueAt_9 ?_
    refine k_iload_n C 1 rfl dX3_valueAt_12 rfl ?_
    refine k_iald C (f := fv) 1 rfl (⟨by omega, by omega⟩) (by decide) dX3_valueAt_13 ?_
    refine k_nmI (fun v13 e13 => ?_)
    refine k_goto C 18 dX3_valueAt_14 (by decide) ?_
    exact k_iret C hR (u := v13) rfl (by unfold vA; rw [if_pos (by omega)]; assumption) rfl (by decide) (by decide) dX3_valueAt_18
theorem in_X3_sumAt_X3 : ∀ w ∈ wsX30, w ∈ wsX3_sumAt := by decide +kernel
set_option maxHeartbeats 4000000 in
set_option maxRecDepth 100000 in
theorem c_X3_sumAt (l : Launch) (G : KG) (t va re su : Nat) (tb ts : Int) (q : Int) (fs : Nat → Int) (hq : -2147483648 ≤ q ∧ q < 2147483648) (hts : 0 ≤ ts ∧ ts ≤ 631) : Ct l G yX3_sumAt wsX3_sumAt (rmD 1 0 0) [.ref t, .int (iI q)] [(t, .inr (3, [.ref va, .ref re, .ref su, .int (iI tb), .int (iI ts)])), (su, .inl (g_J G, 631, .inr (.inl (aL fs))))] (fun u : Int => u = vA fs ts q) (fun u : Int => some (.long (jL u))) (fun u : Int => [(t, .inr (3, [.ref va, .ref re, .ref su, .int (iI tb), .int (iI ts)])), (su, .inl (g_J G, 631, .inr (.inl (aL fs))))]) := by
  refine Ct.of (cc := cX3_sumAt) (maxL := 2) (ret := (some .long)) (by decide +kernel) rfl (by decide +kernel) ?_
  intro X C hG hL hnm hR
  subst hG
  subst hL
  have C : Cx X cX3_sumAt RX3 wsX3_sumAt (some .long) 2 (rmD 1 0 0) := C
  show K_ X 0 0 [(t, .inr (3, [.ref va, .ref re, .ref su, .int (iI tb), .int (iI ts)])), (su, .inl (g_J (x_G X), 631, .inr (.inl (aL fs))))] 0 [(0, .ref t), (1, .int (iI q))] []
  refine k_aload_n C 0 rfl dX3_sumAt_0 rfl ?_
  refine k_iload_n C 1 rfl dX3_sumAt_1 rfl ?_
  refine k_callV C (y := yX3_has) [.int (iI q)] (c_X3_has (x_l X) (x_G X) t va re su tb ts q (by first | assumption | omega) (by first | assumption | omega)) gX3_sumAt_X3_has rfl ⟨rfl, by decide +kernel, by decide +kernel, by decide +kernel⟩ ⟨by decide, by decide⟩ 0 (fs := [.ref va, .ref re, .ref su, .int (iI tb), .int (iI ts)]) rfl rfl rfl [0] (by decide) (wc := [(t, .inr (3, [.ref va, .ref re, .ref su, .int (iI tb), .int (iI ts)]))]) rfl [] rfl (by decide) ⟨by decide, by decide⟩ dX3_sumAt_2 (fun _ => [(t, .inr (3, [.ref va, .ref re, .ref su, .int (iI tb), .int (iI ts)])), (su, .inl (g_J (x_G X), 631, .inr (.inl (aL fs))))]) (Or.inl (fun _ => ⟨rfl, rfl⟩)) (fun u2 => [.int (iI u2)]) (fun _ => rfl) 0 0 ⟨rfl, rfl⟩ (fun u2 hu2 => ?_)
  refine k_if_eq C 17 (⟨by omega, by omega⟩) dX3_sumAt_5 (by decide) (fun c5 => ?_) (fun c5 => ?_)
  · skip
    have hu2 := bo_f hu2 c5
    refine k_lconst C dX3_sumAt_17 0 (by decide) ?_
    exact k_lret C hR (u := 0) rfl (by unfold vA; rw [if_neg (by omega)]) rfl (by decide) (by decide) dX3_sumAt_18
  · skip
    have hu2 := bo_t hu2 c5
    refine k_aload_n C 0 rfl dX3_sumAt_8 rfl ?_
    refine k_get C (Cn := RX3) (T := TX3) (N := 5) (ci := 3) (ref := "StruckCounts$Tally") in_X3_sumAt_X3 0 rfl rfl 2 (by decide) 1 rfl rfl (v := .ref su) rfl dX3_sumAt_9 ?_
    refine k_iload_n C 1 rfl dX3_sumAt_12 rfl ?_
    refine k_lald C (f := fs) 1 rfl (⟨by omega, by omega⟩) (by decide) dX3_sumAt_13 ?_
    refine k_nmL (fun v13 e13 => ?_)
    refine k_goto C 18 dX3_sumAt_14 (by decide) ?_
    exact k_lret C hR (u := v13) rfl (by unfold vA; rw [if_pos (by omega)]; assumption) rfl (by decide) (by decide) dX3_sumAt_18
