def wsI (n k m : Nat) (i : Int) : Int := if nxI n k = -1 then 0 else (cA m k (qv n i.toNat / sp k) : Int)
def tws (x : Nat) : Nat → Int
  | 0 => 0
  | i + 1 => tws x i + (if sp i * sp i ≤ x then (ct isP (x / sp i) : Int) - i else 0)
theorem tws_end {x i : Nat} (h : i < 65 → x < sp i * sp i) : ∀ d, i + d ≤ 65 → tws x (i + d) = tws x i
  | 0, _ => rfl
  | d + 1, hd => by
    have ih := tws_end h d (by omega)
    have e : tws x (i + (d + 1)) = tws x (i + d) + (if sp (i + d) * sp (i + d) ≤ x then (ct isP (x / sp (i + d)) : Int) - ((i + d : Nat) : Int) else 0) := rfl
    rw [e]
    have h1 := h (by omega)
    have h2 : sp i ≤ sp (i + d) := by
      rcases Nat.eq_zero_or_pos d with z | z
      · rw [z]; exact Nat.le_refl _
      · exact Nat.le_of_lt (sp_lt (by omega) (by omega))
    have := Nat.mul_le_mul h2 h2
    rw [if_neg (by omega), ih, Int.add_zero]
theorem tws_step {x i : Nat} (h : sp i * sp i ≤ x) : tws x (i + 1) = tws x i + ((ct isP (x / sp i) : Int) - i) := by
  show tws x i + (if sp i * sp i ≤ x then _ else _) = _
  rw [if_pos h]








theorem in_X6_wouldStrike_X6 : ∀ w ∈ wsX60, w ∈ wsX6_wouldStrike := by decide +kernel
set_option maxHeartbeats 4000000 in
set_option maxRecDepth 100000 in
theorem c_X6_wouldStrike (l : Launch) (G : KG) (sc tx so pr b2 : Nat) (b t va re su : Nat) (tl tb ts bd cm sk : Int) (n k m : Nat) (fv fr fs : Nat → Int) (i : Int) (hS : BdS n k m bd cm sk) (hT : BdT n k m tl tb ts fv fr fs) (hi : -2147483648 ≤ i ∧ i < 2147483648) (hfl : l.stackTraces = false) : Cxt l G yX6_wouldStrike wsX6_wouldStrike (rmD 7 1 6) [.ref sc, .int (iI i)] [(sc, .inr (5, [.ref tx, .ref b, .ref so, .ref pr, .ref b2])), (b, .inr (0, [.ref t, .int (iI tl), .int (iI bd), .int (iI cm), .long (jL sk)])), (t, .inr (3, [.ref va, .ref re, .ref su, .int (iI tb), .int (iI ts)])), (va, .inl (g_I G, 631, .inl (aI fv))), (re, .inl (g_I G, 2524, .inl (aI fr))), (su, .inl (g_J G, 631, .inr (.inl (aL fs))))] (fun u : Int × Int × Int × Int × (Nat → Int) × (Nat → Int) × (Nat → Int) => (0 ≤ i ∧ i < (SZ n : Int)) ∧ u.1 = wsI n k m i ∧ BdT n k m u.2.1 u.2.2.1 u.2.2.2.1 u.2.2.2.2.1 u.2.2.2.2.2.1 u.2.2.2.2.2.2) (fun u : Int × Int × Int × Int × (Nat → Int) × (Nat → Int) × (Nat → Int) => some (.int (iI u.1))) (fun u : Int × Int × Int × Int × (Nat → Int) × (Nat → Int) × (Nat → Int) => [(sc, .inr (5, [.ref tx, .ref b, .ref so, .ref pr, .ref b2])), (b, .inr (0, [.ref t, .int (iI u.2.1), .int (iI bd), .int (iI cm), .long (jL sk)])), (t, .inr (3, [.ref va, .ref re, .ref su, .int (iI u.2.2.1), .int (iI u.2.2.2.1)])), (va, .inl (g_I G, 631, .inl (aI u.2.2.2.2.1))), (re, .inl (g_I G, 2524, .inl (aI u.2.2.2.2.2.1))), (su, .inl (g_J G, 631, .inr (.inl (aL u.2.2.2.2.2.2))))]) (fun v : Int × Int × Int × (Nat → Int) × (Nat → Int) × (Nat → Int) => ¬ (0 ≤ i ∧ i < (SZ n : Int)) ∧ BdT n k m v.1 v.2.1 v.2.2.1 v.2.2.2.1 v.2.2.2.2.1 v.2.2.2.2.2) (fun v : Int × Int × Int × (Nat → Int) × (Nat → Int) × (Nat → Int) => "java/lang/IndexOutOfBoundsException") (fun v : Int × Int × Int × (Nat → Int) × (Nat → Int) × (Nat → Int) => [(sc, .inr (5, [.ref tx, .ref b, .ref so, .ref pr, .ref b2])), (b, .inr (0, [.ref t, .int (iI v.1), .int (iI bd), .int (iI cm), .long (jL sk)])), (t, .inr (3, [.ref va, .ref re, .ref su, .int (iI v.2.1), .int (iI v.2.2.1)])), (va, .inl (g_I G, 631, .inl (aI v.2.2.2.1))), (re, .inl (g_I G, 2524, .inl (aI v.2.2.2.2.1))), (su, .inl (g_J G, 631, .inr (.inl (aL v.2.2.2.2.2))))]) := by
  refine Cxt.of (cc := cX6_wouldStrike) (maxL := 3) (ret := (some .int)) (by decide +kernel) rfl (Nat.le_of_ble_eq_true rfl) ?_
  intro X C hG hL hnm hR hQ htab
  subst hG
  subst hL
  have C : Cx X cX6_wouldStrike RX6 wsX6_wouldStrike (some .int) 3 (rmD 7 1 6) := C
  have hTh : Thr X (fun v : Int × Int × Int × (Nat → Int) × (Nat → Int) × (Nat → Int) => ¬ (0 ≤ i ∧ i < (SZ n : Int)) ∧ BdT n k m v.1 v.2.1 v.2.2.1 v.2.2.2.1 v.2.2.2.2.1 v.2.2.2.2.2) (fun v : Int × Int × Int × (Nat → Int) × (Nat → Int) × (Nat → Int) => "java/lang/IndexOutOfBoundsException") (fun v : Int × Int × Int × (Nat → Int) × (Nat → Int) × (Nat → Int) => [(sc, .inr (5, [.ref tx, .ref b, .ref so, .ref pr, .ref b2])), (b, .inr (0, [.ref t, .int (iI v.1), .int (iI bd), .int (iI cm), .long (jL sk)])), (t, .inr (3, [.ref va, .ref re, .ref su, .int (iI v.2.1), .int (iI v.2.2.1)])), (va, .inl (g_I (x_G X), 631, .inl (aI v.2.2.2.1))), (re, .inl (g_I (x_G X), 2524, .inl (aI v.2.2.2.2.1))), (su, .inl (g_J (x_G X), 631, .inr (.inl (aL v.2.2.2.2.2))))]) := ⟨_, by rw [C.R]; exact hQ⟩
  obtain ⟨s1, s2, s3, s4, s5, s6, s7⟩ := id hS
  show K_ X 0 0 [(sc, .inr (5, [.ref tx, .ref b, .ref so, .ref pr, .ref b2])), (b, .inr (0, [.ref t, .int (iI tl), .int (iI bd), .int (iI cm), .long (jL sk)])), (t, .inr (3, [.ref va, .ref re, .ref su, .int (iI tb), .int (iI ts)])), (va, .inl (g_I (x_G X), 631, .inl (aI fv))), (re, .inl (g_I (x_G X), 2524, .inl (aI fr))), (su, .inl (g_J (x_G X), 631, .inr (.inl (aL fs))))] 0 [(0, .ref sc), (1, .int (iI i))] []
  refine k_aload_n C 0 rfl dX6_wouldStrike_0 rfl ?_
  refine k_iload_n C 1 rfl dX6_wouldStrike_1 rfl ?_
  refine k_callVx C hTh htab (y := yX6_checkQuotient) [.int (iI i)] 1 rfl (c_X6_checkQuotient (x_l X) (x_G X) sc tx so pr b2 b t va re su tl tb ts bd cm sk n k m fv fr fs i (by assumption) (by assumption) (by assumption) (hfl)) gX6_wouldStrike_X6_checkQuotient rfl ⟨rfl, by decide +kernel, by decide +kernel, by decide +kernel⟩ ⟨by decide, by decide⟩ 0 (fs := [.ref tx, .ref b, .ref so, .ref pr, .ref b2]) rfl rfl rfl [0, 1, 2, 3, 4, 5] [] [0, 1, 2, 3, 4, 5] (by decide) (wc := [(sc, .inr (5, [.ref tx, .ref b, .ref so, .ref pr, .ref b2])), (b, .inr (0, [.ref t, .int (iI tl), .int (iI bd), .int (iI cm), .long (jL sk)])), (t, .inr (3, [.ref va, .ref re, .ref su, .int (iI tb), .int (iI ts)])), (va, .inl (g_I (x_G X), 631, .inl (aI fv))), (re, .inl (g_I (x_G X), 2524, .inl (aI fr))), (su, .inl (g_J (x_G X), 631, .inr (.inl (aL fs))))]) rfl [] rfl (Nat.le_of_ble_eq_true rfl) ⟨Nat.le_of_ble_eq_true rfl, Nat.le_of_ble_eq_true rfl⟩ dX6_wouldStrike_2 (fun u2 => [(sc, .inr (5, [.ref tx, .ref b, .ref so, .ref pr, .ref b2])), (b, .inr (0, [.ref t, .int (iI u2.1), .int (iI bd), .int (iI cm), .long (jL sk)])), (t, .inr (3, [.ref va, .ref re, .ref su, .int (iI u2.2.1), .int (iI u2.2.2.1)])), (va, .inl (g_I (x_G X), 631, .inl (aI u2.2.2.2.1))), (re, .inl (g_I (x_G X), 2524, .inl (aI u2.2.2.2.2.1))), (su, .inl (g_J (x_G X), 631, .inr (.inl (aL u2.2.2.2.2.2))))]) (fun v => [(sc, .inr (5, [.ref tx, .ref b, .ref so, .ref pr, .ref b2])), (b, .inr (0, [.ref t, .int (iI v.1), .int (iI bd), .int (iI cm), .long (jL sk)])), (t, .inr (3, [.ref va, .ref re, .ref su, .int (iI v.2.1), .int (iI v.2.2.1)])), (va, .inl (g_I (x_G X), 631, .inl (aI v.2.2.2.1))), (re, .inl (g_I (x_G X), 2524, .inl (aI v.2.2.2.2.1))), (su, .inl (g_J (x_G X), 631, .inr (.inl (aL v.2.2.2.2.2))))]) (wr := []) rfl (by decide) (by decide) (by decide) (fun _ => rfl) (fun _ => rfl) (fun u2 => []) (fun _ => rfl) 1 6 ⟨rfl, rfl⟩ (fun v hv => ⟨v, rfl, hv, rfl⟩) (fun u2 hu2 => ?_)
  refine k_aload_n C 0 rfl dX6_wouldStrike_5 rfl ?_
  refine k_get C (Cn := RX6) (T := TX6) (N := 5) (ci := 5) (ref := "StruckCounts") in_X6_wouldStrike_X6 0 rfl rfl 1 (by decide) 1 rfl rfl (v := .ref b) rfl dX6_wouldStrike_6 ?_
  refine k_callV C (y := yX0_nextPrime) [] 0 rfl (c_X0_nextPrime (x_l X) (x_G X) b t u2.1 bd cm sk n k m (by assumption)) gX6_wouldStrike_X0_nextPrime rfl ⟨rfl, by decide +kernel, by decide +kernel, by decide +kernel⟩ ⟨by decide, by decide⟩ 1 (fs := [.ref t, .int (iI u2.1), .int (iI bd), .int (iI cm), .long (jL sk)]) rfl rfl rfl [1] (by decide) (wc := [(b, .inr (0, [.ref t, .int (iI u2.1), .int (iI bd), .int (iI cm), .long (jL sk)]))]) rfl [] rfl (Nat.le_of_ble_eq_true rfl) ⟨Nat.le_of_ble_eq_true rfl, Nat.le_of_ble_eq_true rfl⟩ dX6_wouldStrike_9 (fun _ => [(sc, .inr (5, [.ref tx, .ref b, .ref so, .ref pr, .ref b2])), (b, .inr (0, [.ref t, .int (iI u2.1), .int (iI bd), .int (iI cm), .long (jL sk)])), (t, .inr (3, [.ref va, .ref re, .ref su, .int (iI u2.2.1), .int (iI u2.2.2.1)])), (va, .inl (g_I (x_G X), 631, .inl (aI u2.2.2.2.1))), (re, .inl (g_I (x_G X), 2524, .inl (aI u2.2.2.2.2.1))), (su, .inl (g_J (x_G X), 631, .inr (.inl (aL u2.2.2.2.2.2))))]) (Or.inl (fun _ => ⟨rfl, rfl⟩)) (fun u9 => [.int (iI u9)]) (fun _ => rfl) 1 6 ⟨rfl, rfl⟩ (fun u9 hu9 => ?_)
  have hr := nxI_rng n k
  refine k_istore_n C (lo' := [(2, .int (iI u9)), (0, .ref sc), (1, .int (iI i))]) dX6_wouldStrike_12 rfl (by decide) rfl ?_
  refine k_iload_n C 0 rfl dX6_wouldStrike_13 rfl ?_
  refine k_iconst C dX6_wouldStrike_14 ?_
  refine k_icmp_ne C 22 (⟨by omega, by omega⟩) (⟨by omega, by omega⟩) dX6_wouldStrike_15 (by decide) (fun c15 => ?_) (fun c15 => ?_)
  · skip
    refine k_aload_n C 1 rfl dX6_wouldStrike_22 rfl ?_
    refine k_get C (Cn := RX6) (T := TX6) (N := 5) (ci := 5) (ref := "StruckCounts") in_X6_wouldStrike_X6 0 rfl rfl 1 (by decide) 1 rfl rfl (v := .ref b) rfl dX6_wouldStrike_23 ?_
    refine k_callV C (y := yX0_tally) [] 0 rfl (c_X0_tally (x_l X) (x_G X) b t va re su u2.1 u2.2.1 u2.2.2.1 bd cm sk n k m u2.2.2.2.1 u2.2.2.2.2.1 u2.2.2.2.2.2 (by first | assumption | omega) (hu2.2)) gX6_wouldStrike_X0_tally rfl ⟨rfl, by decide +kernel, by decide +kernel, by decide +kernel⟩ ⟨by decide, by decide⟩ 1 (fs := [.ref t, .int (iI u2.1), .int (iI bd), .int (iI cm), .long (jL sk)]) rfl rfl rfl [1, 2, 3, 4, 5] (by decide) (wc := [(b, .inr (0, [.ref t, .int (iI u2.1), .int (iI bd), .int (iI cm), .long (jL sk)])), (t, .inr (3, [.ref va, .ref re, .ref su, .int (iI u2.2.1), .int (iI u2.2.2.1)])), (va, .inl (g_I (x_G X), 631, .inl (aI u2.2.2.2.1))), (re, .inl (g_I (x_G X), 2524, .inl (aI u2.2.2.2.2.1))), (su, .inl (g_J (x_G X), 631, .inr (.inl (aL u2.2.2.2.2.2))))]) rfl [] rfl (Nat.le_of_ble_eq_true rfl) ⟨Nat.le_of_ble_eq_true rfl, Nat.le_of_ble_eq_true rfl⟩ dX6_wouldStrike_26 (fun u26 => [(sc, .inr (5, [.ref tx, .ref b, .ref so, .ref pr, .ref b2])), (b, .inr (0, [.ref t, .int (iI cm), .int (iI bd), .int (iI cm), .long (jL sk)])), (t, .inr (3, [.ref va, .ref re, .ref su, .int (iI u26.1), .int (iI u26.2.1)])), (va, .inl (g_I (x_G X), 631, .inl (aI u26.2.2.1))), (re, .inl (g_I (x_G X), 2524, .inl (aI u26.2.2.2.1))), (su, .inl (g_J (x_G X), 631, .inr (.inl (aL u26.2.2.2.2))))]) (Or.inr ⟨[0], [0, 1, 2, 3, 4, 5], [(sc, .inr (5, [.ref tx, .ref b, .ref so, .ref pr, .ref b2]))], rfl, by decide, by decide, by decide, fun _ => rfl⟩) (fun u26 => [.ref t]) (fun _ => rfl) 1 6 ⟨rfl, rfl⟩ (fun u26 hu26 => ?_)
    have hB := Tl_up hS hu26
    have hz := hu26.2.1
    have hz2 := SZ_631 s5
    obtain ⟨y1, y2, y3⟩ := nxI_some (n := n) (k := k) (by omega)
    refine k_iload_n C 2 rfl dX6_wouldStrike_29 rfl ?_
    refine k_iload_n C 0 rfl dX6_wouldStrike_30 rfl ?_
    refine k_callV C (y := yX3_multiplesAt) [.int (iI i), .int (iI u9)] 2 rfl (c_X3_multiplesAt (x_l X) (x_G X) t va re su u26.1 u26.2.1 i u9 n k m u26.2.2.1 u26.2.2.2.1 u26.2.2.2.2 (by omega) (by omega) (by omega) (hu26) (by omega)) gX6_wouldStrike_X3_multiplesAt rfl ⟨rfl, by decide +kernel, by decide +kernel, by decide +kernel⟩ ⟨by decide, by decide⟩ 2 (fs := [.ref va, .ref re, .ref su, .int (iI u26.1), .int (iI u26.2.1)]) rfl rfl rfl [2, 3, 4, 5] (by decide) (wc := [(t, .inr (3, [.ref va, .ref re, .ref su, .int (iI u26.1), .int (iI u26.2.1)])), (va, .inl (g_I (x_G X), 631, .inl (aI u26.2.2.1))), (re, .inl (g_I (x_G X), 2524, .inl (aI u26.2.2.2.1))), (su, .inl (g_J (x_G X), 631, .inr (.inl (aL u26.2.2.2.2))))]) rfl [] rfl (Nat.le_of_ble_eq_true rfl) ⟨Nat.le_of_ble_eq_true rfl, Nat.le_of_ble_eq_true rfl⟩ dX6_wouldStrike_31 (fun _ => [(sc, .inr (5, [.ref tx, .ref b, .ref so, .ref pr, .ref b2])), (b, .inr (0, [.ref t, .int (iI cm), .int (iI bd), .int (iI cm), .long (jL sk)])), (t, .inr (3, [.ref va, .ref re, .ref su, .int (iI u26.1), .int (iI u26.2.1)])), (va, .inl (g_I (x_G X), 631, .inl (aI u26.2.2.1))), (re, .inl (g_I (x_G X), 2524, .inl (aI u26.2.2.2.1))), (su, .inl (g_J (x_G X), 631, .inr (.inl (aL u26.2.2.2.2))))]) (Or.inl (fun _ => ⟨rfl, rfl⟩)) (fun u31 => [.int (iI u31)]) (fun _ => rfl) 1 6 ⟨rfl, rfl⟩ (fun u31 hu31 => ?_)
    exact k_iret C hR (u := (u31, cm, u26.1, u26.2.1, u26.2.2.1, u26.2.2.2.1, u26.2.2.2.2)) rfl (by (try dsimp only) <;> exact (⟨hu2.1, by unfold wsI; rw [if_neg (by omega)]; exact hu31, hB⟩)) rfl (Nat.le_of_ble_eq_true rfl) (Nat.le_of_ble_eq_true rfl) dX6_wouldStrike_34
  · skip
    refine k_iconst C dX6_wouldStrike_18 ?_
    refine k_goto C 34 dX6_wouldStrike_19 (by decide) ?_
    exact k_iret C hR (u := (0, u2.1, u2.2.1, u2.2.2.1, u2.2.2.2.1, u2.2.2.2.2.1, u2.2.2.2.2.2)) rfl (by (try dsimp only) <;> exact (⟨hu2.1, by unfold wsI; rw [if_pos (by omega)], hu2.2⟩)) rfl (Nat.le_of_ble_eq_true rfl) (Nat.le_of_ble_eq_true rfl) dX6_wouldStrike_34
