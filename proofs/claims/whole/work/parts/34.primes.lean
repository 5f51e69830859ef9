theorem se_popc0 {g : Nat → Nat} {w : Nat} (h : popc w = 0) : se g (fun j => w.testBit j) 64 = 0 := by
  have key : ∀ n, n ≤ 64 → se g (fun j => w.testBit j) n = 0 := by
    intro n
    induction n with
    | zero => intro _; rfl
    | succ n ih =>
      intro hn
      show se g _ n + _ = 0
      rw [ih (by omega)]
      have h1 := ce_mono (fun b => w.testBit b) (show n + 1 ≤ 64 by omega)
      have h2 : ce (fun b => w.testBit b) (n + 1) = ce (fun b => w.testBit b) n + if w.testBit n then 1 else 0 := rfl
      unfold popc at h
      by_cases q : w.testBit n = true
      · rw [if_pos q] at h2; omega
      · rw [if_neg q]
  exact key 64 (Nat.le_refl _)
theorem mask5 (j : Nat) : Nat.testBit 6148914691236517205 (j % 64) = (j % 2 == 0) := by
  have h := all_lt (N := 64) (P := fun j => Nat.testBit 6148914691236517205 j == (j % 2 == 0)) (by decide +kernel) (Nat.mod_lt j (show 0 < 64 by decide))
  rw [eq_of_beq h, show j % 64 % 2 = j % 2 by omega]
theorem maskA (j : Nat) : Nat.testBit 12297829382473034410 (j % 64) = (j % 2 == 1) := by
  have h := all_lt (N := 64) (P := fun j => Nat.testBit 12297829382473034410 j == (j % 2 == 1)) (by decide +kernel) (Nat.mod_lt j (show 0 < 64 by decide))
  rw [eq_of_beq h, show j % 64 % 2 = j % 2 by omega]
set_option maxHeartbeats 4000000 in
set_option maxRecDepth 100000 in
theorem c_X1_leastDividing (l : Launch) (G : KG) (x : Int) (n : Nat) (hx : x = (n : Int)) (hn : 2 ≤ n ∧ n ≤ 99999) : Ct l G yX1_leastDividing wsX1_leastDividing (rmD 0 0 0) [.int (iI x)] [] (fun u : Int => u = (lf n : Int)) (fun u : Int => some (.int (iI u))) (fun u : Int => []) := by
  refine Ct.of (cc := cX1_leastDividing) (maxL := 5) (ret := (some .int)) (by decide +kernel) rfl (Nat.le_of_ble_eq_true rfl) ?_
  intro X C hG hL hnm hR
  subst hG
  subst hL
  have C : Cx X cX1_leastDividing RX1 wsX1_leastDividing (some .int) 5 (rmD 0 0 0) := C
  show K_ X 0 0 [] 0 [(0, .int (iI x))] []
  refine k_getsN C (ref := "StruckCounts") (nm := "SMALL_PRIMES") C.S.1.1 11 rfl rfl dX1_leastDividing_0 ?_
  refine k_astore_n C (lo' := [(1, .ref (g_tp (x_G X))), (0, .int (iI x))]) dX1_leastDividing_3 rfl (by decide) rfl ?_
  refine k_aload_n C 0 rfl dX1_leastDividing_4 rfl ?_
  refine k_tlen C C.S.1.2 dX1_leastDividing_5 ?_
  refine k_eq (st2 := [.int (iI 65)]) rfl rfl rfl rfl ?_
  refine k_istore_n C (lo' := [(2, .int (iI 65)), (1, .ref (g_tp (x_G X))), (0, .int (iI x))]) dX1_leastDividing_6 rfl (by decide) rfl ?_
  refine k_iconst C dX1_leastDividing_7 ?_
  refine k_istore_n C (lo' := [(3, .int (iI 0)), (2, .int (iI 65)), (1, .ref (g_tp (x_G X))), (0, .int (iI x))]) dX1_leastDividing_8 rfl (by decide) rfl ?_
  have L9 : ∀ (nf : Nat) (i : Int), (0 ≤ i ∧ i ≤ 65 ∧ ∀ j, j < i.toNat → ¬ sp j ∣ n) → (65 - i).toNat < nf → K_ X 0 0 [] 9 [(3, .int (iI i)), (2, .int (iI 65)), (1, .ref (g_tp (x_G X))), (0, .int (iI x))] [] := by
    intro nf
    induction nf with
    | zero => intro i hI hm; exact absurd hm (Nat.not_lt_zero _)
    | succ nf ih9 =>
      intro i hI9 hm9
      obtain ⟨i1, i2, i3⟩ := hI9
      refine k_iload_n C 0 rfl dX1_leastDividing_9 rfl ?_
      refine k_iload_n C 1 rfl dX1_leastDividing_10 rfl ?_
      refine k_icmp_ge C 47 (⟨by omega, by omega⟩) (⟨by omega, by omega⟩) dX1_leastDividing_11 (by decide) (fun c11 => ?_) (fun c11 => ?_)
      · skip
        refine k_iload_n C 3 rfl dX1_leastDividing_47 rfl ?_
        exact k_iret C hR (u := x) rfl (by rw [trial hn.1 (by omega) (i := i.toNat) (by omega) i3 (Or.inl (by omega))]; exact hx) rfl (Nat.le_of_ble_eq_true rfl) (Nat.le_of_ble_eq_true rfl) dX1_leastDividing_48
      · skip
        refine k_aload_n C 2 rfl dX1_leastDividing_14 rfl ?_
        refine k_iload_n C 0 rfl dX1_leastDividing_15 rfl ?_
        refine k_ti C C.S.1.2 (⟨by omega, by omega⟩) (by decide) dX1_leastDividing_16 ?_
        refine k_nmI (fun v16 e16 => ?_)
        have hj : i.toNat < 65 := by omega
        have hp : v16 = (sp i.toNat : Int) := by rw [e16]; exact spA_sp hj
        have hp2 := sp_ge2 hj
        have hp3 := sp_le hj
        have hmm := mul_rng (a := v16) (b := v16) (A := 313) (B := 313) (by omega) (by omega) (by omega) (by omega)
        refine k_istore C (lo' := [(4, .int (iI v16)), (3, .int (iI i)), (2, .int (iI 65)), (1, .ref (g_tp (x_G X))), (0, .int (iI x))]) dX1_leastDividing_17 (by decide) rfl ?_
        refine k_iload C 0 rfl dX1_leastDividing_19 ?_
        refine k_iload C 0 rfl dX1_leastDividing_21 ?_
        refine k_imul C dX1_leastDividing_23 ?_
        refine k_nmI (fun v23 e23 => ?_)
        refine k_iload_n C 4 rfl dX1_leastDividing_24 rfl ?_
        refine k_icmp_le C 31 (⟨by omega, by omega⟩) (⟨by omega, by omega⟩) dX1_leastDividing_25 (by decide) (fun c25 => ?_) (fun c25 => ?_)
        · skip
          refine k_iload_n C 4 rfl dX1_leastDividing_31 rfl ?_
          refine k_iload C 0 rfl dX1_leastDividing_32 ?_
          refine k_irem C ⟨by omega, by omega⟩ ⟨by omega, by omega⟩ dX1_leastDividing_34 ?_
          refine k_nmI (fun v34 e34 => ?_)
          have hm1 := Int.emod_nonneg x (b := v16) (by omega)
          have hm2 := Int.emod_lt_of_pos x (b := v16) (by omega)
          rw [← e34] at hm1 hm2
          refine k_if_ne C 41 (⟨by omega, by omega⟩) dX1_leastDividing_35 (by decide) (fun c35 => ?_) (fun c35 => ?_)
          · skip
            obtain ⟨v41, e41⟩ : ∃ y : Int, y = i + 1 := ⟨_, rfl⟩
            refine k_iinc C (lo' := [(3, .int (iI v41)), (4, .int (iI v16)), (2, .int (iI 65)), (1, .ref (g_tp (x_G X))), (0, .int (iI x))]) 1 rfl dX1_leastDividing_41 (by decide) v41 e41 rfl ?_
            refine k_goto C 9 dX1_leastDividing_44 (by decide) ?_
            refine k_lo (lo' := [(3, .int (iI v41)), (2, .int (iI 65)), (1, .ref (g_tp (x_G X))), (0, .int (iI x))]) [0, 2, 3, 4] rfl ?_
            exact ih9 v41 (⟨by omega, by omega, fun j hj => by
              by_cases e : j < i.toNat
              · exact i3 j e
              · rw [show j = i.toNat by omega]
                intro hd
                apply c35
                rw [e34, hx, hp]
                have := Nat.mod_eq_zero_of_dvd hd
                omega⟩) (by omega)
          · skip
            refine k_iload C 0 rfl dX1_leastDividing_38 ?_
            exact k_iret C hR (u := v16) rfl (by rw [hp]; rw [trial2 hn.1 hj i3 (Nat.dvd_of_mod_eq_zero (by rw [e34, hx, hp] at c35; omega))]) rfl (Nat.le_of_ble_eq_true rfl) (Nat.le_of_ble_eq_true rfl) dX1_leastDividing_40
        · skip
          refine k_goto C 47 dX1_leastDividing_28 (by decide) ?_
          refine k_iload_n C 4 rfl dX1_leastDividing_47 rfl ?_
          exact k_iret C hR (u := x) rfl (by have e : v23 = ((sp i.toNat * sp i.toNat : Nat) : Int) := (by rw [e23, hp, Int.natCast_mul]); rw [trial hn.1 (by omega) (i := i.toNat) (by omega) i3 (Or.inr (by omega))]; exact hx) rfl (Nat.le_of_ble_eq_true rfl) (Nat.le_of_ble_eq_true rfl) dX1_leastDividing_48
  exact L9 _ 0 (⟨by omega, by omega, fun j hj => absurd hj (Nat.not_lt_zero j)⟩) (Nat.lt_succ_self _)
set_option maxHeartbeats 4000000 in
set_option maxRecDepth 100000 in
theorem c_X1_countTwo (l : Launch) (G : KG) (x : Int) (hx : -2147483648 ≤ x ∧ x < 2147483648) : Ct l G yX1_countTwo wsX1_countTwo (rmD 0 0 0) [.int (iI x)] [] (fun u : Int => u = if 2 ≤ x then 1 else 0) (fun u : Int => some (.int (iI u))) (fun u : Int => []) := by
  refine Ct.of (cc := cX1_countTwo) (maxL := 1) (ret := (some .int)) (by decide +kernel) rfl (Nat.le_of_ble_eq_true rfl) ?_
  intro X C hG hL hnm hR
  subst hG
  subst hL
  have C : Cx X cX1_countTwo RX1 wsX1_countTwo (some .int) 1 (rmD 0 0 0) := C
  show K_ X 0 0 [] 0 [(0, .int (iI x))] []
  refine k_iload_n C 0 rfl dX1_countTwo_0 rfl ?_
  refine k_iconst C dX1_countTwo_1 ?_
  refine k_icmp_lt C 9 (⟨by omega, by omega⟩) (⟨by omega, by omega⟩) dX1_countTwo_2 (by decide) (fun c2 => ?_) (fun c2 => ?_)
  · skip
    refine k_iconst C dX1_countTwo_9 ?_
    exact k_iret C hR (u := 0) rfl (by rw [if_neg (by omega)]) rfl (Nat.le_of_ble_eq_true rfl) (Nat.le_of_ble_eq_true rfl) dX1_countTwo_10
  · skip
    refine k_iconst C dX1_countTwo_5 ?_
    refine k_goto C 10 dX1_countTwo_6 (by decide) ?_
    exact k_iret C hR (u := 1) rfl (by rw [if_pos (by omega)]) rfl (Nat.le_of_ble_eq_true rfl) (Nat.le_of_ble_eq_true rfl) dX1_countTwo_10
theorem in_X1_wordUpTo_X1 : ∀ w ∈ wsX10, w ∈ wsX1_wordUpTo := by decide +kernel
set_option maxHeartbeats 4000000 in
set_option maxRecDepth 100000 in
theorem c_X1_wordUpTo (l : Launch) (G : KG) (pr rw : Nat) (i x : Int) (fw : Nat → Int) (hi : 0 ≤ i ∧ i < 782) (hx : -1 ≤ x ∧ x ≤ 99999) (hr : RowOK fw) : Ct l G yX1_wordUpTo wsX1_wordUpTo (rmD 1 0 0) [.ref pr, .int (iI i), .int (iI x)] [(pr, .inr (1, [.ref rw])), (rw, .inl (g_J G, 782, .inr (.inl (aL fw))))] (fun u : Int => u = (wdx i.toNat x.toNat : Int)) (fun u : Int => some (.long (jL u))) (fun u : Int => [(pr, .inr (1, [.ref rw])), (rw, .inl (g_J G, 782, .inr (.inl (aL fw))))]) := by
  refine Ct.of (cc := cX1_wordUpTo) (maxL := 4) (ret := (some .long)) (by decide +kernel) rfl (Nat.le_of_ble_eq_true rfl) ?_
  intro X C hG hL hnm hR
  subst hG
  subst hL
  have C : Cx X cX1_wordUpTo RX1 wsX1_wordUpTo (some .long) 4 (rmD 1 0 0) := C
  have hw := hr i.toNat (by omega)
  have hlt := wd_lt i.toNat
  show K_ X 0 0 [(pr, .inr (1, [.ref rw])), (rw, .inl (g_J (x_G X), 782, .inr (.inl (aL fw))))] 0 [(0, .ref pr), (1, .int (iI i)), (2, .int (iI x))] []
  refine k_iload_n C 1 rfl dX1_wordUpTo_0 rfl ?_
  refine k_iconst C dX1_wordUpTo_1 ?_
  refine k_sipush C dX1_wordUpTo_2 (by decide) ?_
  refine k_callSN C (y := yX6_outside) [.int (iI i), .int (iI 0), .int (iI 781)] 3 rfl (c_X6_outside (x_l X) (x_G X) i 0 781 (by first | assumption | omega) (by first | assumption | omega) (by first | assumption | omega)) gX1_wordUpTo_X6_outside_n49 rfl 6 rfl 3 2 rfl rfl ⟨by decide +kernel, by decide +kernel, by decide +kernel⟩ ⟨by decide, by decide⟩ [] (by decide) (wc := []) rfl [] rfl (Nat.le_of_ble_eq_true rfl) ⟨Nat.le_of_ble_eq_true rfl, Nat.le_of_ble_eq_true rfl⟩ dX1_wordUpTo_5 (fun _ => [(pr, .inr (1, [.ref rw])), (rw, .inl (g_J (x_G X), 782, .inr (.inl (aL fw))))]) (Or.inl (fun _ => ⟨rfl, rfl⟩)) (fun u5 => [.int (iI u5)]) (fun _ => rfl) 0 0 ⟨rfl, rfl⟩ (fun u5 hu5 => ?_)
  refine k_if_eq C 13 (⟨by omega, by omega⟩) dX1_wordUpTo_8 (by decide) (fun c8 => ?_) (fun c8 => ?_)
  · skip
    have hu5 := bo_f hu5 c8
    refine k_iload_n C 2 rfl dX1_wordUpTo_13 rfl ?_
    refine k_iconst C dX1_wordUpTo_14 ?_
    refine k_iadd C dX1_wordUpTo_15 ?_
    refine k_nmI (fun v15 e15 => ?_)
    refine k_iconst C dX1_wordUpTo_16 ?_
    refine k_idiv C ⟨by omega, by omega⟩ ⟨by omega, by omega⟩ dX1_wordUpTo_17 ?_
    refine k_nmI (fun v17 e17 => ?_)
    refine k_bipush C dX1_wordUpTo_18 (by decide) ?_
    refine k_iload_n C 1 rfl dX1_wordUpTo_20 rfl ?_
    refine k_imul C dX1_wordUpTo_21 ?_
    refine k_nmI (fun v21 e21 => ?_)
    refine k_isub C dX1_wordUpTo_22 ?_
    refine k_nmI (fun v22 e22 => ?_)
    refine k_istore_n C (lo' := [(3, .int (iI v22)), (0, .ref pr), (1, .int (iI i)), (2, .int (iI x))]) dX1_wordUpTo_23 rfl (by decide) rfl ?_
    refine k_iload_n C 0 rfl dX1_wordUpTo_24 rfl ?_
    refine k_bipush C dX1_wordUpTo_25 (by decide) ?_
    refine k_icmp_lt C 37 (⟨by omega, by omega⟩) (⟨by omega, by omega⟩) dX1_wordUpTo_27 (by decide) (fun c27 => ?_) (fun c27 => ?_)
    · skip
      refine k_iload_n C 0 rfl dX1_wordUpTo_37 rfl ?_
      refine k_if_gt C 45 (⟨by omega, by omega⟩) dX1_wordUpTo_38 (by decide) (fun c38 => ?_) (fun c38 => ?_)
      · skip
        refine k_aload_n C 1 rfl dX1_wordUpTo_45 rfl ?_
        refine k_get C (Cn := RX1) (T := TX1) (N := 1) (ci := 1) (ref := "StruckCounts$Primes") in_X1_wordUpTo_X1 0 rfl rfl 0 (by decide) 1 rfl rfl (v := .ref rw) rfl dX1_wordUpTo_46 ?_
        refine k_iload_n C 2 rfl dX1_wordUpTo_49 rfl ?_
        refine k_lald C (f := fw) 1 rfl (⟨by omega, by omega⟩) (by decide) dX1_wordUpTo_50 ?_
        refine k_nmL (fun v50 e50 => ?_)
        refine k_lconst C dX1_wordUpTo_51 1 (by decide) ?_
        refine k_iload_n C 0 rfl dX1_wordUpTo_52 rfl ?_
        refine k_lshl C ((2 ^ v22.toNat : Nat) : Int) (by have := jl_shl 1 (k := v22) (by omega) (by omega); rw [Nat.one_mul] at this; exact this) dX1_wordUpTo_53 ?_
        refine k_nmL (fun v53 e53 => ?_)
        refine k_lconst C dX1_wordUpTo_54 1 (by decide) ?_
        refine k_lsub C dX1_wordUpTo_55 ?_
        refine k_nmL (fun v55 e55 => ?_)
        have hpw : ((2 ^ v22.toNat - 1 : Nat) : Int) = v55 := by have := Nat.two_pow_pos v22.toNat; omega
        refine k_land C ((wdx i.toNat x.toNat : Nat) : Int) (by rw [← wdx_part (i := i.toNat) (x := x.toNat) (c := v22.toNat) (by omega) (by omega), ← jl_and, hpw, e50, hw]) dX1_wordUpTo_56 ?_
        refine k_nmL (fun v56 e56 => ?_)
        exact k_lret C hR (u := v56) rfl (by assumption) rfl (Nat.le_of_ble_eq_true rfl) (Nat.le_of_ble_eq_true rfl) dX1_wordUpTo_57
      · skip
        refine k_lconst C dX1_wordUpTo_41 0 (by decide) ?_
        refine k_goto C 57 dX1_wordUpTo_42 (by decide) ?_
        exact k_lret C hR (u := 0) rfl (by rw [wdx_none (by omega)]; rfl) rfl (Nat.le_of_ble_eq_true rfl) (Nat.le_of_ble_eq_true rfl) dX1_wordUpTo_57
    · skip
      refine k_aload_n C 1 rfl dX1_wordUpTo_30 rfl ?_
      refine k_get C (Cn := RX1) (T := TX1) (N := 1) (ci := 1) (ref := "StruckCounts$Primes") in_X1_wordUpTo_X1 0 rfl rfl 0 (by decide) 1 rfl rfl (v := .ref rw) rfl dX1_wordUpTo_31 ?_
      refine k_iload_n C 2 rfl dX1_wordUpTo_34 rfl ?_
      refine k_lald C (f := fw) 1 rfl (⟨by omega, by omega⟩) (by decide) dX1_wordUpTo_35 ?_
      refine k_nmL (fun v35 e35 => ?_)
      exact k_lret C hR (u := v35) rfl (by rw [e35, hw, wdx_all (by omega)]) rfl (Nat.le_of_ble_eq_true rfl) (Nat.le_of_ble_eq_true rfl) dX1_wordUpTo_36
  · exfalso; omega
set_option maxHeartbeats 4000000 in
set_option maxRecDepth 100000 in
theorem c_X1_lowestOf (l : Launch) (G : KG) (i x : Int) (w : Nat) (hi : 0 ≤ i ∧ i < 782) (hx : x = (w : Int)) (hw : w < 2 ^ 64) (hp : popc w ≠ 0) : Ct l G yX1_lowestOf wsX1_lowestOf (rmD 1 0 0) [.int (iI i), .long (jL x)] [] (fun u : Int => ∃ b : Nat, b < 64 ∧ w.testBit b = true ∧ (∀ j, j < b → w.testBit j = false) ∧ u = (od (64 * i.toNat + b) : Int)) (fun u : Int => some (.int (iI u))) (fun u : Int => []) := by
  refine Ct.of (cc := cX1_lowestOf) (maxL := 4) (ret := (some .int)) (by decide +kernel) rfl (Nat.le_of_ble_eq_true rfl) ?_
  intro X C hG hL hnm hR
  subst hG
  subst hL
  have C : Cx X cX1_lowestOf RX1 wsX1_lowestOf (some .int) 4 (rmD 1 0 0) := C
  obtain ⟨b, b1, b2, b3⟩ := low_ex hp
  have hb2 := Nat.two_pow_pos b
  show K_ X 0 0 [] 0 [(0, .int (iI i)), (1, .long (jL x))] []
  refine k_lload_n C 1 rfl dX1_lowestOf_0 rfl ?_
  refine k_lload_n C 1 rfl dX1_lowestOf_1 rfl ?_
  refine k_lneg C dX1_lowestOf_2 ?_
  refine k_nmL (fun v2 e2 => ?_)
  refine k_land C ((2 ^ b : Nat) : Int) (by rw [e2, hx]; exact jl_low hw b2 b3) dX1_lowestOf_3 ?_
  refine k_nmL (fun v3 e3 => ?_)
  refine k_lconst C dX1_lowestOf_4 1 (by decide) ?_
  refine k_lsub C dX1_lowestOf_5 ?_
  refine k_nmL (fun v5 e5 => ?_)
  refine k_callS C (y := yJ13_bitCount_95d88) [.long (jL v5)] 1 rfl (c_J13_bitCount_95d88 (x_l X) (x_G X) v5 (2 ^ b - 1) (by omega) (by have := Nat.pow_le_pow_right (n := 2) (by omega) (show b ≤ 64 by omega); omega)) gX1_lowestOf_J13_bitCount_95d88 rfl ⟨by decide +kernel, by decide +kernel, by decide +kernel⟩ ⟨by decide, by decide⟩ [] (by decide) (wc := []) rfl [] rfl (Nat.le_of_ble_eq_true rfl) ⟨Nat.le_of_ble_eq_true rfl, Nat.le_of_ble_eq_true rfl⟩ dX1_lowestOf_6 (fun _ => []) (Or.inl (fun _ => ⟨rfl, rfl⟩)) (fun u6 => [.int (iI u6)]) (fun _ => rfl) 0 0 ⟨rfl, rfl⟩ (fun u6 hu6 => ?_)
  refine k_istore_n C (lo' := [(3, .int (iI u6)), (0, .int (iI i)), (1, .long (jL x))]) dX1_lowestOf_9 rfl (by decide) rfl ?_
  refine k_iconst C dX1_lowestOf_10 ?_
  refine k_bipush C dX1_lowestOf_11 (by decide) ?_
  refine k_iload_n C 1 rfl dX1_lowestOf_13 rfl ?_
  refine k_imul C dX1_lowestOf_14 ?_
  refine k_nmI (fun v14 e14 => ?_)
  refine k_iload_n C 0 rfl dX1_lowestOf_15 rfl ?_
  refine k_iadd C dX1_lowestOf_16 ?_
  refine k_nmI (fun v16 e16 => ?_)
  refine k_imul C dX1_lowestOf_17 ?_
  refine k_nmI (fun v17 e17 => ?_)
  refine k_iconst C dX1_lowestOf_18 ?_
  refine k_iadd C dX1_lowestOf_19 ?_
  refine k_nmI (fun v19 e19 => ?_)
  exact k_iret C hR (u := v19) rfl (⟨b, b1, b2, b3, by rw [popc_pow (by omega)] at hu6; unfold od; omega⟩) rfl (Nat.le_of_ble_eq_true rfl) (Nat.le_of_ble_eq_true rfl) dX1_lowestOf_20
set_option maxHeartbeats 4000000 in
set_option maxRecDepth 100000 in
theorem c_X1_countOdd (l : Launch) (G : KG) (pr rw : Nat) (x y : Int) (M : Nat) (fw : Nat → Int) (hx : -1 ≤ x ∧ x ≤ 99999) (hy : y = (M : Int)) (hr : RowOK fw) : Ct l G yX1_countOdd wsX1_countOdd (rmD 2 0 0) [.ref pr, .int (iI x), .long (jL y)] [(pr, .inr (1, [.ref rw])), (rw, .inl (g_J G, 782, .inr (.inl (aL fw))))] (fun u : Int => u = (ce (fun e => pb x.toNat e && M.testBit (e % 64)) 50048 : Int)) (fun u : Int => some (.int (iI u))) (fun u : Int => [(pr, .inr (1, [.ref rw])), (rw, .inl (g_J G, 782, .inr (.inl (aL fw))))]) := by
  refine Ct.of (cc := cX1_countOdd) (maxL := 6) (ret := (some .int)) (by decide +kernel) rfl (Nat.le_of_ble_eq_true rfl) ?_
  intro X C hG hL hnm hR
  subst hG
  subst hL
  have C : Cx X cX1_countOdd RX1 wsX1_countOdd (some .int) 6 (rmD 2 0 0) := C
  show K_ X 0 0 [(pr, .inr (1, [.ref rw])), (rw, .inl (g_J (x_G X), 782, .inr (.inl (aL fw))))] 0 [(0, .ref pr), (1, .int (iI x)), (2, .long (jL y))] []
  refine k_iconst C dX1_countOdd_0 ?_
  refine k_istore C (lo' := [(4, .int (iI 0)), (0, .ref pr), (1, .int (iI x)), (2, .long (jL y))]) dX1_countOdd_1 (by decide) rfl ?_
  refine k_iconst C dX1_countOdd_3 ?_
  refine k_istore C (lo' := [(5, .int (iI 0)), (4, .int (iI 0)), (0, .ref pr), (1, .int (iI x)), (2, .long (jL y))]) dX1_countOdd_4 (by decide) rfl ?_
  have L6 : ∀ (nf : Nat) (cn : Int) (i : Int), (0 ≤ i ∧ i ≤ 782 ∧ cn = (ce (fun e => pb x.toNat e && M.testBit (e % 64)) (64 * i.toNat) : Int)) → (782 - i).toNat < nf → K_ X 0 0 [(pr, .inr (1, [.ref rw])), (rw, .inl (g_J (x_G X), 782, .inr (.inl (aL fw))))] 6 [(5, .int (iI i)), (4, .int (iI cn)), (0, .ref pr), (1, .int (iI x)), (2, .long (jL y))] [] := by
    intro nf
    induction nf with
    | zero => intro cn i hI hm; exact absurd hm (Nat.not_lt_zero _)
    | succ nf ih6 =>
      intro cn i hI6 hm6
      obtain ⟨i1, i2, i3⟩ := hI6
      refine k_iload C 0 rfl dX1_countOdd_6 ?_
      refine k_sipush C dX1_countOdd_8 (by decide) ?_
      refine k_icmp_ge C 47 (⟨by omega, by omega⟩) (⟨by omega, by omega⟩) dX1_countOdd_11 (by decide) (fun c11 => ?_) (fun c11 => ?_)
      · skip
        refine k_iload C 1 rfl dX1_countOdd_47 ?_
        exact k_iret C hR (u := cn) rfl (by rw [i3, show 64 * i.toNat = 50048 by omega]) rfl (Nat.le_of_ble_eq_true rfl) (Nat.le_of_ble_eq_true rfl) dX1_countOdd_49
      · skip
        refine k_sipush C dX1_countOdd_14 (by decide) ?_
        refine k_iload C 0 rfl dX1_countOdd_17 ?_
        refine k_imul C dX1_countOdd_19 ?_
        refine k_nmI (fun v19 e19 => ?_)
        refine k_iload_n C 3 rfl dX1_countOdd_20 rfl ?_
        refine k_icmp_ge C 47 (⟨by omega, by omega⟩) (⟨by omega, by omega⟩) dX1_countOdd_21 (by decide) (fun c21 => ?_) (fun c21 => ?_)
        · skip
          refine k_iload C 1 rfl dX1_countOdd_47 ?_
          exact k_iret C hR (u := cn) rfl (by rw [i3, ce_rest (a := 64 * i.toNat) (n := 50048) (by omega) (fun e h1 h2 => by rw [pb_out (by unfold od; omega)]; rfl)]) rfl (Nat.le_of_ble_eq_true rfl) (Nat.le_of_ble_eq_true rfl) dX1_countOdd_49
        · skip
          refine k_iload C 1 rfl dX1_countOdd_24 ?_
          refine k_aload_n C 2 rfl dX1_countOdd_26 rfl ?_
          refine k_iload C 0 rfl dX1_countOdd_27 ?_
          refine k_iload_n C 3 rfl dX1_countOdd_29 rfl ?_
          refine k_callV C (y := yX1_wordUpTo) [.int (iI i), .int (iI x)] 2 rfl (c_X1_wordUpTo (x_l X) (x_G X) pr rw i x fw (by first | assumption | omega) (by first | assumption | omega) (by first | assumption | omega)) gX1_countOdd_X1_wordUpTo rfl ⟨rfl, by decide +kernel, by decide +kernel, by decide +kernel⟩ ⟨by decide, by decide⟩ 0 (fs := [.ref rw]) rfl rfl rfl [0, 1] (by decide) (wc := [(pr, .inr (1, [.ref rw])), (rw, .inl (g_J (x_G X), 782, .inr (.inl (aL fw))))]) rfl [.int (iI cn)] rfl (Nat.le_of_ble_eq_true rfl) ⟨Nat.le_of_ble_eq_true rfl, Nat.le_of_ble_eq_true rfl⟩ dX1_countOdd_30 (fun _ => [(pr, .inr (1, [.ref rw])), (rw, .inl (g_J (x_G X), 782, .inr (.inl (aL fw))))]) (Or.inl (fun _ => ⟨rfl, rfl⟩)) (fun u30 => [.long (jL u30), .int (iI cn)]) (fun _ => rfl) 0 0 ⟨rfl, rfl⟩ (fun u30 hu30 => ?_)
          refine k_lload_n C 4 rfl dX1_countOdd_33 rfl ?_
          refine k_land C ((wdx i.toNat x.toNat &&& M : Nat) : Int) (by rw [hu30, hy]; exact jl_and _ _) dX1_countOdd_34 ?_
          refine k_nmL (fun v34 e34 => ?_)
          refine k_callS C (y := yJ13_bitCount_95d88) [.long (jL v34)] 1 rfl (c_J13_bitCount_95d88 (x_l X) (x_G X) v34 (wdx i.toNat x.toNat &&& M) (by assumption) (Nat.lt_of_le_of_lt Nat.and_le_left (wdx_lt _ _))) gX1_countOdd_J13_bitCount_95d88 rfl ⟨by decide +kernel, by decide +kernel, by decide +kernel⟩ ⟨by decide, by decide⟩ [] (by decide) (wc := []) rfl [.int (iI cn)] rfl (Nat.le_of_ble_eq_true rfl) ⟨Nat.le_of_ble_eq_true rfl, Nat.le_of_ble_eq_true rfl⟩ dX1_countOdd_35 (fun _ => [(pr, .inr (1, [.ref rw])), (rw, .inl (g_J (x_G X), 782, .inr (.inl (aL fw))))]) (Or.inl (fun _ => ⟨rfl, rfl⟩)) (fun u35 => [.int (iI u35), .int (iI cn)]) (fun _ => rfl) 0 0 ⟨rfl, rfl⟩ (fun u35 hu35 => ?_)
          refine k_iadd C dX1_countOdd_38 ?_
          refine k_nmI (fun v38 e38 => ?_)
          refine k_istore C (lo' := [(4, .int (iI v38)), (5, .int (iI i)), (0, .ref pr), (1, .int (iI x)), (2, .long (jL y))]) dX1_countOdd_39 (by decide) rfl ?_
          obtain ⟨v41, e41⟩ : ∃ y : Int, y = i + 1 := ⟨_, rfl⟩
          refine k_iinc C (lo' := [(5, .int (iI v41)), (4, .int (iI v38)), (0, .ref pr), (1, .int (iI x)), (2, .long (jL y))]) 1 rfl dX1_countOdd_41 (by decide) v41 e41 rfl ?_
          refine k_goto C 6 dX1_countOdd_44 (by decide) ?_
          exact ih6 v38 v41 (⟨by omega, by omega, by rw [e38, i3, hu35, blk, show 64 * v41.toNat = 64 * i.toNat + 64 by omega, ce_add]; omega⟩) (by omega)
  exact L6 _ 0 0 (⟨by omega, by omega, rfl⟩) (Nat.lt_succ_self _)
set_option maxHeartbeats 4000000 in
set_option maxRecDepth 100000 in
theorem c_X1_countUpTo (l : Launch) (G : KG) (pr rw : Nat) (x : Int) (fw : Nat → Int) (hx : -1 ≤ x ∧ x ≤ 99999) (hr : RowOK fw) : Ct l G yX1_countUpTo wsX1_countUpTo (rmD 3 0 0) [.ref pr, .int (iI x)] [(pr, .inr (1, [.ref rw])), (rw, .inl (g_J G, 782, .inr (.inl (aL fw))))] (fun u : Int => u = (ct isP x.toNat : Int)) (fun u : Int => some (.int (iI u))) (fun u : Int => [(pr, .inr (1, [.ref rw])), (rw, .inl (g_J G, 782, .inr (.inl (aL fw))))]) := by
  refine Ct.of (cc := cX1_countUpTo) (maxL := 2) (ret := (some .int)) (by decide +kernel) rfl (Nat.le_of_ble_eq_true rfl) ?_
  intro X C hG hL hnm hR
  subst hG
  subst hL
  have C : Cx X cX1_countUpTo RX1 wsX1_countUpTo (some .int) 2 (rmD 3 0 0) := C
  show K_ X 0 0 [(pr, .inr (1, [.ref rw])), (rw, .inl (g_J (x_G X), 782, .inr (.inl (aL fw))))] 0 [(0, .ref pr), (1, .int (iI x))] []
  refine k_iload_n C 1 rfl dX1_countUpTo_0 rfl ?_
  refine k_callS C (y := yX1_countTwo) [.int (iI x)] 1 rfl (c_X1_countTwo (x_l X) (x_G X) x (by omega)) gX1_countUpTo_X1_countTwo rfl ⟨by decide +kernel, by decide +kernel, by decide +kernel⟩ ⟨by decide, by decide⟩ [] (by decide) (wc := []) rfl [] rfl (Nat.le_of_ble_eq_true rfl) ⟨Nat.le_of_ble_eq_true rfl, Nat.le_of_ble_eq_true rfl⟩ dX1_countUpTo_1 (fun _ => [(pr, .inr (1, [.ref rw])), (rw, .inl (g_J (x_G X), 782, .inr (.inl (aL fw))))]) (Or.inl (fun _ => ⟨rfl, rfl⟩)) (fun u1 => [.int (iI u1)]) (fun _ => rfl) 0 0 ⟨rfl, rfl⟩ (fun u1 hu1 => ?_)
  refine k_aload_n C 0 rfl dX1_countUpTo_4 rfl ?_
  refine k_iload_n C 1 rfl dX1_countUpTo_5 rfl ?_
  refine k_ldc2 C 18446744073709551615 1 rfl (by decide) dX1_countUpTo_6 ?_
  refine k_callV C (y := yX1_countOdd) [.int (iI x), .long (jL 18446744073709551615)] 2 rfl (c_X1_countOdd (x_l X) (x_G X) pr rw x 18446744073709551615 18446744073709551615 fw (by first | assumption | omega) (rfl) (by first | assumption | omega)) gX1_countUpTo_X1_countOdd rfl ⟨rfl, by decide +kernel, by decide +kernel, by decide +kernel⟩ ⟨by decide, by decide⟩ 0 (fs := [.ref rw]) rfl rfl rfl [0, 1] (by decide) (wc := [(pr, .inr (1, [.ref rw])), (rw, .inl (g_J (x_G X), 782, .inr (.inl (aL fw))))]) rfl [.int (iI u1)] rfl (Nat.le_of_ble_eq_true rfl) ⟨Nat.le_of_ble_eq_true rfl, Nat.le_of_ble_eq_true rfl⟩ dX1_countUpTo_9 (fun _ => [(pr, .inr (1, [.ref rw])), (rw, .inl (g_J (x_G X), 782, .inr (.inl (aL fw))))]) (Or.inl (fun _ => ⟨rfl, rfl⟩)) (fun u9 => [.int (iI u9), .int (iI u1)]) (fun _ => rfl) 0 0 ⟨rfl, rfl⟩ (fun u9 hu9 => ?_)
  refine k_iadd C dX1_countUpTo_12 ?_
  refine k_nmI (fun v12 e12 => ?_)
  exact k_iret C hR (u := v12) rfl (by
        rw [e12, hu1, hu9, primes_ce (by omega)]
        have e : ce (fun e => pb x.toNat e && Nat.testBit 18446744073709551615 (e % 64)) 50048 = ce (fun e => pb x.toNat e) 50048 := ce_cong fun j _ => by
          rw [show (18446744073709551615 : Nat) = 2 ^ 64 - 1 from rfl, Nat.testBit_two_pow_sub_one, decide_eq_true (Nat.mod_lt j (by decide))]; simp
        rw [e]
        by_cases q : 2 ≤ x
        · rw [if_pos q, if_pos (by omega)]; omega
        · rw [if_neg q, if_neg (by omega)]; omega) rfl (Nat.le_of_ble_eq_true rfl) (Nat.le_of_ble_eq_true rfl) dX1_countUpTo_13
set_option maxHeartbeats 4000000 in
set_option maxRecDepth 100000 in
theorem c_X1_countByRest (l : Launch) (G : KG) (pr rw : Nat) (x r : Int) (fw : Nat → Int) (hx : 0 ≤ x ∧ x ≤ 99999) (hrr : 0 ≤ r ∧ r ≤ 3) (hr : RowOK fw) : Ct l G yX1_countByRest wsX1_countByRest (rmD 3 0 0) [.ref pr, .int (iI x), .int (iI r)] [(pr, .inr (1, [.ref rw])), (rw, .inl (g_J G, 782, .inr (.inl (aL fw))))] (fun u : Int => u = (ct (fun y => isP y && y % 4 == r.toNat) x.toNat : Int)) (fun u : Int => some (.int (iI u))) (fun u : Int => [(pr, .inr (1, [.ref rw])), (rw, .inl (g_J G, 782, .inr (.inl (aL fw))))]) := by
  refine Ct.of (cc := cX1_countByRest) (maxL := 3) (ret := (some .int)) (by decide +kernel) rfl (Nat.le_of_ble_eq_true rfl) ?_
  intro X C hG hL hnm hR
  subst hG
  subst hL
  have C : Cx X cX1_countByRest RX1 wsX1_countByRest (some .int) 3 (rmD 3 0 0) := C
  show K_ X 0 0 [(pr, .inr (1, [.ref rw])), (rw, .inl (g_J (x_G X), 782, .inr (.inl (aL fw))))] 0 [(0, .ref pr), (1, .int (iI x)), (2, .int (iI r))] []
  refine k_iload_n C 2 rfl dX1_countByRest_0 rfl ?_
  rcases (show (r < 1 ∨ 3 < r) ∨ (r = 1) ∨ (r = 2) ∨ (r = 3) by omega) with c1 | c1 | c1 | c1
  · refine k_tabOut C 51 (⟨by omega, by omega⟩) dX1_countByRest_1 c1 (by decide) ?_
    refine k_iconst C dX1_countByRest_51 ?_
    exact k_iret C hR (u := 0) rfl (by rw [show r.toNat = 0 by omega, rest0_ce]; rfl) rfl (Nat.le_of_ble_eq_true rfl) (Nat.le_of_ble_eq_true rfl) dX1_countByRest_52
  · refine k_tabIn C 28 (⟨by omega, by omega⟩) dX1_countByRest_1 (by omega) (by omega) (by rw [c1]; rfl) (by decide) ?_
    refine k_aload_n C 0 rfl dX1_countByRest_28 rfl ?_
    refine k_iload_n C 1 rfl dX1_countByRest_29 rfl ?_
    refine k_ldc2 C 6148914691236517205 1 rfl (by decide) dX1_countByRest_30 ?_
    refine k_callV C (y := yX1_countOdd) [.int (iI x), .long (jL 6148914691236517205)] 2 rfl (c_X1_countOdd (x_l X) (x_G X) pr rw x 6148914691236517205 6148914691236517205 fw (by first | assumption | omega) (rfl) (by first | assumption | omega)) gX1_countByRest_X1_countOdd rfl ⟨rfl, by decide +kernel, by decide +kernel, by decide +kernel⟩ ⟨by decide, by decide⟩ 0 (fs := [.ref rw]) rfl rfl rfl [0, 1] (by decide) (wc := [(pr, .inr (1, [.ref rw])), (rw, .inl (g_J (x_G X), 782, .inr (.inl (aL fw))))]) rfl [] rfl (Nat.le_of_ble_eq_true rfl) ⟨Nat.le_of_ble_eq_true rfl, Nat.le_of_ble_eq_true rfl⟩ dX1_countByRest_33 (fun _ => [(pr, .inr (1, [.ref rw])), (rw, .inl (g_J (x_G X), 782, .inr (.inl (aL fw))))]) (Or.inl (fun _ => ⟨rfl, rfl⟩)) (fun u33 => [.int (iI u33)]) (fun _ => rfl) 0 0 ⟨rfl, rfl⟩ (fun u33 hu33 => ?_)
    exact k_iret C hR (u := u33) rfl (by rw [hu33, show r.toNat = 1 by omega, rest1_ce (by omega)]; exact congrArg (fun z : Nat => (z : Int)) (ce_cong fun j _ => by rw [mask5 j])) rfl (Nat.le_of_ble_eq_true rfl) (Nat.le_of_ble_eq_true rfl) dX1_countByRest_36
  · refine k_tabIn C 37 (⟨by omega, by omega⟩) dX1_countByRest_1 (by omega) (by omega) (by rw [c1]; rfl) (by decide) ?_
    refine k_iload_n C 1 rfl dX1_countByRest_37 rfl ?_
    refine k_callS C (y := yX1_countTwo) [.int (iI x)] 1 rfl (c_X1_countTwo (x_l X) (x_G X) x (by omega)) gX1_countByRest_X1_countTwo rfl ⟨by decide +kernel, by decide +kernel, by decide +kernel⟩ ⟨by decide, by decide⟩ [] (by decide) (wc := []) rfl [] rfl (Nat.le_of_ble_eq_true rfl) ⟨Nat.le_of_ble_eq_true rfl, Nat.le_of_ble_eq_true rfl⟩ dX1_countByRest_38 (fun _ => [(pr, .inr (1, [.ref rw])), (rw, .inl (g_J (x_G X), 782, .inr (.inl (aL fw))))]) (Or.inl (fun _ => ⟨rfl, rfl⟩)) (fun u38 => [.int (iI u38)]) (fun _ => rfl) 0 0 ⟨rfl, rfl⟩ (fun u38 hu38 => ?_)
    exact k_iret C hR (u := u38) rfl (by rw [hu38, show r.toNat = 2 by omega, rest2_ce]; by_cases q : 2 ≤ x; rw [if_pos q, if_pos (by omega)]; rfl; rw [if_neg q, if_neg (by omega)]; rfl) rfl (Nat.le_of_ble_eq_true rfl) (Nat.le_of_ble_eq_true rfl) dX1_countByRest_41
  · refine k_tabIn C 42 (⟨by omega, by omega⟩) dX1_countByRest_1 (by omega) (by omega) (by rw [c1]; rfl) (by decide) ?_
    refine k_aload_n C 0 rfl dX1_countByRest_42 rfl ?_
    refine k_iload_n C 1 rfl dX1_countByRest_43 rfl ?_
    refine k_ldc2 C 12297829382473034410 2 rfl (by decide) dX1_countByRest_44 ?_
    refine k_callV C (y := yX1_countOdd) [.int (iI x), .long (jL 12297829382473034410)] 2 rfl (c_X1_countOdd (x_l X) (x_G X) pr rw x 12297829382473034410 12297829382473034410 fw (by first | assumption | omega) (rfl) (by first | assumption | omega)) gX1_countByRest_X1_countOdd rfl ⟨rfl, by decide +kernel, by decide +kernel, by decide +kernel⟩ ⟨by decide, by decide⟩ 0 (fs := [.ref rw]) rfl rfl rfl [0, 1] (by decide) (wc := [(pr, .inr (1, [.ref rw])), (rw, .inl (g_J (x_G X), 782, .inr (.inl (aL fw))))]) rfl [] rfl (Nat.le_of_ble_eq_true rfl) ⟨Nat.le_of_ble_eq_true rfl, Nat.le_of_ble_eq_true rfl⟩ dX1_countByRest_47 (fun _ => [(pr, .inr (1, [.ref rw])), (rw, .inl (g_J (x_G X), 782, .inr (.inl (aL fw))))]) (Or.inl (fun _ => ⟨rfl, rfl⟩)) (fun u47 => [.int (iI u47)]) (fun _ => rfl) 0 0 ⟨rfl, rfl⟩ (fun u47 hu47 => ?_)
    exact k_iret C hR (u := u47) rfl (by rw [hu47, show r.toNat = 3 by omega, rest3_ce (by omega)]; exact congrArg (fun z : Nat => (z : Int)) (ce_cong fun j _ => by rw [maskA j])) rfl (Nat.le_of_ble_eq_true rfl) (Nat.le_of_ble_eq_true rfl) dX1_countByRest_50
set_option maxHeartbeats 4000000 in
set_option maxRecDepth 100000 in
theorem c_X1_sumUpTo (l : Launch) (G : KG) (pr rw : Nat) (x : Int) (fw : Nat → Int) (hx : 0 ≤ x ∧ x ≤ 99999) (hr : RowOK fw) : Ct l G yX1_sumUpTo wsX1_sumUpTo (rmD 2 0 0) [.ref pr, .int (iI x)] [(pr, .inr (1, [.ref rw])), (rw, .inl (g_J G, 782, .inr (.inl (aL fw))))] (fun u : Int => u = (sm (fun y => if isP y then y else 0) x.toNat : Int)) (fun u : Int => some (.long (jL u))) (fun u : Int => [(pr, .inr (1, [.ref rw])), (rw, .inl (g_J G, 782, .inr (.inl (aL fw))))]) := by
  refine Ct.of (cc := cX1_sumUpTo) (maxL := 8) (ret := (some .long)) (by decide +kernel) rfl (Nat.le_of_ble_eq_true rfl) ?_
  intro X C hG hL hnm hR
  subst hG
  subst hL
  have C : Cx X cX1_sumUpTo RX1 wsX1_sumUpTo (some .long) 8 (rmD 2 0 0) := C
  show K_ X 0 0 [(pr, .inr (1, [.ref rw])), (rw, .inl (g_J (x_G X), 782, .inr (.inl (aL fw))))] 0 [(0, .ref pr), (1, .int (iI x))] []
  refine k_iconst C dX1_sumUpTo_0 ?_
  refine k_iload_n C 1 rfl dX1_sumUpTo_1 rfl ?_
  refine k_callS C (y := yX1_countTwo) [.int (iI x)] 1 rfl (c_X1_countTwo (x_l X) (x_G X) x (by omega)) gX1_sumUpTo_X1_countTwo rfl ⟨by decide +kernel, by decide +kernel, by decide +kernel⟩ ⟨by decide, by decide⟩ [] (by decide) (wc := []) rfl [.int (iI 2)] rfl (Nat.le_of_ble_eq_true rfl) ⟨Nat.le_of_ble_eq_true rfl, Nat.le_of_ble_eq_true rfl⟩ dX1_sumUpTo_2 (fun _ => [(pr, .inr (1, [.ref rw])), (rw, .inl (g_J (x_G X), 782, .inr (.inl (aL fw))))]) (Or.inl (fun _ => ⟨rfl, rfl⟩)) (fun u2 => [.int (iI u2), .int (iI 2)]) (fun _ => rfl) 0 0 ⟨rfl, rfl⟩ (fun u2 hu2 => ?_)
  refine k_imul C dX1_sumUpTo_5 ?_
  refine k_nmI (fun v5 e5 => ?_)
  refine k_i2l C (⟨by omega, by omega⟩) dX1_sumUpTo_6 ?_
  refine k_lstore_n C (lo' := [(2, .long (jL v5)), (0, .ref pr), (1, .int (iI x))]) dX1_sumUpTo_7 rfl (by decide) rfl ?_
  refine k_iconst C dX1_sumUpTo_8 ?_
  refine k_istore C (lo' := [(4, .int (iI 0)), (2, .long (jL v5)), (0, .ref pr), (1, .int (iI x))]) dX1_sumUpTo_9 (by decide) rfl ?_
  have L11 : ∀ (nf : Nat) (s : Int) (i : Int), (0 ≤ i ∧ i ≤ 782 ∧ s = (((if 2 ≤ x.toNat then 2 else 0) + se od (fun e => pb x.toNat e) (64 * i.toNat) : Nat) : Int)) → (782 - i).toNat < nf → K_ X 0 0 [(pr, .inr (1, [.ref rw])), (rw, .inl (g_J (x_G X), 782, .inr (.inl (aL fw))))] 11 [(4, .int (iI i)), (2, .long (jL s)), (0, .ref pr), (1, .int (iI x))] [] := by
    intro nf
    induction nf with
    | zero => intro s i hI hm; exact absurd hm (Nat.not_lt_zero _)
    | succ nf ih11 =>
      intro s i hI11 hm11
      obtain ⟨i1, i2, i3⟩ := hI11
      refine k_iload C 0 rfl dX1_sumUpTo_11 ?_
      refine k_sipush C dX1_sumUpTo_13 (by decide) ?_
      refine k_icmp_ge C 82 (⟨by omega, by omega⟩) (⟨by omega, by omega⟩) dX1_sumUpTo_16 (by decide) (fun c16 => ?_) (fun c16 => ?_)
      · skip
        refine k_lload_n C 1 rfl dX1_sumUpTo_82 rfl ?_
        exact k_lret C hR (u := s) rfl (by rw [i3, sum_se (N := 50048) (by omega), show 64 * i.toNat = 50048 by omega]) rfl (Nat.le_of_ble_eq_true rfl) (Nat.le_of_ble_eq_true rfl) dX1_sumUpTo_83
      · skip
        refine k_sipush C dX1_sumUpTo_19 (by decide) ?_
        refine k_iload C 0 rfl dX1_sumUpTo_22 ?_
        refine k_imul C dX1_sumUpTo_24 ?_
        refine k_nmI (fun v24 e24 => ?_)
        refine k_iload_n C 3 rfl dX1_sumUpTo_25 rfl ?_
        refine k_icmp_ge C 82 (⟨by omega, by omega⟩) (⟨by omega, by omega⟩) dX1_sumUpTo_26 (by decide) (fun c26 => ?_) (fun c26 => ?_)
        · skip
          refine k_lload_n C 1 rfl dX1_sumUpTo_82 rfl ?_
          exact k_lret C hR (u := s) rfl (by rw [i3, sum_se (N := 50048) (by omega), se_rest (a := 64 * i.toNat) (n := 50048) (by omega) (fun e h1 h2 => pb_out (by unfold od; omega))]) rfl (Nat.le_of_ble_eq_true rfl) (Nat.le_of_ble_eq_true rfl) dX1_sumUpTo_83
        · skip
          refine k_aload_n C 2 rfl dX1_sumUpTo_29 rfl ?_
          refine k_iload C 0 rfl dX1_sumUpTo_30 ?_
          refine k_iload_n C 3 rfl dX1_sumUpTo_32 rfl ?_
          refine k_callV C (y := yX1_wordUpTo) [.int (iI i), .int (iI x)] 2 rfl (c_X1_wordUpTo (x_l X) (x_G X) pr rw i x fw (by first | assumption | omega) (by first | assumption | omega) (by first | assumption | omega)) gX1_sumUpTo_X1_wordUpTo rfl ⟨rfl, by decide +kernel, by decide +kernel, by decide +kernel⟩ ⟨by decide, by decide⟩ 0 (fs := [.ref rw]) rfl rfl rfl [0, 1] (by decide) (wc := [(pr, .inr (1, [.ref rw])), (rw, .inl (g_J (x_G X), 782, .inr (.inl (aL fw))))]) rfl [] rfl (Nat.le_of_ble_eq_true rfl) ⟨Nat.le_of_ble_eq_true rfl, Nat.le_of_ble_eq_true rfl⟩ dX1_sumUpTo_33 (fun _ => [(pr, .inr (1, [.ref rw])), (rw, .inl (g_J (x_G X), 782, .inr (.inl (aL fw))))]) (Or.inl (fun _ => ⟨rfl, rfl⟩)) (fun u33 => [.long (jL u33)]) (fun _ => rfl) 0 0 ⟨rfl, rfl⟩ (fun u33 hu33 => ?_)
          refine k_lstore C (lo' := [(5, .long (jL u33)), (4, .int (iI i)), (2, .long (jL s)), (0, .ref pr), (1, .int (iI x))]) dX1_sumUpTo_36 (by decide) rfl ?_
          refine k_lload C 0 rfl dX1_sumUpTo_38 ?_
          refine k_callS C (y := yJ13_bitCount_95d88) [.long (jL u33)] 1 rfl (c_J13_bitCount_95d88 (x_l X) (x_G X) u33 (wdx i.toNat x.toNat) (by assumption) (wdx_lt _ _)) gX1_sumUpTo_J13_bitCount_95d88 rfl ⟨by decide +kernel, by decide +kernel, by decide +kernel⟩ ⟨by decide, by decide⟩ [] (by decide) (wc := []) rfl [] rfl (Nat.le_of_ble_eq_true rfl) ⟨Nat.le_of_ble_eq_true rfl, Nat.le_of_ble_eq_true rfl⟩ dX1_sumUpTo_40 (fun _ => [(pr, .inr (1, [.ref rw])), (rw, .inl (g_J (x_G X), 782, .inr (.inl (aL fw))))]) (Or.inl (fun _ => ⟨rfl, rfl⟩)) (fun u40 => [.int (iI u40)]) (fun _ => rfl) 0 0 ⟨rfl, rfl⟩ (fun u40 hu40 => ?_)
          refine k_istore C (lo' := [(7, .int (iI u40)), (5, .long (jL u33)), (4, .int (iI i)), (2, .long (jL s)), (0, .ref pr), (1, .int (iI x))]) dX1_sumUpTo_43 (by decide) rfl ?_
          have L45 : ∀ (nf : Nat) (w : Nat) (s2 : Int) (wl : Int) (mo : Int), (wl = (w : Int) ∧ w < 2 ^ 64 ∧ mo = (popc w : Int) ∧ s2 + (se (fun b => od (64 * i.toNat + b)) (fun j => w.testBit j) 64 : Int) = s + (se (fun b => od (64 * i.toNat + b)) (fun j => (wdx i.toNat x.toNat).testBit j) 64 : Int)) → mo.toNat < nf → K_ X 0 0 [(pr, .inr (1, [.ref rw])), (rw, .inl (g_J (x_G X), 782, .inr (.inl (aL fw))))] 45 [(7, .int (iI mo)), (5, .long (jL wl)), (4, .int (iI i)), (2, .long (jL s2)), (0, .ref pr), (1, .int (iI x))] [] := by
            intro nf
            induction nf with
            | zero => intro w s2 wl mo hI hm; exact absurd hm (Nat.not_lt_zero _)
            | succ nf ih45 =>
              intro w s2 wl mo hI45 hm45
              obtain ⟨j1, j2, j3, j4⟩ := hI45
              have hpc := popc_le w
              refine k_iload C 0 rfl dX1_sumUpTo_45 ?_
              refine k_if_le C 76 (⟨by omega, by omega⟩) dX1_sumUpTo_47 (by decide) (fun c47 => ?_) (fun c47 => ?_)
              · skip
                obtain ⟨v76, e76⟩ : ∃ y : Int, y = i + 1 := ⟨_, rfl⟩
                refine k_iinc C (lo' := [(4, .int (iI v76)), (7, .int (iI mo)), (5, .long (jL wl)), (2, .long (jL s2)), (0, .ref pr), (1, .int (iI x))]) 2 rfl dX1_sumUpTo_76 (by decide) v76 e76 rfl ?_
                refine k_goto C 11 dX1_sumUpTo_79 (by decide) ?_
                refine k_lo (lo' := [(4, .int (iI v76)), (2, .long (jL s2)), (0, .ref pr), (1, .int (iI x))]) [0, 3, 4, 5] rfl ?_
                exact ih11 s2 v76 (⟨by omega, by omega, by
                have z : popc w = 0 := by omega
                have z2 : se (fun b => od (64 * i.toNat + b)) (fun j => w.testBit j) 64 = 0 := se_popc0 z
                rw [show 64 * v76.toNat = 64 * i.toNat + 64 by omega, se_add]
                rw [z2] at j4
                have e : se (fun b => od (64 * i.toNat + b)) (fun b => pb x.toNat (64 * i.toNat + b)) 64 = se (fun b => od (64 * i.toNat + b)) (fun j => (wdx i.toNat x.toNat).testBit j) 64 := se_cong fun j hj => by rw [wdx, bN_tb, decide_eq_true hj]; rfl
                rw [e]; omega⟩) (by omega)
              · skip
                refine k_lload_n C 3 rfl dX1_sumUpTo_50 rfl ?_
                refine k_iload C 2 rfl dX1_sumUpTo_51 ?_
                refine k_lload C 1 rfl dX1_sumUpTo_53 ?_
                refine k_callS C (y := yX1_lowestOf) [.int (iI i), .long (jL wl)] 2 rfl (c_X1_lowestOf (x_l X) (x_G X) i wl w (by omega) (by assumption) (by assumption) (by omega)) gX1_sumUpTo_X1_lowestOf rfl ⟨by decide +kernel, by decide +kernel, by decide +kernel⟩ ⟨by decide, by decide⟩ [] (by decide) (wc := []) rfl [.long (jL s2)] rfl (Nat.le_of_ble_eq_true rfl) ⟨Nat.le_of_ble_eq_true rfl, Nat.le_of_ble_eq_true rfl⟩ dX1_sumUpTo_55 (fun _ => [(pr, .inr (1, [.ref rw])), (rw, .inl (g_J (x_G X), 782, .inr (.inl (aL fw))))]) (Or.inl (fun _ => ⟨rfl, rfl⟩)) (fun u55 => [.int (iI u55), .long (jL s2)]) (fun _ => rfl) 0 0 ⟨rfl, rfl⟩ (fun u55 hu55 => ?_)
                obtain ⟨y, y1, y2, y3, y4⟩ := hu55
                have hod : od (64 * i.toNat + y) ≤ 200000 := by unfold od; omega
                refine k_i2l C (⟨by omega, by omega⟩) dX1_sumUpTo_58 ?_
                refine k_ladd C dX1_sumUpTo_59 ?_
                refine k_nmL (fun v59 e59 => ?_)
                refine k_lstore_n C (lo' := [(2, .long (jL v59)), (7, .int (iI mo)), (5, .long (jL wl)), (4, .int (iI i)), (0, .ref pr), (1, .int (iI x))]) dX1_sumUpTo_60 rfl (by decide) rfl ?_
                refine k_lload C 2 rfl dX1_sumUpTo_61 ?_
                refine k_lload C 2 rfl dX1_sumUpTo_63 ?_
                refine k_lconst C dX1_sumUpTo_65 1 (by decide) ?_
                refine k_lsub C dX1_sumUpTo_66 ?_
                refine k_nmL (fun v66 e66 => ?_)
                refine k_land C ((w &&& (w - 1) : Nat) : Int) (by rw [e66, j1]; exact jl_clear (popc_pos (by omega))) dX1_sumUpTo_67 ?_
                refine k_nmL (fun v67 e67 => ?_)
                refine k_lstore C (lo' := [(5, .long (jL v67)), (2, .long (jL v59)), (7, .int (iI mo)), (4, .int (iI i)), (0, .ref pr), (1, .int (iI x))]) dX1_sumUpTo_68 (by decide) rfl ?_
                obtain ⟨v70, e70⟩ : ∃ y : Int, y = mo + (-1) := ⟨_, rfl⟩
                refine k_iinc C (lo' := [(7, .int (iI v70)), (5, .long (jL v67)), (2, .long (jL v59)), (4, .int (iI i)), (0, .ref pr), (1, .int (iI x))]) 2 rfl dX1_sumUpTo_70 (by decide) v70 e70 rfl ?_
                refine k_goto C 45 dX1_sumUpTo_73 (by decide) ?_
                refine k_lo (lo' := [(7, .int (iI v70)), (5, .long (jL v67)), (4, .int (iI i)), (2, .long (jL v59)), (0, .ref pr), (1, .int (iI x))]) [0, 1, 3, 2, 4, 5] rfl ?_
                exact ih45 (w &&& (w - 1)) v59 v67 v70 (⟨by assumption, Nat.lt_of_le_of_lt Nat.and_le_left j2, by have := popc_clear y2 y3 y1; omega, by have := se_clear (fun b => od (64 * i.toNat + b)) y2 y3 y1; omega⟩) (by omega)
          exact L45 _ (wdx i.toNat x.toNat) s u33 u40 (⟨by assumption, wdx_lt _ _, by assumption, rfl⟩) (Nat.lt_succ_self _)
  exact L11 _ v5 0 (⟨by omega, by omega, by rw [e5, hu2]; by_cases q : 2 ≤ x; rw [if_pos q, if_pos (by omega)]; rfl; rw [if_neg q, if_neg (by omega)]; rfl⟩) (Nat.lt_succ_self _)
