def mP (m k st : Nat) (x : Nat) : Bool := al m k x && x % st == 0
theorem mP_gap {m k st q : Nat} : ∀ d, d < st → ct (mP m k st) (st * q + d) = ct (mP m k st) (st * q)
  | 0, _ => rfl
  | d + 1, h => by
    have ih := mP_gap (m := m) (k := k) (st := st) (q := q) d (by omega)
    rw [← Nat.add_assoc, ct_s, ih]
    have : mP m k st (st * q + d + 1) = false := by
      unfold mP
      have e : (st * q + d + 1) % st = d + 1 := by rw [Nat.add_assoc, Nat.mul_add_mod]; exact Nat.mod_eq_of_lt h
      rw [e]; simp
    rw [this]; rfl
theorem mP_next {m k st q : Nat} (hs : 1 ≤ st) : ct (mP m k st) (st * (q + 1)) = ct (mP m k st) (st * q) + (if al m k (st * (q + 1)) = true then 1 else 0) := by
  have h := mP_gap (m := m) (k := k) (st := st) (q := q) (st - 1) (by omega)
  have e : st * (q + 1) = st * q + (st - 1) + 1 := by rw [Nat.mul_succ]; omega
  rw [show ct (mP m k st) (st * (q + 1)) = ct (mP m k st) (st * q + (st - 1) + 1) by rw [← e], ct_s, h, ← e]
  have e2 : mP m k st (st * (q + 1)) = al m k (st * (q + 1)) := by
    unfold mP; rw [Nat.mul_mod_right]; simp
  rw [e2]
theorem mP_end {m k st q lim : Nat} (h1 : st * q ≤ lim) (h2 : lim < st * (q + 1)) : ct (mP m k st) lim = ct (mP m k st) (st * q) := by
  have e : st * (q + 1) = st * q + st := Nat.mul_succ st q
  have := mP_gap (m := m) (k := k) (st := st) (q := q) (lim - st * q) (by omega)
  rwa [show st * q + (lim - st * q) = lim by omega] at this

theorem in_X7_leftBy_X7 : ∀ w ∈ wsX70, w ∈ wsX7_leftBy := by decide +kernel
set_option maxHeartbeats 4000000 in
set_option maxRecDepth 100000 in
theorem c_X7_leftBy (l : Launch) (G : KG) (mo s sv tx fa ea go qu : Nat) (st ty th un om : Int) (v x : Int) (LV ST : Nat) (n k m : Nat) (fg : Nat → Int) (hv : v = (LV : Int)) (hx : x = (ST : Int)) (hST : 1 ≤ ST ∧ ST ≤ 99999) (hLV : LV ≤ n) (hn : n ≤ 99999) (hg : ∀ y, 1 ≤ y → y ≤ n → fg y = if al m k y = true then 0 else 1) : Ct l G yX7_leftBy wsX7_leftBy (rmD 0 0 0) [.ref mo, .int (iI v), .int (iI x)] [(mo, .inr (6, [.ref s, .int (iI st), .ref sv, .ref tx, .int (iI ty), .int (iI th), .ref fa, .ref ea, .ref go, .ref qu, .int (iI un), .int (iI om)])), (go, .inl (g_Z G, 100000, .inl (aI fg)))] (fun u : Int => u = (ct (mP m k ST) LV : Int)) (fun u : Int => some (.int (iI u))) (fun u : Int => [(mo, .inr (6, [.ref s, .int (iI st), .ref sv, .ref tx, .int (iI ty), .int (iI th), .ref fa, .ref ea, .ref go, .ref qu, .int (iI un), .int (iI om)])), (go, .inl (g_Z G, 100000, .inl (aI fg)))]) := by
  refine Ct.of (cc := cX7_leftBy) (maxL := 5) (ret := (some .int)) (by decide +kernel) rfl (Nat.le_of_ble_eq_true rfl) ?_
  intro X C hG hL hnm hR
  subst hG
  subst hL
  have C : Cx X cX7_leftBy RX7 wsX7_leftBy (some .int) 5 (rmD 0 0 0) := C
  show K_ X 0 0 [(mo, .inr (6, [.ref s, .int (iI st), .ref sv, .ref tx, .int (iI ty), .int (iI th), .ref fa, .ref ea, .ref go, .ref qu, .int (iI un), .int (iI om)])), (go, .inl (g_Z (x_G X), 100000, .inl (aI fg)))] 0 [(0, .ref mo), (1, .int (iI v)), (2, .int (iI x))] []
  refine k_iconst C dX7_leftBy_0 ?_
  refine k_istore_n C (lo' := [(3, .int (iI 0)), (0, .ref mo), (1, .int (iI v)), (2, .int (iI x))]) dX7_leftBy_1 rfl (by decide) rfl ?_
  refine k_iload_n C 3 rfl dX7_leftBy_2 rfl ?_
  refine k_istore C (lo' := [(4, .int (iI x)), (3, .int (iI 0)), (0, .ref mo), (1, .int (iI v)), (2, .int (iI x))]) dX7_leftBy_3 (by decide) rfl ?_
  have L5 : ∀ (nf : Nat) (q : Nat) (c : Int) (i : Int), (i = ((ST * (q + 1) : Nat) : Int) ∧ ST * q ≤ LV ∧ c = (ct (mP m k ST) (ST * q) : Int)) → LV + 1 - ST * q < nf → K_ X 0 0 [(mo, .inr (6, [.ref s, .int (iI st), .ref sv, .ref tx, .int (iI ty), .int (iI th), .ref fa, .ref ea, .ref go, .ref qu, .int (iI un), .int (iI om)])), (go, .inl (g_Z (x_G X), 100000, .inl (aI fg)))] 5 [(4, .int (iI i)), (3, .int (iI c)), (0, .ref mo), (1, .int (iI v)), (2, .int (iI x))] [] := by
    intro nf
    induction nf with
    | zero => intro q c i hI hm; exact absurd hm (Nat.not_lt_zero _)
    | succ nf ih5 =>
      intro q c i hI5 hm5
      obtain ⟨i1, i2, i3⟩ := hI5
      have es : ST * (q + 1) = ST * q + ST := Nat.mul_succ ST q
      have es2 : ST * (q + 1 + 1) = ST * (q + 1) + ST := Nat.mul_succ ST (q + 1)
      have hcl := ct_le (mP m k ST) (ST * q)
      refine k_iload C 0 rfl dX7_leftBy_5 ?_
      refine k_iload_n C 3 rfl dX7_leftBy_7 rfl ?_
      refine k_icmp_gt C 38 (⟨by omega, by omega⟩) (⟨by omega, by omega⟩) dX7_leftBy_8 (by decide) (fun c8 => ?_) (fun c8 => ?_)
      · skip
        refine k_iload_n C 1 rfl dX7_leftBy_38 rfl ?_
        exact k_iret C hR (u := c) rfl (by rw [i3, mP_end i2 (by omega)]) rfl (Nat.le_of_ble_eq_true rfl) (Nat.le_of_ble_eq_true rfl) dX7_leftBy_39
      · skip
        refine k_iload_n C 1 rfl dX7_leftBy_11 rfl ?_
        refine k_aload_n C 2 rfl dX7_leftBy_12 rfl ?_
        refine k_get C (Cn := RX7) (T := TX7) (N := 12) (ci := 6) (ref := "StruckCountsModel") in_X7_leftBy_X7 0 rfl rfl 8 (by decide) 1 rfl rfl (v := .ref go) rfl dX7_leftBy_13 ?_
        refine k_iload C 0 rfl dX7_leftBy_16 ?_
        refine k_zald C (f := fg) 1 rfl (⟨by omega, by omega⟩) (by decide) dX7_leftBy_18 ?_
        refine k_nmI (fun v18 e18 => ?_)
        have h18 : v18 = if al m k (ST * (q + 1)) = true then 0 else 1 := by rw [e18, show i.toNat = ST * (q + 1) by omega]; exact hg _ (by omega) (by omega)
        have h18b : 0 ≤ v18 ∧ v18 ≤ 1 := by rw [h18]; split <;> omega
        refine k_if_eq C 26 (⟨by omega, by omega⟩) dX7_leftBy_19 (by decide) (fun c19 => ?_) (fun c19 => ?_)
        · skip
          have hal : al m k (ST * (q + 1)) = true := by (by_cases e : al m k (ST * (q + 1)) = true; (exact e); (rw [if_neg e] at h18; omega))
          have hnx := mP_next (m := m) (k := k) (st := ST) (q := q) hST.1
          rw [if_pos hal] at hnx
          refine k_iconst C dX7_leftBy_26 ?_
          refine k_iadd C dX7_leftBy_27 ?_
          refine k_nmI (fun v27 e27 => ?_)
          refine k_istore_n C (lo' := [(3, .int (iI v27)), (4, .int (iI i)), (0, .ref mo), (1, .int (iI v)), (2, .int (iI x))]) dX7_leftBy_28 rfl (by decide) rfl ?_
          refine k_iload C 1 rfl dX7_leftBy_29 ?_
          refine k_iload_n C 4 rfl dX7_leftBy_31 rfl ?_
          refine k_iadd C dX7_leftBy_32 ?_
          refine k_nmI (fun v32 e32 => ?_)
          refine k_istore C (lo' := [(4, .int (iI v32)), (3, .int (iI v27)), (0, .ref mo), (1, .int (iI v)), (2, .int (iI x))]) dX7_leftBy_33 (by decide) rfl ?_
          refine k_goto C 5 dX7_leftBy_35 (by decide) ?_
          exact ih5 (q + 1) v27 v32 (⟨by omega, by omega, by omega⟩) (by omega)
        · skip
          have hal : ¬ al m k (ST * (q + 1)) = true := fun e => by (rw [if_pos e] at h18; omega)
          have hnx := mP_next (m := m) (k := k) (st := ST) (q := q) hST.1
          rw [if_neg hal] at hnx
          refine k_iconst C dX7_leftBy_22 ?_
          refine k_goto C 27 dX7_leftBy_23 (by decide) ?_
          refine k_iadd C dX7_leftBy_27 ?_
          refine k_nmI (fun v27 e27 => ?_)
          refine k_istore_n C (lo' := [(3, .int (iI v27)), (4, .int (iI i)), (0, .ref mo), (1, .int (iI v)), (2, .int (iI x))]) dX7_leftBy_28 rfl (by decide) rfl ?_
          refine k_iload C 1 rfl dX7_leftBy_29 ?_
          refine k_iload_n C 4 rfl dX7_leftBy_31 rfl ?_
          refine k_iadd C dX7_leftBy_32 ?_
          refine k_nmI (fun v32 e32 => ?_)
          refine k_istore C (lo' := [(4, .int (iI v32)), (3, .int (iI v27)), (0, .ref mo), (1, .int (iI v)), (2, .int (iI x))]) dX7_leftBy_33 (by decide) rfl ?_
          refine k_goto C 5 dX7_leftBy_35 (by decide) ?_
          exact ih5 (q + 1) v27 v32 (⟨by omega, by omega, by omega⟩) (by omega)
  exact L5 _ 0 0 x (⟨by rw [hx, Nat.zero_add, Nat.mul_one], by omega, rfl⟩) (Nat.lt_succ_self _)
