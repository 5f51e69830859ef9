theorem in_X3_fill_X3 : ∀ w ∈ wsX30, w ∈ wsX3_fill := by decide +kernel
set_option maxHeartbeats 4000000 in
set_option maxRecDepth 100000 in
theorem c_X3_fill (l : Launch) (G : KG) (t va re su : Nat) (tb ts : Int) (p v : Int) (P m : Nat) (fv fr fs : Nat → Int) (hP : p = (P : Int)) (hv : 0 ≤ v ∧ v ≤ 99999) (hts : 0 ≤ ts ∧ ts ≤ 631) (hp : p < ts) : Ct l G yX3_fill wsX3_fill (rmD 1 0 0) [.ref t, .int (iI p), .int (iI v)] [(t, .inr (3, [.ref va, .ref re, .ref su, .int (iI tb), .int (iI ts)])), (va, .inl (g_I G, 631, .inl (aI fv))), (re, .inl (g_I G, 2524, .inl (aI fr))), (su, .inl (g_J G, 631, .inr (.inl (aL fs))))] (fun u : (Nat → Int) × (Nat → Int) × (Nat → Int) => (∀ k, u.1 k = if k = P then v else fv k) ∧ (∀ k j, j < 4 → u.2.1 (4 * k + j) = if k = P then (cR m 0 j v.toNat : Int) else fr (4 * k + j)) ∧ (∀ k, u.2.2 k = if k = P then (sR m 0 v.toNat : Int) else fs k)) (fun u : (Nat → Int) × (Nat → Int) × (Nat → Int) => none) (fun u : (Nat → Int) × (Nat → Int) × (Nat → Int) => [(t, .inr (3, [.ref va, .ref re, .ref su, .int (iI tb), .int (iI ts)])), (va, .inl (g_I G, 631, .inl (aI u.1))), (re, .inl (g_I G, 2524, .inl (aI u.2.1))), (su, .inl (g_J G, 631, .inr (.inl (aL u.2.2))))]) := by
  refine Ct.of (cc := cX3_fill) (maxL := 4) (ret := none) (by decide +kernel) rfl (Nat.le_of_ble_eq_true rfl) ?_
  intro X C hG hL hnm hR
  subst hG
  subst hL
  have C : Cx X cX3_fill RX3 wsX3_fill none 4 (rmD 1 0 0) := C
  show K_ X 0 0 [(t, .inr (3, [.ref va, .ref re, .ref su, .int (iI tb), .int (iI ts)])), (va, .inl (g_I (x_G X), 631, .inl (aI fv))), (re, .inl (g_I (x_G X), 2524, .inl (aI fr))), (su, .inl (g_J (x_G X), 631, .inr (.inl (aL fs))))] 0 [(0, .ref t), (1, .int (iI p)), (2, .int (iI v))] []
  refine k_aload_n C 0 rfl dX3_fill_0 rfl ?_
  refine k_iload_n C 1 rfl dX3_fill_1 rfl ?_
  refine k_callV C (y := yX3_has) [.int (iI p)] 1 rfl (c_X3_has (x_l X) (x_G X) t va re su tb ts p (by first | assumption | omega) (by first | assumption | omega)) gX3_fill_X3_has rfl ⟨rfl, by decide +kernel, by decide +kernel, by decide +kernel⟩ ⟨by decide, by decide⟩ 0 (fs := [.ref va, .ref re, .ref su, .int (iI tb), .int (iI ts)]) rfl rfl rfl [0] (by decide) (wc := [(t, .inr (3, [.ref va, .ref re, .ref su, .int (iI tb), .int (iI ts)]))]) rfl [] rfl (Nat.le_of_ble_eq_true rfl) ⟨Nat.le_of_ble_eq_true rfl, Nat.le_of_ble_eq_true rfl⟩ dX3_fill_2 (fun _ => [(t, .inr (3, [.ref va, .ref re, .ref su, .int (iI tb), .int (iI ts)])), (va, .inl (g_I (x_G X), 631, .inl (aI fv))), (re, .inl (g_I (x_G X), 2524, .inl (aI fr))), (su, .inl (g_J (x_G X), 631, .inr (.inl (aL fs))))]) (Or.inl (fun _ => ⟨rfl, rfl⟩)) (fun u2 => [.int (iI u2)]) (fun _ => rfl) 0 0 ⟨rfl, rfl⟩ (fun u2 hu2 => ?_)
  refine k_if_ne C 9 (⟨by omega, by omega⟩) dX3_fill_5 (by decide) (fun c5 => ?_) (fun c5 => ?_)
  · skip
    have hu2 := bo_t hu2 c5
    refine k_aload_n C 0 rfl dX3_fill_9 rfl ?_
    refine k_get C (Cn := RX3) (T := TX3) (N := 5) (ci := 3) (ref := "StruckCounts$Tally") in_X3_fill_X3 0 rfl rfl 0 (by decide) 1 rfl rfl (v := .ref va) rfl dX3_fill_10 ?_
    refine k_iload_n C 1 rfl dX3_fill_13 rfl ?_
    refine k_iload_n C 2 rfl dX3_fill_14 rfl ?_
    refine k_iast C (f := fv) 1 rfl (⟨by omega, by omega⟩) (by decide) (fun gg => [(t, .inr (3, [.ref va, .ref re, .ref su, .int (iI tb), .int (iI ts)])), (va, .inl (g_I (x_G X), 631, .inl (aI gg))), (re, .inl (g_I (x_G X), 2524, .inl (aI fr))), (su, .inl (g_J (x_G X), 631, .inr (.inl (aL fs))))]) (fun _ => rfl) dX3_fill_15 (fun g15 e15 => ?_)
    have P1 : p.toNat = P := by omega
    refine k_aload_n C 0 rfl dX3_fill_16 rfl ?_
    refine k_get C (Cn := RX3) (T := TX3) (N := 5) (ci := 3) (ref := "StruckCounts$Tally") in_X3_fill_X3 0 rfl rfl 2 (by decide) 2 rfl rfl (v := .ref su) rfl dX3_fill_17 ?_
    refine k_iload_n C 1 rfl dX3_fill_20 rfl ?_
    refine k_iload_n C 2 rfl dX3_fill_21 rfl ?_
    refine k_i2l C (⟨by omega, by omega⟩) dX3_fill_22 ?_
    refine k_iload_n C 2 rfl dX3_fill_23 rfl ?_
    refine k_i2l C (⟨by omega, by omega⟩) dX3_fill_24 ?_
    refine k_lconst C dX3_fill_25 1 (by decide) ?_
    refine k_ladd C dX3_fill_26 ?_
    refine k_nmL (fun v26 e26 => ?_)
    refine k_lmul C dX3_fill_27 ?_
    refine k_nmL (fun v27 e27 => ?_)
    have hm := mul_rng (a := v) (b := v26) (A := 99999) (B := 100000) (by omega) (by omega) (by omega) (by omega)
    refine k_ldc2 C 2 3 rfl (by decide) dX3_fill_28 ?_
    refine k_ldiv C ⟨by omega, by omega⟩ ⟨by omega, by omega⟩ dX3_fill_31 ?_
    refine k_nmL (fun v31 e31 => ?_)
    refine k_last C (f := fs) 3 rfl (⟨by omega, by omega⟩) (by decide) (fun gg => [(t, .inr (3, [.ref va, .ref re, .ref su, .int (iI tb), .int (iI ts)])), (va, .inl (g_I (x_G X), 631, .inl (aI g15))), (re, .inl (g_I (x_G X), 2524, .inl (aI fr))), (su, .inl (g_J (x_G X), 631, .inr (.inl (aL gg))))]) (fun _ => rfl) dX3_fill_32 (fun g32 e32 => ?_)
    refine k_aload_n C 0 rfl dX3_fill_33 rfl ?_
    refine k_get C (Cn := RX3) (T := TX3) (N := 5) (ci := 3) (ref := "StruckCounts$Tally") in_X3_fill_X3 0 rfl rfl 1 (by decide) 4 rfl rfl (v := .ref re) rfl dX3_fill_34 ?_
    refine k_iconst C dX3_fill_37 ?_
    refine k_iload_n C 1 rfl dX3_fill_38 rfl ?_
    refine k_imul C dX3_fill_39 ?_
    refine k_nmI (fun v39 e39 => ?_)
    refine k_iload_n C 2 rfl dX3_fill_40 rfl ?_
    refine k_iconst C dX3_fill_41 ?_
    refine k_idiv C ⟨by omega, by omega⟩ ⟨by omega, by omega⟩ dX3_fill_42 ?_
    refine k_nmI (fun v42 e42 => ?_)
    refine k_iast C (f := fr) 2 rfl (⟨by omega, by omega⟩) (by decide) (fun gg => [(t, .inr (3, [.ref va, .ref re, .ref su, .int (iI tb), .int (iI ts)])), (va, .inl (g_I (x_G X), 631, .inl (aI g15))), (re, .inl (g_I (x_G X), 2524, .inl (aI gg))), (su, .inl (g_J (x_G X), 631, .inr (.inl (aL g32))))]) (fun _ => rfl) dX3_fill_43 (fun g43 e43 => ?_)
    refine k_iconst C dX3_fill_44 ?_
    refine k_istore_n C (lo' := [(3, .int (iI 1)), (0, .ref t), (1, .int (iI p)), (2, .int (iI v))]) dX3_fill_45 rfl (by decide) rfl ?_
    have L46 : ∀ (nf : Nat) (i : Int) (fx : Nat → Int), (1 ≤ i ∧ i ≤ 4 ∧ ∀ k j, j < 4 → fx (4 * k + j) = if k = P ∧ (j : Int) < i then (cR m 0 j v.toNat : Int) else fr (4 * k + j)) → (4 - i).toNat < nf → K_ X 0 0 [(t, .inr (3, [.ref va, .ref re, .ref su, .int (iI tb), .int (iI ts)])), (va, .inl (g_I (x_G X), 631, .inl (aI g15))), (re, .inl (g_I (x_G X), 2524, .inl (aI fx))), (su, .inl (g_J (x_G X), 631, .inr (.inl (aL g32))))] 46 [(3, .int (iI i)), (0, .ref t), (1, .int (iI p)), (2, .int (iI v))] [] := by
      intro nf
      induction nf with
      | zero => intro i fx hI hm; exact absurd hm (Nat.not_lt_zero _)
      | succ nf ih46 =>
        intro i fx hI46 hm46
        obtain ⟨i1, i2, i3⟩ := hI46
        refine k_iload_n C 0 rfl dX3_fill_46 rfl ?_
        refine k_iconst C dX3_fill_47 ?_
        refine k_icmp_ge C 74 (⟨by omega, by omega⟩) (⟨by omega, by omega⟩) dX3_fill_48 (by decide) (fun c48 => ?_) (fun c48 => ?_)
        · skip
          exact k_vret C hR (u := (g15, fx, g32)) rfl (by (try dsimp only) <;> exact (⟨fun k => by rw [e15, P1]; rfl, fun k j hj => by rw [i3 k j hj]; by_cases e : k = P; (rw [if_pos e, if_pos ⟨e, by omega⟩]); (rw [if_neg e, if_neg (fun z => e z.1)]), fun k => by rw [e32, P1]; unfold upI; rw [sR_0i m hv.1 (by rw [e27, e26]) e31]⟩)) rfl (Nat.le_of_ble_eq_true rfl) (Nat.le_of_ble_eq_true rfl) dX3_fill_74
        · skip
          refine k_aload_n C 1 rfl dX3_fill_51 rfl ?_
          refine k_get C (Cn := RX3) (T := TX3) (N := 5) (ci := 3) (ref := "StruckCounts$Tally") in_X3_fill_X3 0 rfl rfl 1 (by decide) 4 rfl rfl (v := .ref re) rfl dX3_fill_52 ?_
          refine k_iconst C dX3_fill_55 ?_
          refine k_iload_n C 2 rfl dX3_fill_56 rfl ?_
          refine k_imul C dX3_fill_57 ?_
          refine k_nmI (fun v57 e57 => ?_)
          refine k_iload_n C 0 rfl dX3_fill_58 rfl ?_
          refine k_iadd C dX3_fill_59 ?_
          refine k_nmI (fun v59 e59 => ?_)
          refine k_iload_n C 3 rfl dX3_fill_60 rfl ?_
          refine k_iconst C dX3_fill_61 ?_
          refine k_iadd C dX3_fill_62 ?_
          refine k_nmI (fun v62 e62 => ?_)
          refine k_iload_n C 0 rfl dX3_fill_63 rfl ?_
          refine k_isub C dX3_fill_64 ?_
          refine k_nmI (fun v64 e64 => ?_)
          refine k_iconst C dX3_fill_65 ?_
          refine k_idiv C ⟨by omega, by omega⟩ ⟨by omega, by omega⟩ dX3_fill_66 ?_
          refine k_nmI (fun v66 e66 => ?_)
          refine k_iast C (f := fx) 2 rfl (⟨by omega, by omega⟩) (by decide) (fun gg => [(t, .inr (3, [.ref va, .ref re, .ref su, .int (iI tb), .int (iI ts)])), (va, .inl (g_I (x_G X), 631, .inl (aI g15))), (re, .inl (g_I (x_G X), 2524, .inl (aI gg))), (su, .inl (g_J (x_G X), 631, .inr (.inl (aL g32))))]) (fun _ => rfl) dX3_fill_67 (fun g67 e67 => ?_)
          obtain ⟨v68, e68⟩ : ∃ y : Int, y = i + 1 := ⟨_, rfl⟩
          refine k_iinc C (lo' := [(3, .int (iI v68)), (0, .ref t), (1, .int (iI p)), (2, .int (iI v))]) 0 rfl dX3_fill_68 (by decide) v68 e68 rfl ?_
          refine k_goto C 46 dX3_fill_71 (by decide) ?_
          exact ih46 v68 g67 (⟨by omega, by omega, by rw [e68]; exact fill_step hP hv.1 (i := i) (by omega) (y := v59) (x := v66) (by omega) (by rw [if_neg (by omega), e66, e64, e62]) i3 e67⟩) (by omega)
    exact L46 _ 1 g43 (⟨by omega, by omega, fill_step hP hv.1 (i := 0) (by omega) (y := v39) (x := v42) (by omega) (by rw [if_pos rfl]; exact e42) (fun k j hj => by rw [if_neg (by omega)]) e43 ⟩) (Nat.lt_succ_self _)
  · exfalso; omega
theorem in_X3_begin_X3 : ∀ w ∈ wsX30, w ∈ wsX3_begin := by decide +kernel
set_option maxHeartbeats 4000000 in
set_option maxRecDepth 100000 in
theorem c_X3_begin (l : Launch) (G : KG) (t va re su : Nat) (tb ts : Int) (x : Int) (n m : Nat) (fv fr fs : Nat → Int) (hx : x = (n : Int)) (hn : 1 ≤ n ∧ n ≤ 99999) : Ct l G yX3_begin wsX3_begin (rmD 2 0 0) [.ref t, .int (iI x)] [(t, .inr (3, [.ref va, .ref re, .ref su, .int (iI tb), .int (iI ts)])), (va, .inl (g_I G, 631, .inl (aI fv))), (re, .inl (g_I G, 2524, .inl (aI fr))), (su, .inl (g_J G, 631, .inr (.inl (aL fs))))] (fun u : Int × (Nat → Int) × (Nat → Int) × (Nat → Int) => TlOK n 0 m x u.1 u.2.1 u.2.2.1 u.2.2.2) (fun u : Int × (Nat → Int) × (Nat → Int) × (Nat → Int) => none) (fun u : Int × (Nat → Int) × (Nat → Int) × (Nat → Int) => [(t, .inr (3, [.ref va, .ref re, .ref su, .int (iI x), .int (iI u.1)])), (va, .inl (g_I G, 631, .inl (aI u.2.1))), (re, .inl (g_I G, 2524, .inl (aI u.2.2.1))), (su, .inl (g_J G, 631, .inr (.inl (aL u.2.2.2))))]) := by
  refine Ct.of (cc := cX3_begin) (maxL := 4) (ret := none) (by decide +kernel) rfl (Nat.le_of_ble_eq_true rfl) ?_
  intro X C hG hL hnm hR
  subst hG
  subst hL
  have C : Cx X cX3_begin RX3 wsX3_begin none 4 (rmD 2 0 0) := C
  have hz := SZ_631 hn.2
  show K_ X 0 0 [(t, .inr (3, [.ref va, .ref re, .ref su, .int (iI tb), .int (iI ts)])), (va, .inl (g_I (x_G X), 631, .inl (aI fv))), (re, .inl (g_I (x_G X), 2524, .inl (aI fr))), (su, .inl (g_J (x_G X), 631, .inr (.inl (aL fs))))] 0 [(0, .ref t), (1, .int (iI x))] []
  refine k_aload_n C 0 rfl dX3_begin_0 rfl ?_
  refine k_iload_n C 1 rfl dX3_begin_1 rfl ?_
  refine k_put C (Cn := RX3) (T := TX3) (N := 5) (ci := 3) (ref := "StruckCounts$Tally") in_X3_begin_X3 tyX3 tyX3_ok nmX3 0 rfl rfl 3 (by decide) 1 rfl rfl rfl (v := .int (iI x)) (rfl) (rfl) (Nat.le_of_ble_eq_true rfl) [(t, .inr (3, [.ref va, .ref re, .ref su, .int (iI x), .int (iI ts)])), (va, .inl (g_I (x_G X), 631, .inl (aI fv))), (re, .inl (g_I (x_G X), 2524, .inl (aI fr))), (su, .inl (g_J (x_G X), 631, .inr (.inl (aL fs))))] rfl dX3_begin_2 ?_
  refine k_aload_n C 0 rfl dX3_begin_5 rfl ?_
  refine k_iconst C dX3_begin_6 ?_
  refine k_put C (Cn := RX3) (T := TX3) (N := 5) (ci := 3) (ref := "StruckCounts$Tally") in_X3_begin_X3 tyX3 tyX3_ok nmX3 0 rfl rfl 4 (by decide) 2 rfl rfl rfl (v := .int (iI 0)) (rfl) (rfl) (Nat.le_of_ble_eq_true rfl) [(t, .inr (3, [.ref va, .ref re, .ref su, .int (iI x), .int (iI 0)])), (va, .inl (g_I (x_G X), 631, .inl (aI fv))), (re, .inl (g_I (x_G X), 2524, .inl (aI fr))), (su, .inl (g_J (x_G X), 631, .inr (.inl (aL fs))))] rfl dX3_begin_7 ?_
  refine k_iconst C dX3_begin_10 ?_
  refine k_istore_n C (lo' := [(2, .int (iI 1)), (0, .ref t), (1, .int (iI x))]) dX3_begin_11 rfl (by decide) rfl ?_
  have L12 : ∀ (nf : Nat) (q : Nat) (sz : Int) (d : Int) (f1 : Nat → Int) (f2 : Nat → Int) (f3 : Nat → Int), (sz = (q : Int) ∧ q ≤ SZ n ∧ d = (dvr n q : Int) ∧ TlP n q m f1 f2 f3) → SZ n - q < nf → K_ X 0 0 [(t, .inr (3, [.ref va, .ref re, .ref su, .int (iI x), .int (iI sz)])), (va, .inl (g_I (x_G X), 631, .inl (aI f1))), (re, .inl (g_I (x_G X), 2524, .inl (aI f2))), (su, .inl (g_J (x_G X), 631, .inr (.inl (aL f3))))] 12 [(2, .int (iI d)), (0, .ref t), (1, .int (iI x))] [] := by
    intro nf
    induction nf with
    | zero => intro q sz d f1 f2 f3 hI hm; exact absurd hm (Nat.not_lt_zero _)
    | succ nf ih12 =>
      intro q sz d f1 f2 f3 hI12 hm12
      obtain ⟨i1, i2, i3, i4⟩ := hI12
      have hd := dvr_pos n q
      have hdu := dvr_ub n q
      refine k_aload_n C 1 rfl dX3_begin_12 rfl ?_
      refine k_get C (Cn := RX3) (T := TX3) (N := 5) (ci := 3) (ref := "StruckCounts$Tally") in_X3_begin_X3 0 rfl rfl 4 (by decide) 2 rfl rfl (v := .int (iI sz)) rfl dX3_begin_13 ?_
      refine k_sipush C dX3_begin_16 (by decide) ?_
      refine k_icmp_ge C 70 (⟨by omega, by omega⟩) (⟨by omega, by omega⟩) dX3_begin_19 (by decide) (fun c19 => ?_) (fun c19 => ?_)
      · skip
        exact k_vret C hR (u := (sz, f1, f2, f3)) rfl (by (try dsimp only) <;> exact (by have e : q = SZ n := (by omega); subst e; exact TlP_ok hx i1 i4)) rfl (Nat.le_of_ble_eq_true rfl) (Nat.le_of_ble_eq_true rfl) dX3_begin_70
      · skip
        refine k_iload_n C 0 rfl dX3_begin_22 rfl ?_
        refine k_iconst C dX3_begin_23 ?_
        refine k_icmp_lt C 70 (⟨by omega, by omega⟩) (⟨by omega, by omega⟩) dX3_begin_24 (by decide) (fun c24 => ?_) (fun c24 => ?_)
        · skip
          exact k_vret C hR (u := (sz, f1, f2, f3)) rfl (by (try dsimp only) <;> exact (by exfalso; omega)) rfl (Nat.le_of_ble_eq_true rfl) (Nat.le_of_ble_eq_true rfl) dX3_begin_70
        · skip
          refine k_iload_n C 0 rfl dX3_begin_27 rfl ?_
          refine k_iload_n C 2 rfl dX3_begin_28 rfl ?_
          refine k_icmp_gt C 70 (⟨by omega, by omega⟩) (⟨by omega, by omega⟩) dX3_begin_29 (by decide) (fun c29 => ?_) (fun c29 => ?_)
          · skip
            exact k_vret C hR (u := (sz, f1, f2, f3)) rfl (by (try dsimp only) <;> exact (by have e : q = SZ n := (by rcases Nat.lt_or_ge q (SZ n) with z | z; exact absurd (dvr_le hn.1 z) (by omega); omega); subst e; exact TlP_ok hx i1 i4)) rfl (Nat.le_of_ble_eq_true rfl) (Nat.le_of_ble_eq_true rfl) dX3_begin_70
          · skip
            have hq : q < SZ n := by rcases Nat.lt_or_ge q (SZ n) with z | z; exact z; exfalso; have e : q = SZ n := (by omega); have := dvr_end hn.1; rw [← e] at this; omega
            have hqp := qv_pos hn.1 hq
            refine k_iload_n C 2 rfl dX3_begin_32 rfl ?_
            refine k_iload_n C 0 rfl dX3_begin_33 rfl ?_
            refine k_idiv C ⟨by omega, by omega⟩ ⟨by omega, by omega⟩ dX3_begin_34 ?_
            refine k_nmI (fun v34 e34 => ?_)
            have hv : v34 = (qv n q : Int) := by rw [e34, hx, i3, ← Int.natCast_ediv, dvr_v hn.1 hq]
            refine k_istore_n C (lo' := [(3, .int (iI v34)), (2, .int (iI d)), (0, .ref t), (1, .int (iI x))]) dX3_begin_35 rfl (by decide) rfl ?_
            refine k_aload_n C 2 rfl dX3_begin_36 rfl ?_
            refine k_dup C dX3_begin_37 rfl ?_
            refine k_get C (Cn := RX3) (T := TX3) (N := 5) (ci := 3) (ref := "StruckCounts$Tally") in_X3_begin_X3 0 rfl rfl 4 (by decide) 2 rfl rfl (v := .int (iI sz)) rfl dX3_begin_38 ?_
            refine k_iconst C dX3_begin_41 ?_
            refine k_iadd C dX3_begin_42 ?_
            refine k_nmI (fun v42 e42 => ?_)
            refine k_put C (Cn := RX3) (T := TX3) (N := 5) (ci := 3) (ref := "StruckCounts$Tally") in_X3_begin_X3 tyX3 tyX3_ok nmX3 0 rfl rfl 4 (by decide) 2 rfl rfl rfl (v := .int (iI v42)) (rfl) (rfl) (Nat.le_of_ble_eq_true rfl) [(t, .inr (3, [.ref va, .ref re, .ref su, .int (iI x), .int (iI v42)])), (va, .inl (g_I (x_G X), 631, .inl (aI f1))), (re, .inl (g_I (x_G X), 2524, .inl (aI f2))), (su, .inl (g_J (x_G X), 631, .inr (.inl (aL f3))))] rfl dX3_begin_43 ?_
            refine k_aload_n C 2 rfl dX3_begin_46 rfl ?_
            refine k_aload_n C 2 rfl dX3_begin_47 rfl ?_
            refine k_get C (Cn := RX3) (T := TX3) (N := 5) (ci := 3) (ref := "StruckCounts$Tally") in_X3_begin_X3 0 rfl rfl 4 (by decide) 2 rfl rfl (v := .int (iI v42)) rfl dX3_begin_48 ?_
            refine k_iconst C dX3_begin_51 ?_
            refine k_isub C dX3_begin_52 ?_
            refine k_nmI (fun v52 e52 => ?_)
            refine k_iload_n C 0 rfl dX3_begin_53 rfl ?_
            refine k_callV C (y := yX3_fill) [.int (iI v52), .int (iI v34)] 2 rfl (c_X3_fill (x_l X) (x_G X) t va re su x v42 v52 v34 q m f1 f2 f3 (by omega) (by omega) (by omega) (by omega)) gX3_begin_X3_fill rfl ⟨rfl, by decide +kernel, by decide +kernel, by decide +kernel⟩ ⟨by decide, by decide⟩ 0 (fs := [.ref va, .ref re, .ref su, .int (iI x), .int (iI v42)]) rfl rfl rfl [0, 1, 2, 3] (by decide) (wc := [(t, .inr (3, [.ref va, .ref re, .ref su, .int (iI x), .int (iI v42)])), (va, .inl (g_I (x_G X), 631, .inl (aI f1))), (re, .inl (g_I (x_G X), 2524, .inl (aI f2))), (su, .inl (g_J (x_G X), 631, .inr (.inl (aL f3))))]) rfl [] rfl (Nat.le_of_ble_eq_true rfl) ⟨Nat.le_of_ble_eq_true rfl, Nat.le_of_ble_eq_true rfl⟩ dX3_begin_54 (fun u54 => [(t, .inr (3, [.ref va, .ref re, .ref su, .int (iI x), .int (iI v42)])), (va, .inl (g_I (x_G X), 631, .inl (aI u54.1))), (re, .inl (g_I (x_G X), 2524, .inl (aI u54.2.1))), (su, .inl (g_J (x_G X), 631, .inr (.inl (aL u54.2.2))))]) (Or.inr ⟨[], [0, 1, 2, 3], [], rfl, by decide, by decide, by decide, fun _ => rfl⟩) (fun u54 => []) (fun _ => rfl) 0 0 ⟨rfl, rfl⟩ (fun u54 hu54 => ?_)
            refine k_iload_n C 3 rfl dX3_begin_57 rfl ?_
            refine k_iconst C dX3_begin_58 ?_
            refine k_iload_n C 0 rfl dX3_begin_59 rfl ?_
            refine k_max C 3 4 5 6 (⟨by omega, by omega⟩) (⟨by omega, by omega⟩) rfl rfl rfl rfl (by decide) (Nat.le_of_ble_eq_true rfl) ⟨by decide, by decide⟩ dX3_begin_60 (fun v60 e60 => ?_)
            have hvm : v60 = v34 := by omega
            refine k_idiv C ⟨by omega, by omega⟩ ⟨by omega, by omega⟩ dX3_begin_63 ?_
            refine k_nmI (fun v63 e63 => ?_)
            have h63 := Int.ediv_le_self (a := x) v60 (by omega)
            have h63b := Int.ediv_nonneg (a := x) (b := v60) (by omega) (by omega)
            refine k_iconst C dX3_begin_64 ?_
            refine k_iadd C dX3_begin_65 ?_
            refine k_nmI (fun v65 e65 => ?_)
            refine k_istore_n C (lo' := [(2, .int (iI v65)), (3, .int (iI v34)), (0, .ref t), (1, .int (iI x))]) dX3_begin_66 rfl (by decide) rfl ?_
            refine k_goto C 12 dX3_begin_67 (by decide) ?_
            refine k_lo (lo' := [(2, .int (iI v65)), (0, .ref t), (1, .int (iI x))]) [0, 2, 3] rfl ?_
            exact ih12 (q + 1) v42 v65 u54.1 u54.2.1 u54.2.2 (⟨by omega, by omega, by rw [e65, e63, hvm, hv, hx, ← Int.natCast_ediv]; have := dvr_s hn.1 hq; omega, TlP_step hv i4 hu54.1 hu54.2.1 hu54.2.2⟩) (by omega)
  exact L12 _ 0 0 1 fv fr fs (⟨rfl, Nat.zero_le _, by rw [dvr_0]; rfl, fun i hi => absurd hi (Nat.not_lt_zero _)⟩) (Nat.lt_succ_self _)
set_option maxHeartbeats 4000000 in
set_option maxRecDepth 100000 in
theorem c_X3_multiplesAt (l : Launch) (G : KG) (t va re su : Nat) (tb ts : Int) (p pr : Int) (n t1 m : Nat) (fv fr fs : Nat → Int) (hn : 1 ≤ n ∧ n ≤ 99999) (ht : t1 < 65) (hpr : pr = (sp t1 : Int)) (hT : TlOK n t1 m tb ts fv fr fs) (hp : 0 ≤ p ∧ p < ts) : Ct l G yX3_multiplesAt wsX3_multiplesAt (rmD 3 0 0) [.ref t, .int (iI p), .int (iI pr)] [(t, .inr (3, [.ref va, .ref re, .ref su, .int (iI tb), .int (iI ts)])), (va, .inl (g_I G, 631, .inl (aI fv))), (re, .inl (g_I G, 2524, .inl (aI fr))), (su, .inl (g_J G, 631, .inr (.inl (aL fs))))] (fun u : Int => u = (cA m t1 (qv n p.toNat / sp t1) : Int)) (fun u : Int => some (.int (iI u))) (fun u : Int => [(t, .inr (3, [.ref va, .ref re, .ref su, .int (iI tb), .int (iI ts)])), (va, .inl (g_I G, 631, .inl (aI fv))), (re, .inl (g_I G, 2524, .inl (aI fr))), (su, .inl (g_J G, 631, .inr (.inl (aL fs))))]) := by
  refine Ct.of (cc := cX3_multiplesAt) (maxL := 3) (ret := (some .int)) (by decide +kernel) rfl (Nat.le_of_ble_eq_true rfl) ?_
  intro X C hG hL hnm hR
  subst hG
  subst hL
  have C : Cx X cX3_multiplesAt RX3 wsX3_multiplesAt (some .int) 3 (rmD 3 0 0) := C
  have hz := SZ_631 hn.2
  have h2 := sp_ge2 ht
  have h3 := sp_le ht
  have htb := hT.1
  have hts := hT.2.1
  have hq : p.toNat < SZ n := by omega
  have hqp := qv_pos hn.1 hq
  have hvv := Tl_vA hT hp
  show K_ X 0 0 [(t, .inr (3, [.ref va, .ref re, .ref su, .int (iI tb), .int (iI ts)])), (va, .inl (g_I (x_G X), 631, .inl (aI fv))), (re, .inl (g_I (x_G X), 2524, .inl (aI fr))), (su, .inl (g_J (x_G X), 631, .inr (.inl (aL fs))))] 0 [(0, .ref t), (1, .int (iI p)), (2, .int (iI pr))] []
  refine k_iload_n C 2 rfl dX3_multiplesAt_0 rfl ?_
  refine k_iconst C dX3_multiplesAt_1 ?_
  refine k_icmp_ge C 9 (⟨by omega, by omega⟩) (⟨by omega, by omega⟩) dX3_multiplesAt_2 (by decide) (fun c2 => ?_) (fun c2 => ?_)
  · skip
    refine k_aload_n C 0 rfl dX3_multiplesAt_9 rfl ?_
    refine k_aload_n C 0 rfl dX3_multiplesAt_10 rfl ?_
    refine k_aload_n C 0 rfl dX3_multiplesAt_11 rfl ?_
    refine k_iload_n C 1 rfl dX3_multiplesAt_12 rfl ?_
    refine k_callV C (y := yX3_valueAt) [.int (iI p)] 1 rfl (c_X3_valueAt (x_l X) (x_G X) t va re su tb ts p fv (by first | assumption | omega) (by first | assumption | omega)) gX3_multiplesAt_X3_valueAt rfl ⟨rfl, by decide +kernel, by decide +kernel, by decide +kernel⟩ ⟨by decide, by decide⟩ 0 (fs := [.ref va, .ref re, .ref su, .int (iI tb), .int (iI ts)]) rfl rfl rfl [0, 1] (by decide) (wc := [(t, .inr (3, [.ref va, .ref re, .ref su, .int (iI tb), .int (iI ts)])), (va, .inl (g_I (x_G X), 631, .inl (aI fv)))]) rfl [.ref t, .ref t] rfl (Nat.le_of_ble_eq_true rfl) ⟨Nat.le_of_ble_eq_true rfl, Nat.le_of_ble_eq_true rfl⟩ dX3_multiplesAt_13 (fun _ => [(t, .inr (3, [.ref va, .ref re, .ref su, .int (iI tb), .int (iI ts)])), (va, .inl (g_I (x_G X), 631, .inl (aI fv))), (re, .inl (g_I (x_G X), 2524, .inl (aI fr))), (su, .inl (g_J (x_G X), 631, .inr (.inl (aL fs))))]) (Or.inl (fun _ => ⟨rfl, rfl⟩)) (fun u13 => [.int (iI u13), .ref t, .ref t]) (fun _ => rfl) 0 0 ⟨rfl, rfl⟩ (fun u13 hu13 => ?_)
    have hd1 := Int.ediv_nonneg (a := u13) (b := pr) (by omega) (by omega)
    have hd2 := Int.ediv_le_self (a := u13) pr (by omega)
    refine k_iload_n C 2 rfl dX3_multiplesAt_16 rfl ?_
    refine k_idiv C ⟨by omega, by omega⟩ ⟨by omega, by omega⟩ dX3_multiplesAt_17 ?_
    refine k_nmI (fun v17 e17 => ?_)
    refine k_callV C (y := yX3_placeOf) [.int (iI v17)] 1 rfl (c_X3_placeOf (x_l X) (x_G X) t va re su tb ts n v17 (by first | assumption | omega) (by first | assumption | omega) (by first | assumption | omega) (by first | assumption | omega)) gX3_multiplesAt_X3_placeOf rfl ⟨rfl, by decide +kernel, by decide +kernel, by decide +kernel⟩ ⟨by decide, by decide⟩ 0 (fs := [.ref va, .ref re, .ref su, .int (iI tb), .int (iI ts)]) rfl rfl rfl [0] (by decide) (wc := [(t, .inr (3, [.ref va, .ref re, .ref su, .int (iI tb), .int (iI ts)]))]) rfl [.ref t] rfl (Nat.le_of_ble_eq_true rfl) ⟨Nat.le_of_ble_eq_true rfl, Nat.le_of_ble_eq_true rfl⟩ dX3_multiplesAt_18 (fun _ => [(t, .inr (3, [.ref va, .ref re, .ref su, .int (iI tb), .int (iI ts)])), (va, .inl (g_I (x_G X), 631, .inl (aI fv))), (re, .inl (g_I (x_G X), 2524, .inl (aI fr))), (su, .inl (g_J (x_G X), 631, .inr (.inl (aL fs))))]) (Or.inl (fun _ => ⟨rfl, rfl⟩)) (fun u18 => [.int (iI u18), .ref t]) (fun _ => rfl) 0 0 ⟨rfl, rfl⟩ (fun u18 hu18 => ?_)
    have hpl := pI_rng n v17
    have hpl2 := pI_lt (v := v17) hn.1
    refine k_callV C (y := yX3_countAt) [.int (iI u18)] 1 rfl (c_X3_countAt (x_l X) (x_G X) t va re su tb ts u18 fr (by first | assumption | omega) (by first | assumption | omega)) gX3_multiplesAt_X3_countAt rfl ⟨rfl, by decide +kernel, by decide +kernel, by decide +kernel⟩ ⟨by decide, by decide⟩ 0 (fs := [.ref va, .ref re, .ref su, .int (iI tb), .int (iI ts)]) rfl rfl rfl [0, 2] (by decide) (wc := [(t, .inr (3, [.ref va, .ref re, .ref su, .int (iI tb), .int (iI ts)])), (re, .inl (g_I (x_G X), 2524, .inl (aI fr)))]) rfl [] rfl (Nat.le_of_ble_eq_true rfl) ⟨Nat.le_of_ble_eq_true rfl, Nat.le_of_ble_eq_true rfl⟩ dX3_multiplesAt_21 (fun _ => [(t, .inr (3, [.ref va, .ref re, .ref su, .int (iI tb), .int (iI ts)])), (va, .inl (g_I (x_G X), 631, .inl (aI fv))), (re, .inl (g_I (x_G X), 2524, .inl (aI fr))), (su, .inl (g_J (x_G X), 631, .inr (.inl (aL fs))))]) (Or.inl (fun _ => ⟨rfl, rfl⟩)) (fun u21 => [.int (iI u21)]) (fun _ => rfl) 0 0 ⟨rfl, rfl⟩ (fun u21 hu21 => ?_)
    exact k_iret C hR (u := u21) rfl (by
        rw [hu21, hu18]
        by_cases e : sp t1 ≤ qv n p.toNat
        · obtain ⟨s, a, b, c, d⟩ := src_of hn.1 hq ht e
          rw [e17, hu13, hvv, hpr, a, Tl_cnt hT b, d]
        · have z : qv n p.toNat / sp t1 = 0 := Nat.div_eq_of_lt (by omega)
          rw [e17, hu13, hvv, hpr, ← Int.natCast_ediv, z, pI_lo (by decide)]
          rw [rA_out (by omega), rA_out (by omega), rA_out (by omega), rA_out (by omega)]; rfl) rfl (Nat.le_of_ble_eq_true rfl) (Nat.le_of_ble_eq_true rfl) dX3_multiplesAt_24
  · exfalso; omega
theorem in_X3_remove_X3 : ∀ w ∈ wsX30, w ∈ wsX3_remove := by decide +kernel
set_option maxHeartbeats 4000000 in
set_option maxRecDepth 100000 in
theorem c_X3_remove (l : Launch) (G : KG) (t va re su : Nat) (tb ts : Int) (pr : Int) (n t1 m : Nat) (fv fr fs : Nat → Int) (hn : 1 ≤ n ∧ n ≤ 99999) (ht : t1 < 65) (hpr : pr = (sp t1 : Int)) (hb : m.testBit t1 = true) (hT : TlOK n t1 m tb ts fv fr fs) : Ct l G yX3_remove wsX3_remove (rmD 2 0 0) [.ref t, .int (iI pr)] [(t, .inr (3, [.ref va, .ref re, .ref su, .int (iI tb), .int (iI ts)])), (va, .inl (g_I G, 631, .inl (aI fv))), (re, .inl (g_I G, 2524, .inl (aI fr))), (su, .inl (g_J G, 631, .inr (.inl (aL fs))))] (fun u : (Nat → Int) × (Nat → Int) => TlOK n (t1 + 1) m tb ts fv u.1 u.2) (fun u : (Nat → Int) × (Nat → Int) => none) (fun u : (Nat → Int) × (Nat → Int) => [(t, .inr (3, [.ref va, .ref re, .ref su, .int (iI tb), .int (iI ts)])), (va, .inl (g_I G, 631, .inl (aI fv))), (re, .inl (g_I G, 2524, .inl (aI u.1))), (su, .inl (g_J G, 631, .inr (.inl (aL u.2))))]) := by
  refine Ct.of (cc := cX3_remove) (maxL := 5) (ret := none) (by decide +kernel) rfl (Nat.le_of_ble_eq_true rfl) ?_
  intro X C hG hL hnm hR
  subst hG
  subst hL
  have C : Cx X cX3_remove RX3 wsX3_remove none 5 (rmD 2 0 0) := C
  have hz := SZ_631 hn.2
  have h2 := sp_ge2 ht
  have h3 := sp_le ht
  have htb := hT.1
  have hts := hT.2.1
  show K_ X 0 0 [(t, .inr (3, [.ref va, .ref re, .ref su, .int (iI tb), .int (iI ts)])), (va, .inl (g_I (x_G X), 631, .inl (aI fv))), (re, .inl (g_I (x_G X), 2524, .inl (aI fr))), (su, .inl (g_J (x_G X), 631, .inr (.inl (aL fs))))] 0 [(0, .ref t), (1, .int (iI pr))] []
  refine k_iload_n C 1 rfl dX3_remove_0 rfl ?_
  refine k_iconst C dX3_remove_1 ?_
  refine k_icmp_ge C 6 (⟨by omega, by omega⟩) (⟨by omega, by omega⟩) dX3_remove_2 (by decide) (fun c2 => ?_) (fun c2 => ?_)
  · skip
    refine k_iconst C dX3_remove_6 ?_
    refine k_istore_n C (lo' := [(2, .int (iI 0)), (0, .ref t), (1, .int (iI pr))]) dX3_remove_7 rfl (by decide) rfl ?_
    have L8 : ∀ (nf : Nat) (i : Nat) (pl : Int) (fx : Nat → Int) (fy : Nat → Int), (pl = (i : Int) ∧ i ≤ SZ n ∧ TlR n t1 m i fx fy) → SZ n - i < nf → K_ X 0 0 [(t, .inr (3, [.ref va, .ref re, .ref su, .int (iI tb), .int (iI ts)])), (va, .inl (g_I (x_G X), 631, .inl (aI fv))), (re, .inl (g_I (x_G X), 2524, .inl (aI fx))), (su, .inl (g_J (x_G X), 631, .inr (.inl (aL fy))))] 8 [(2, .int (iI pl)), (0, .ref t), (1, .int (iI pr))] [] := by
      intro nf
      induction nf with
      | zero => intro i pl fx fy hI hm; exact absurd hm (Nat.not_lt_zero _)
      | succ nf ih8 =>
        intro i pl fx fy hI8 hm8
        obtain ⟨i1, i2, i3⟩ := hI8
        refine k_iload_n C 0 rfl dX3_remove_8 rfl ?_
        refine k_sipush C dX3_remove_9 (by decide) ?_
        refine k_icmp_ge C 114 (⟨by omega, by omega⟩) (⟨by omega, by omega⟩) dX3_remove_12 (by decide) (fun c12 => ?_) (fun c12 => ?_)
        · skip
          exact k_vret C hR (u := (fx, fy)) rfl (by (try dsimp only) <;> exact (TlR_end hn.1 ht hb hT i3 (fun z => by omega))) rfl (Nat.le_of_ble_eq_true rfl) (Nat.le_of_ble_eq_true rfl) dX3_remove_114
        · skip
          refine k_aload_n C 1 rfl dX3_remove_15 rfl ?_
          refine k_iload_n C 0 rfl dX3_remove_16 rfl ?_
          refine k_callV C (y := yX3_valueAt) [.int (iI pl)] 1 rfl (c_X3_valueAt (x_l X) (x_G X) t va re su tb ts pl fv (by first | assumption | omega) (by first | assumption | omega)) gX3_remove_X3_valueAt rfl ⟨rfl, by decide +kernel, by decide +kernel, by decide +kernel⟩ ⟨by decide, by decide⟩ 0 (fs := [.ref va, .ref re, .ref su, .int (iI tb), .int (iI ts)]) rfl rfl rfl [0, 1] (by decide) (wc := [(t, .inr (3, [.ref va, .ref re, .ref su, .int (iI tb), .int (iI ts)])), (va, .inl (g_I (x_G X), 631, .inl (aI fv)))]) rfl [] rfl (Nat.le_of_ble_eq_true rfl) ⟨Nat.le_of_ble_eq_true rfl, Nat.le_of_ble_eq_true rfl⟩ dX3_remove_17 (fun _ => [(t, .inr (3, [.ref va, .ref re, .ref su, .int (iI tb), .int (iI ts)])), (va, .inl (g_I (x_G X), 631, .inl (aI fv))), (re, .inl (g_I (x_G X), 2524, .inl (aI fx))), (su, .inl (g_J (x_G X), 631, .inr (.inl (aL fy))))]) (Or.inl (fun _ => ⟨rfl, rfl⟩)) (fun u17 => [.int (iI u17)]) (fun _ => rfl) 0 0 ⟨rfl, rfl⟩ (fun u17 hu17 => ?_)
          have hvr := Tl_vA_rng (q := pl) hn.1 hT
          refine k_iload_n C 2 rfl dX3_remove_20 rfl ?_
          refine k_icmp_lt C 114 (⟨by omega, by omega⟩) (⟨by omega, by omega⟩) dX3_remove_21 (by decide) (fun c21 => ?_) (fun c21 => ?_)
          · skip
            exact k_vret C hR (u := (fx, fy)) rfl (by (try dsimp only) <;> exact (TlR_end hn.1 ht hb hT i3 (fun z => by have hvv : u17 = (qv n i : Int) := (by rw [hu17, Tl_vA hT ⟨by omega, by omega⟩, i1, Int.toNat_natCast]); omega))) rfl (Nat.le_of_ble_eq_true rfl) (Nat.le_of_ble_eq_true rfl) dX3_remove_114
          · skip
            have hin : pl < ts := by rcases Int.lt_or_le pl ts with z | z; exact z; exfalso; rw [hu17] at c21; unfold vA at c21; rw [if_neg (by omega)] at c21; omega
            have hi : i < SZ n := by omega
            have hvv : u17 = (qv n i : Int) := by rw [hu17, Tl_vA hT ⟨by omega, hin⟩, i1, Int.toNat_natCast]
            have hqp := qv_pos hn.1 hi
            have hge : sp t1 ≤ qv n i := by omega
            obtain ⟨s, s0, s1, s2, s3⟩ := src_of hn.1 hi ht hge
            refine k_aload_n C 1 rfl dX3_remove_24 rfl ?_
            refine k_aload_n C 1 rfl dX3_remove_25 rfl ?_
            refine k_get C (Cn := RX3) (T := TX3) (N := 5) (ci := 3) (ref := "StruckCounts$Tally") in_X3_remove_X3 0 rfl rfl 0 (by decide) 1 rfl rfl (v := .ref va) rfl dX3_remove_26 ?_
            refine k_iload_n C 0 rfl dX3_remove_29 rfl ?_
            refine k_iald C (f := fv) 1 rfl (⟨by omega, by omega⟩) (by decide) dX3_remove_30 ?_
            refine k_nmI (fun v30 e30 => ?_)
            have hv30 : v30 = (qv n i : Int) := by rw [e30, i1, Int.toNat_natCast]; exact (hT.2.2 i hi).1
            refine k_iload_n C 2 rfl dX3_remove_31 rfl ?_
            refine k_idiv C ⟨by omega, by omega⟩ ⟨by omega, by omega⟩ dX3_remove_32 ?_
            refine k_nmI (fun v32 e32 => ?_)
            have hd1 := Int.ediv_nonneg (a := v30) (b := pr) (by omega) (by omega)
            have hd2 := Int.ediv_le_self (a := v30) pr (by omega)
            refine k_callV C (y := yX3_placeOf) [.int (iI v32)] 1 rfl (c_X3_placeOf (x_l X) (x_G X) t va re su tb ts n v32 (by first | assumption | omega) (by first | assumption | omega) (by first | assumption | omega) (by first | assumption | omega)) gX3_remove_X3_placeOf rfl ⟨rfl, by decide +kernel, by decide +kernel, by decide +kernel⟩ ⟨by decide, by decide⟩ 0 (fs := [.ref va, .ref re, .ref su, .int (iI tb), .int (iI ts)]) rfl rfl rfl [0] (by decide) (wc := [(t, .inr (3, [.ref va, .ref re, .ref su, .int (iI tb), .int (iI ts)]))]) rfl [] rfl (Nat.le_of_ble_eq_true rfl) ⟨Nat.le_of_ble_eq_true rfl, Nat.le_of_ble_eq_true rfl⟩ dX3_remove_33 (fun _ => [(t, .inr (3, [.ref va, .ref re, .ref su, .int (iI tb), .int (iI ts)])), (va, .inl (g_I (x_G X), 631, .inl (aI fv))), (re, .inl (g_I (x_G X), 2524, .inl (aI fx))), (su, .inl (g_J (x_G X), 631, .inr (.inl (aL fy))))]) (Or.inl (fun _ => ⟨rfl, rfl⟩)) (fun u33 => [.int (iI u33)]) (fun _ => rfl) 0 0 ⟨rfl, rfl⟩ (fun u33 hu33 => ?_)
            have hus : u33 = (s : Int) := by rw [hu33, e32, hv30, hpr, s0]
            refine k_istore_n C (lo' := [(3, .int (iI u33)), (2, .int (iI pl)), (0, .ref t), (1, .int (iI pr))]) dX3_remove_36 rfl (by decide) rfl ?_
            refine k_aload_n C 2 rfl dX3_remove_37 rfl ?_
            refine k_iload_n C 0 rfl dX3_remove_38 rfl ?_
            refine k_callV C (y := yX3_has) [.int (iI u33)] 1 rfl (c_X3_has (x_l X) (x_G X) t va re su tb ts u33 (by first | assumption | omega) (by first | assumption | omega)) gX3_remove_X3_has rfl ⟨rfl, by decide +kernel, by decide +kernel, by decide +kernel⟩ ⟨by decide, by decide⟩ 0 (fs := [.ref va, .ref re, .ref su, .int (iI tb), .int (iI ts)]) rfl rfl rfl [0] (by decide) (wc := [(t, .inr (3, [.ref va, .ref re, .ref su, .int (iI tb), .int (iI ts)]))]) rfl [] rfl (Nat.le_of_ble_eq_true rfl) ⟨Nat.le_of_ble_eq_true rfl, Nat.le_of_ble_eq_true rfl⟩ dX3_remove_39 (fun _ => [(t, .inr (3, [.ref va, .ref re, .ref su, .int (iI tb), .int (iI ts)])), (va, .inl (g_I (x_G X), 631, .inl (aI fv))), (re, .inl (g_I (x_G X), 2524, .inl (aI fx))), (su, .inl (g_J (x_G X), 631, .inr (.inl (aL fy))))]) (Or.inl (fun _ => ⟨rfl, rfl⟩)) (fun u39 => [.int (iI u39)]) (fun _ => rfl) 0 0 ⟨rfl, rfl⟩ (fun u39 hu39 => ?_)
            refine k_if_ne C 46 (⟨by omega, by omega⟩) dX3_remove_42 (by decide) (fun c42 => ?_) (fun c42 => ?_)
            · skip
              have hu39 := bo_t hu39 c42
              refine k_aload_n C 2 rfl dX3_remove_46 rfl ?_
              refine k_get C (Cn := RX3) (T := TX3) (N := 5) (ci := 3) (ref := "StruckCounts$Tally") in_X3_remove_X3 0 rfl rfl 2 (by decide) 2 rfl rfl (v := .ref su) rfl dX3_remove_47 ?_
              refine k_iload_n C 1 rfl dX3_remove_50 rfl ?_
              refine k_dup2 C dX3_remove_51 rfl rfl ?_
              refine k_lald C (f := fy) 3 rfl (⟨by omega, by omega⟩) (by decide) dX3_remove_52 ?_
              refine k_nmL (fun v52 e52 => ?_)
              refine k_iload_n C 3 rfl dX3_remove_53 rfl ?_
              refine k_i2l C (⟨by omega, by omega⟩) dX3_remove_54 ?_
              refine k_aload_n C 2 rfl dX3_remove_55 rfl ?_
              refine k_get C (Cn := RX3) (T := TX3) (N := 5) (ci := 3) (ref := "StruckCounts$Tally") in_X3_remove_X3 0 rfl rfl 2 (by decide) 2 rfl rfl (v := .ref su) rfl dX3_remove_56 ?_
              refine k_iload_n C 0 rfl dX3_remove_59 rfl ?_
              refine k_lald C (f := fy) 3 rfl (⟨by omega, by omega⟩) (by decide) dX3_remove_60 ?_
              refine k_nmL (fun v60 e60 => ?_)
              refine k_lmul C dX3_remove_61 ?_
              refine k_nmL (fun v61 e61 => ?_)
              refine k_lsub C dX3_remove_62 ?_
              refine k_nmL (fun v62 e62 => ?_)
              refine k_last C (f := fy) 3 rfl (⟨by omega, by omega⟩) (by decide) (fun gg => [(t, .inr (3, [.ref va, .ref re, .ref su, .int (iI tb), .int (iI ts)])), (va, .inl (g_I (x_G X), 631, .inl (aI fv))), (re, .inl (g_I (x_G X), 2524, .inl (aI fx))), (su, .inl (g_J (x_G X), 631, .inr (.inl (aL gg))))]) (fun _ => rfl) dX3_remove_63 (fun g63 e63 => ?_)
              refine k_iconst C dX3_remove_64 ?_
              refine k_istore C (lo' := [(4, .int (iI 0)), (3, .int (iI u33)), (2, .int (iI pl)), (0, .ref t), (1, .int (iI pr))]) dX3_remove_65 (by decide) rfl ?_
              have L67 : ∀ (nf : Nat) (r : Int) (fz : Nat → Int), (0 ≤ r ∧ r ≤ 4 ∧ ∀ k j, j < 4 → fz (4 * k + j) = fx (4 * k + j) - if k = i then tk fx (sp t1) s j r.toNat else 0) → (4 - r).toNat < nf → K_ X 0 0 [(t, .inr (3, [.ref va, .ref re, .ref su, .int (iI tb), .int (iI ts)])), (va, .inl (g_I (x_G X), 631, .inl (aI fv))), (re, .inl (g_I (x_G X), 2524, .inl (aI fz))), (su, .inl (g_J (x_G X), 631, .inr (.inl (aL g63))))] 67 [(4, .int (iI r)), (3, .int (iI u33)), (2, .int (iI pl)), (0, .ref t), (1, .int (iI pr))] [] := by
                intro nf
                induction nf with
                | zero => intro r fz hI hm; exact absurd hm (Nat.not_lt_zero _)
                | succ nf ih67 =>
                  intro r fz hI67 hm67
                  obtain ⟨j1, j2, j3⟩ := hI67
                  refine k_iload C 0 rfl dX3_remove_67 ?_
                  refine k_iconst C dX3_remove_69 ?_
                  refine k_icmp_ge C 108 (⟨by omega, by omega⟩) (⟨by omega, by omega⟩) dX3_remove_70 (by decide) (fun c70 => ?_) (fun c70 => ?_)
                  · skip
                    obtain ⟨v108, e108⟩ : ∃ y : Int, y = pl + 1 := ⟨_, rfl⟩
                    refine k_iinc C (lo' := [(2, .int (iI v108)), (4, .int (iI r)), (3, .int (iI u33)), (0, .ref t), (1, .int (iI pr))]) 2 rfl dX3_remove_108 (by decide) v108 e108 rfl ?_
                    refine k_goto C 8 dX3_remove_111 (by decide) ?_
                    refine k_lo (lo' := [(2, .int (iI v108)), (0, .ref t), (1, .int (iI pr))]) [0, 3, 4] rfl ?_
                    exact ih8 (i + 1) v108 fz g63 (⟨by omega, by omega, TlR_s ht hb i3 hi s1 (Nat.le_of_lt s2) s3 (fun k j hj => by rw [j3 k j hj, show r.toNat = 4 by omega]) (x := v62) (by rw [e62, e61, e52, e60, hus, hpr, i1, Int.toNat_natCast, Int.toNat_natCast]) (by rw [e63, i1, Int.toNat_natCast])⟩) (by omega)
                  · skip
                    refine k_aload_n C 3 rfl dX3_remove_73 rfl ?_
                    refine k_get C (Cn := RX3) (T := TX3) (N := 5) (ci := 3) (ref := "StruckCounts$Tally") in_X3_remove_X3 0 rfl rfl 1 (by decide) 3 rfl rfl (v := .ref re) rfl dX3_remove_74 ?_
                    refine k_iconst C dX3_remove_77 ?_
                    refine k_iload_n C 2 rfl dX3_remove_78 rfl ?_
                    refine k_imul C dX3_remove_79 ?_
                    refine k_nmI (fun v79 e79 => ?_)
                    refine k_iload_n C 4 rfl dX3_remove_80 rfl ?_
                    refine k_iload C 0 rfl dX3_remove_81 ?_
                    refine k_imul C dX3_remove_83 ?_
                    refine k_nmI (fun v83 e83 => ?_)
                    have hpr3 := mul_rng (a := pr) (b := r) (A := 313) (B := 3) (by omega) (by omega) (by omega) (by omega)
                    refine k_iconst C dX3_remove_84 ?_
                    refine k_iand C (v83 % 4) (iI_and3 v83) dX3_remove_85 ?_
                    refine k_nmI (fun v85 e85 => ?_)
                    have hw : v85.toNat = sp t1 * r.toNat % 4 := by obtain ⟨r1, hr1⟩ := Int.eq_ofNat_of_zero_le j1; rw [e85, e83, hpr, hr1, Int.toNat_natCast, ← Int.natCast_mul]; omega
                    refine k_iadd C dX3_remove_86 ?_
                    refine k_nmI (fun v86 e86 => ?_)
                    refine k_dup2 C dX3_remove_87 rfl rfl ?_
                    refine k_iald C (f := fz) 2 rfl (⟨by omega, by omega⟩) (by decide) dX3_remove_88 ?_
                    refine k_nmI (fun v88 e88 => ?_)
                    refine k_aload_n C 3 rfl dX3_remove_89 rfl ?_
                    refine k_get C (Cn := RX3) (T := TX3) (N := 5) (ci := 3) (ref := "StruckCounts$Tally") in_X3_remove_X3 0 rfl rfl 1 (by decide) 3 rfl rfl (v := .ref re) rfl dX3_remove_90 ?_
                    refine k_iconst C dX3_remove_93 ?_
                    refine k_iload_n C 1 rfl dX3_remove_94 rfl ?_
                    refine k_imul C dX3_remove_95 ?_
                    refine k_nmI (fun v95 e95 => ?_)
                    refine k_iload C 0 rfl dX3_remove_96 ?_
                    refine k_iadd C dX3_remove_98 ?_
                    refine k_nmI (fun v98 e98 => ?_)
                    refine k_iald C (f := fz) 2 rfl (⟨by omega, by omega⟩) (by decide) dX3_remove_99 ?_
                    refine k_nmI (fun v99 e99 => ?_)
                    refine k_isub C dX3_remove_100 ?_
                    refine k_nmI (fun v100 e100 => ?_)
                    refine k_iast C (f := fz) 2 rfl (⟨by omega, by omega⟩) (by decide) (fun gg => [(t, .inr (3, [.ref va, .ref re, .ref su, .int (iI tb), .int (iI ts)])), (va, .inl (g_I (x_G X), 631, .inl (aI fv))), (re, .inl (g_I (x_G X), 2524, .inl (aI gg))), (su, .inl (g_J (x_G X), 631, .inr (.inl (aL g63))))]) (fun _ => rfl) dX3_remove_101 (fun g101 e101 => ?_)
                    obtain ⟨v102, e102⟩ : ∃ y : Int, y = r + 1 := ⟨_, rfl⟩
                    refine k_iinc C (lo' := [(4, .int (iI v102)), (3, .int (iI u33)), (2, .int (iI pl)), (0, .ref t), (1, .int (iI pr))]) 0 rfl dX3_remove_102 (by decide) v102 e102 rfl ?_
                    refine k_goto C 67 dX3_remove_105 (by decide) ?_
                    exact ih67 v102 g101 (⟨by omega, by omega, by rw [e102, show (r + 1).toNat = r.toNat + 1 by omega]; exact tk_step (by omega) (by omega) j3 (w := v85.toNat) hw (y := v86) (by omega) (x := v100) (by rw [e100, e88, e99, show v86.toNat = 4 * i + v85.toNat by omega, show v98.toNat = 4 * s + r.toNat by omega]) e101⟩) (by omega)
              exact L67 _ 0 fx (⟨by omega, by omega, fun k j hj => by simp [tk]⟩) (Nat.lt_succ_self _)
            · exfalso; omega
    exact L8 _ 0 0 fr fs (⟨rfl, Nat.zero_le _, TlR_0 hT⟩) (Nat.lt_succ_self _)
  · exfalso; omega
