def wdv (G : KG) (i : Nat) : Value := if i < 4 then .ref (g_ad G i) else .null
theorem wdv_lt {G : KG} {i : Nat} (h : i < 4) : wdv G i = .ref (g_ad G i) := if_pos h
theorem wdv_4 {G : KG} : wdv G 4 = .null := rfl
theorem wdv_cases {G : KG} {T : Nat → Int} {a : Nat} {wv : Value} (h : wv = wdv G (wsel T a 4)) : (wv = .null ∧ ¬ Ful T a) ∨ (wv = .ref (g_ad G (sW T a)) ∧ Ful T a) := by
  by_cases hF : Ful T a
  · exact Or.inr ⟨by rw [h, (read_sel T a).2.1 hF, wdv_lt hF.1], hF⟩
  · exact Or.inl ⟨by rw [h, (read_sel T a).2.2 hF, wdv_4], hF⟩
theorem wsel_t {T : Nat → Int} {a i : Nat} (h : csn T a i (wl i) = wl i) : wsel T a (i + 1) = i := if_pos h
theorem wsel_f {T : Nat → Int} {a i : Nat} (h : ¬ csn T a i (wl i) = wl i) : wsel T a (i + 1) = wsel T a i := if_neg h
theorem csA_le {T : Nat → Int} {a : Nat} : csA T a ≤ 6 := by
  unfold csA; split
  · omega
  · rename_i h
    have := csn_le (T := T) (a := a) (i := sW T a) (wl (sW T a))
    have := wl_rng (show sW T a < 4 by have := sW_le T a; omega)
    omega
theorem stp_nf {T : Nat → Int} {L a : Nat} (h : ¬ Ful T a) : stp T L a = (0, a + csA T a) := if_pos h
theorem stp_nn {T : Nat → Int} {L a : Nat} (h : Ful T a) (h2 : (nmr T a).2 = 0 ∧ wnn (sW T a) = 1) : stp T L a = (0, (nmr T a).1) := by
  unfold stp; rw [if_neg (by exact fun z => z h), if_pos h2]
theorem stp_end {T : Nat → Int} {L a : Nat} (h : Ful T a) (h2 : ¬ ((nmr T a).2 = 0 ∧ wnn (sW T a) = 1)) (h3 : L ≤ (nmr T a).1) : stp T L a = (1, (nmr T a).1) := by
  unfold stp; rw [if_neg (by exact fun z => z h), if_neg h2, if_pos h3]
theorem stp_ft {T : Nat → Int} {L a : Nat} (h : Ful T a) (h2 : ¬ ((nmr T a).2 = 0 ∧ wnn (sW T a) = 1)) (h3 : ¬ L ≤ (nmr T a).1) (h4 : ¬ T (nmr T a).1 = 44) : stp T L a = (0, (nmr T a).1) := by
  unfold stp; rw [if_neg (by exact fun z => z h), if_neg h2, if_neg h3, if_pos h4]
theorem stp_nx {T : Nat → Int} {L a : Nat} (h : Ful T a) (h2 : ¬ ((nmr T a).2 = 0 ∧ wnn (sW T a) = 1)) (h3 : ¬ L ≤ (nmr T a).1) (h4 : T (nmr T a).1 = 44) : stp T L a = (2, (nmr T a).1 + 1) := by
  unfold stp; rw [if_neg (by exact fun z => z h), if_neg h2, if_neg h3, if_neg (by exact fun z => z h4)]
def RWok (T : Nat → Int) (L a : Nat) (G : KG) (du ft : Int) (u : Int × Int × Int × Int × Value × Int) : Prop :=
  (u.1 = 0 ∨ u.1 = 1) ∧ (du = 0 → u.1 = 0 ∧ u.2.2.2.1 = ft) ∧ (du = 1 → ((stp T L a).1 = 0 → u.1 = 0 ∧ u.2.2.2.1 = ((stp T L a).2 : Int)) ∧ ((stp T L a).1 = 1 → u.1 = 1 ∧ u.2.2.1 = 0 ∧ u.2.2.2.1 = ft) ∧ ((stp T L a).1 = 2 → u.1 = 1 ∧ u.2.2.1 = 1 ∧ u.2.2.2.1 = ft ∧ u.2.1 = ((stp T L a).2 : Int) ∧ u.2.1 ≤ 60) ∧ (u.1 = 1 → ((stp T L a).1 = 1 ∨ (stp T L a).1 = 2) ∧ sW T a < 4 ∧ u.2.2.2.2.1 = .ref (g_ad G (sW T a)) ∧ u.2.2.2.2.2 = (nmr T a).2 ∧ 0 ≤ u.2.2.2.2.2 ∧ u.2.2.2.2.2 ≤ 99999))

theorem in_X4_init_X4 : ∀ w ∈ wsX40, w ∈ wsX4_init := by decide +kernel
set_option maxHeartbeats 4000000 in
set_option maxRecDepth 100000 in
theorem c_X4_init (l : Launch) (G : KG) (tx : Nat)  : Ct l G yX4_init wsX4_init (rmD 1 1 60) [.ref tx] [(tx, .inr (4, [.null, .int (iI 0), .int (iI 0), .int (iI 0), .int (iI 0), .null, .int (iI 0)]))] (fun u : Nat => True) (fun u : Nat => none) (fun u : Nat => [(tx, .inr (4, [.ref u, .int (iI 0), .int (iI 0), .int (iI 0), .int (iI 0), .null, .int (iI 0)])), (u, .inl (g_C G, 60, .inl (aI (fun _ => 0))))]) := by
  refine Ct.of (cc := cX4_init) (maxL := 1) (ret := none) (by decide +kernel) rfl (Nat.le_of_ble_eq_true rfl) ?_
  intro X C hG hL hnm hR
  subst hG
  subst hL
  have C : Cx X cX4_init RX4 wsX4_init none 1 (rmD 1 1 60) := C
  show K_ X 0 0 [(tx, .inr (4, [.null, .int (iI 0), .int (iI 0), .int (iI 0), .int (iI 0), .null, .int (iI 0)]))] 0 [(0, .ref tx)] []
  refine k_aload_n C 0 rfl dX4_init_0 rfl ?_
  refine k_objInit C 1 2 3 rfl rfl rfl (by decide) (Nat.le_of_ble_eq_true rfl) dX4_init_1 ?_
  refine k_aload_n C 0 rfl dX4_init_4 rfl ?_
  refine k_bipush C dX4_init_5 (by decide) ?_
  refine k_newC C 60 rfl (by decide) 4 rfl (Nat.le_of_ble_eq_true rfl) (Nat.le_of_ble_eq_true rfl) dX4_init_7 (fun q7 => ?_)
  refine k_eq (ws2 := [(tx, .inr (4, [.null, .int (iI 0), .int (iI 0), .int (iI 0), .int (iI 0), .null, .int (iI 0)])), (q7, .inl (g_C (x_G X), 60, .inl (aI (fun _ => 0))))]) (st2 := [.ref q7, .ref tx]) rfl rfl rfl rfl ?_
  refine k_wide (k2 := 1) (j2 := 60) (Nat.le_refl _) (Nat.le_refl _) ?_
  refine k_putF C (Cn := RX4) (T := TX4) (N := 7) (ci := 4) (ref := "StruckCounts$Text") in_X4_init_X4 tyX4 tyX4_ok nmX4 0 rfl rfl 0 (by decide) 5 rfl rfl rfl hnm rfl (v := .ref q7) (rfl) (rfl) (Nat.le_of_ble_eq_true rfl) [(tx, .inr (4, [.ref q7, .int (iI 0), .int (iI 0), .int (iI 0), .int (iI 0), .null, .int (iI 0)])), (q7, .inl (g_C (x_G X), 60, .inl (aI (fun _ => 0))))] rfl dX4_init_9 ?_
  exact k_vret C hR (u := q7) rfl (trivial) rfl (Nat.le_of_ble_eq_true rfl) (Nat.le_of_ble_eq_true rfl) dX4_init_12
theorem in_X4_rewind_X4 : ∀ w ∈ wsX40, w ∈ wsX4_rewind := by decide +kernel
set_option maxHeartbeats 4000000 in
set_option maxRecDepth 100000 in
theorem c_X4_rewind (l : Launch) (G : KG) (tx sg : Nat) (L a du ft : Int) (wv : Value) (nu : Int) (f : Nat → Int)  : Ct l G yX4_rewind wsX4_rewind (rmD 0 0 0) [.ref tx] [(tx, .inr (4, [.ref sg, .int (iI L), .int (iI a), .int (iI du), .int (iI ft), wv, .int (iI nu)])), (sg, .inl (g_C G, 60, .inl (aI f)))] (fun u : Unit => True) (fun u : Unit => none) (fun u : Unit => [(tx, .inr (4, [.ref sg, .int (iI L), .int (iI 0), .int (iI 1), .int (iI (-1)), wv, .int (iI nu)])), (sg, .inl (g_C G, 60, .inl (aI f)))]) := by
  refine Ct.of (cc := cX4_rewind) (maxL := 1) (ret := none) (by decide +kernel) rfl (Nat.le_of_ble_eq_true rfl) ?_
  intro X C hG hL hnm hR
  subst hG
  subst hL
  have C : Cx X cX4_rewind RX4 wsX4_rewind none 1 (rmD 0 0 0) := C
  show K_ X 0 0 [(tx, .inr (4, [.ref sg, .int (iI L), .int (iI a), .int (iI du), .int (iI ft), wv, .int (iI nu)])), (sg, .inl (g_C (x_G X), 60, .inl (aI f)))] 0 [(0, .ref tx)] []
  refine k_aload_n C 0 rfl dX4_rewind_0 rfl ?_
  refine k_iconst C dX4_rewind_1 ?_
  refine k_put C (Cn := RX4) (T := TX4) (N := 7) (ci := 4) (ref := "StruckCounts$Text") in_X4_rewind_X4 tyX4 tyX4_ok nmX4 0 rfl rfl 2 (by decide) 1 rfl rfl rfl (v := .int (iI 0)) (rfl) (rfl) (Nat.le_of_ble_eq_true rfl) [(tx, .inr (4, [.ref sg, .int (iI L), .int (iI 0), .int (iI du), .int (iI ft), wv, .int (iI nu)])), (sg, .inl (g_C (x_G X), 60, .inl (aI f)))] rfl dX4_rewind_2 ?_
  refine k_aload_n C 0 rfl dX4_rewind_5 rfl ?_
  refine k_iconst C dX4_rewind_6 ?_
  refine k_put C (Cn := RX4) (T := TX4) (N := 7) (ci := 4) (ref := "StruckCounts$Text") in_X4_rewind_X4 tyX4 tyX4_ok nmX4 0 rfl rfl 3 (by decide) 2 rfl rfl rfl (v := .int (iI 1)) (rfl) (rfl) (Nat.le_of_ble_eq_true rfl) [(tx, .inr (4, [.ref sg, .int (iI L), .int (iI 0), .int (iI 1), .int (iI ft), wv, .int (iI nu)])), (sg, .inl (g_C (x_G X), 60, .inl (aI f)))] rfl dX4_rewind_7 ?_
  refine k_aload_n C 0 rfl dX4_rewind_10 rfl ?_
  refine k_iconst C dX4_rewind_11 ?_
  refine k_put C (Cn := RX4) (T := TX4) (N := 7) (ci := 4) (ref := "StruckCounts$Text") in_X4_rewind_X4 tyX4 tyX4_ok nmX4 0 rfl rfl 4 (by decide) 3 rfl rfl rfl (v := .int (iI (-1))) (rfl) (rfl) (Nat.le_of_ble_eq_true rfl) [(tx, .inr (4, [.ref sg, .int (iI L), .int (iI 0), .int (iI 1), .int (iI (-1)), wv, .int (iI nu)])), (sg, .inl (g_C (x_G X), 60, .inl (aI f)))] rfl dX4_rewind_12 ?_
  exact k_vret C hR (u := ()) rfl (by first | trivial | omega) rfl (Nat.le_of_ble_eq_true rfl) (Nat.le_of_ble_eq_true rfl) dX4_rewind_15
theorem in_X4_add_X4 : ∀ w ∈ wsX40, w ∈ wsX4_add := by decide +kernel
set_option maxHeartbeats 4000000 in
set_option maxRecDepth 100000 in
theorem c_X4_add (l : Launch) (G : KG) (tx sg : Nat) (L a du ft : Int) (wv : Value) (nu : Int) (f : Nat → Int) (c : Int) (hL : 0 ≤ L ∧ L ≤ 60) (hc : 0 ≤ c ∧ c ≤ 65535) : Ct l G yX4_add wsX4_add (rmD 0 0 0) [.ref tx, .int (iI c)] [(tx, .inr (4, [.ref sg, .int (iI L), .int (iI a), .int (iI du), .int (iI ft), wv, .int (iI nu)])), (sg, .inl (g_C G, 60, .inl (aI f)))] (fun u : Int × (Nat → Int) => (L < 60 → u.1 = L + 1 ∧ u.2 = upI f L.toNat c) ∧ (¬ L < 60 → u.1 = L ∧ u.2 = f)) (fun u : Int × (Nat → Int) => none) (fun u : Int × (Nat → Int) => [(tx, .inr (4, [.ref sg, .int (iI u.1), .int (iI a), .int (iI du), .int (iI ft), wv, .int (iI nu)])), (sg, .inl (g_C G, 60, .inl (aI u.2)))]) := by
  refine Ct.of (cc := cX4_add) (maxL := 2) (ret := none) (by decide +kernel) rfl (Nat.le_of_ble_eq_true rfl) ?_
  intro X C hG hL hnm hR
  subst hG
  subst hL
  have C : Cx X cX4_add RX4 wsX4_add none 2 (rmD 0 0 0) := C
  show K_ X 0 0 [(tx, .inr (4, [.ref sg, .int (iI L), .int (iI a), .int (iI du), .int (iI ft), wv, .int (iI nu)])), (sg, .inl (g_C (x_G X), 60, .inl (aI f)))] 0 [(0, .ref tx), (1, .int (iI c))] []
  refine k_aload_n C 0 rfl dX4_add_0 rfl ?_
  refine k_get C (Cn := RX4) (T := TX4) (N := 7) (ci := 4) (ref := "StruckCounts$Text") in_X4_add_X4 0 rfl rfl 1 (by decide) 1 rfl rfl (v := .int (iI L)) rfl dX4_add_1 ?_
  refine k_aload_n C 0 rfl dX4_add_4 rfl ?_
  refine k_get C (Cn := RX4) (T := TX4) (N := 7) (ci := 4) (ref := "StruckCounts$Text") in_X4_add_X4 0 rfl rfl 0 (by decide) 2 rfl rfl (v := .ref sg) rfl dX4_add_5 ?_
  refine k_alen C 1 2 rfl rfl 60 rfl dX4_add_8 ?_
  refine k_icmp_ge C 32 (⟨by omega, by omega⟩) (⟨by omega, by omega⟩) dX4_add_9 (by decide) (fun c9 => ?_) (fun c9 => ?_)
  · skip
    exact k_vret C hR (u := (L, f)) rfl (by (try dsimp only) <;> exact (⟨fun _ => by first | omega | exact ⟨by omega, by assumption⟩, fun _ => by first | omega | exact ⟨rfl, rfl⟩⟩)) rfl (Nat.le_of_ble_eq_true rfl) (Nat.le_of_ble_eq_true rfl) dX4_add_32
  · skip
    refine k_aload_n C 0 rfl dX4_add_12 rfl ?_
    refine k_get C (Cn := RX4) (T := TX4) (N := 7) (ci := 4) (ref := "StruckCounts$Text") in_X4_add_X4 0 rfl rfl 0 (by decide) 2 rfl rfl (v := .ref sg) rfl dX4_add_13 ?_
    refine k_aload_n C 0 rfl dX4_add_16 rfl ?_
    refine k_get C (Cn := RX4) (T := TX4) (N := 7) (ci := 4) (ref := "StruckCounts$Text") in_X4_add_X4 0 rfl rfl 1 (by decide) 1 rfl rfl (v := .int (iI L)) rfl dX4_add_17 ?_
    refine k_iload_n C 1 rfl dX4_add_20 rfl ?_
    refine k_cast C (f := f) 1 rfl (⟨by omega, by omega⟩) (by decide) (nar_c (by omega) (by omega)) (fun gg => [(tx, .inr (4, [.ref sg, .int (iI L), .int (iI a), .int (iI du), .int (iI ft), wv, .int (iI nu)])), (sg, .inl (g_C (x_G X), 60, .inl (aI gg)))]) (fun _ => rfl) dX4_add_21 (fun g21 e21 => ?_)
    refine k_aload_n C 0 rfl dX4_add_22 rfl ?_
    refine k_dup C dX4_add_23 rfl ?_
    refine k_get C (Cn := RX4) (T := TX4) (N := 7) (ci := 4) (ref := "StruckCounts$Text") in_X4_add_X4 0 rfl rfl 1 (by decide) 1 rfl rfl (v := .int (iI L)) rfl dX4_add_24 ?_
    refine k_iconst C dX4_add_27 ?_
    refine k_iadd C dX4_add_28 ?_
    refine k_nmI (fun v28 e28 => ?_)
    refine k_put C (Cn := RX4) (T := TX4) (N := 7) (ci := 4) (ref := "StruckCounts$Text") in_X4_add_X4 tyX4 tyX4_ok nmX4 0 rfl rfl 1 (by decide) 1 rfl rfl rfl (v := .int (iI v28)) (rfl) (rfl) (Nat.le_of_ble_eq_true rfl) [(tx, .inr (4, [.ref sg, .int (iI v28), .int (iI a), .int (iI du), .int (iI ft), wv, .int (iI nu)])), (sg, .inl (g_C (x_G X), 60, .inl (aI g21)))] rfl dX4_add_29 ?_
    exact k_vret C hR (u := (v28, g21)) rfl (by (try dsimp only) <;> exact (⟨fun _ => by first | omega | exact ⟨by omega, by assumption⟩, fun _ => by first | omega | exact ⟨rfl, rfl⟩⟩)) rfl (Nat.le_of_ble_eq_true rfl) (Nat.le_of_ble_eq_true rfl) dX4_add_32
theorem in_X4_countSameSigns_X4 : ∀ w ∈ wsX40, w ∈ wsX4_countSameSigns := by decide +kernel
set_option maxHeartbeats 4000000 in
set_option maxRecDepth 100000 in
theorem c_X4_countSameSigns (l : Launch) (G : KG) (tx sg : Nat) (L a du ft : Int) (wv : Value) (nu : Int) (f : Nat → Int) (i : Nat) (hi : i < 4) (hL : 0 ≤ L ∧ L ≤ 60) (ha : 0 ≤ a ∧ a ≤ 60) (hf : ∀ q : Nat, q < 60 → 0 ≤ f q ∧ f q ≤ 65535) : Ct l G yX4_countSameSigns wsX4_countSameSigns (rmD 4 0 0) [.ref tx, .ref (g_sk G i)] [(tx, .inr (4, [.ref sg, .int (iI L), .int (iI a), .int (iI du), .int (iI ft), wv, .int (iI nu)])), (sg, .inl (g_C G, 60, .inl (aI f)))] (fun u : Unit => True) (fun u : Unit => some (.int (iI (csn (tA f L) a.toNat i (wl i) : Int)))) (fun u : Unit => [(tx, .inr (4, [.ref sg, .int (iI L), .int (iI a), .int (iI du), .int (iI ft), wv, .int (iI nu)])), (sg, .inl (g_C G, 60, .inl (aI f)))]) := by
  refine Ct.of (cc := cX4_countSameSigns) (maxL := 3) (ret := (some .int)) (by decide +kernel) rfl (Nat.le_of_ble_eq_true rfl) ?_
  intro X C hG hL hnm hR
  subst hG
  subst hL
  have C : Cx X cX4_countSameSigns RX4 wsX4_countSameSigns (some .int) 3 (rmD 4 0 0) := C
  have hr := wl_rng hi
  show K_ X 0 0 [(tx, .inr (4, [.ref sg, .int (iI L), .int (iI a), .int (iI du), .int (iI ft), wv, .int (iI nu)])), (sg, .inl (g_C (x_G X), 60, .inl (aI f)))] 0 [(0, .ref tx), (1, .ref (g_sk (x_G X) i))] []
  refine k_iconst C dX4_countSameSigns_0 ?_
  refine k_istore_n C (lo' := [(2, .int (iI 0)), (0, .ref tx), (1, .ref (g_sk (x_G X) i))]) dX4_countSameSigns_1 rfl (by decide) rfl ?_
  have L2 : ∀ (nf : Nat) (s : Int), (0 ≤ s ∧ s ≤ (wl i : Int) ∧ csn (tA f L) a.toNat i s.toNat = s.toNat) → ((wl i : Int) - s).toNat < nf → K_ X 0 0 [(tx, .inr (4, [.ref sg, .int (iI L), .int (iI a), .int (iI du), .int (iI ft), wv, .int (iI nu)])), (sg, .inl (g_C (x_G X), 60, .inl (aI f)))] 2 [(2, .int (iI s)), (0, .ref tx), (1, .ref (g_sk (x_G X) i))] [] := by
    intro nf
    induction nf with
    | zero => intro s hI hm; exact absurd hm (Nat.not_lt_zero _)
    | succ nf ih2 =>
      intro s hI2 hm2
      obtain ⟨i1, i2, i3⟩ := hI2
      refine k_iload_n C 0 rfl dX4_countSameSigns_2 rfl ?_
      refine k_aload_n C 2 rfl dX4_countSameSigns_3 rfl ?_
      refine k_callVs C (y := yJ0_length_8abf5) [] 0 rfl (by omega) (c_J0_length_8abf5 (x_l X) (x_G X) i (by first | assumption | omega)) gX4_countSameSigns_J0_length_8abf5 rfl ⟨rfl, by decide +kernel, by decide +kernel, by decide +kernel⟩ ⟨by decide, by decide⟩ [.int (iI s)] rfl (Nat.le_of_ble_eq_true rfl) ⟨Nat.le_of_ble_eq_true rfl, Nat.le_of_ble_eq_true rfl⟩ dX4_countSameSigns_4 (fun _ => rfl) (fun u4 => [.int (iI (wl i : Int)), .int (iI s)]) (fun _ => rfl) 0 0 ⟨rfl, rfl⟩ (fun u4 hu4 => ?_)
      refine k_icmp_ge C 48 (⟨by omega, by omega⟩) (⟨by omega, by omega⟩) dX4_countSameSigns_7 (by decide) (fun c7 => ?_) (fun c7 => ?_)
      · skip
        have hE : csn (tA f L) a.toNat i (wl i) = s.toNat := by rw [show wl i = s.toNat by omega]; exact i3
        rw [show s = ((csn (tA f L) a.toNat i (wl i) : Nat) : Int) from by omega]
        refine k_iload_n C 0 rfl dX4_countSameSigns_48 rfl ?_
        exact k_iret C hR (u := ()) rfl (by first | trivial | omega) rfl (Nat.le_of_ble_eq_true rfl) (Nat.le_of_ble_eq_true rfl) dX4_countSameSigns_49
      · skip
        refine k_aload_n C 1 rfl dX4_countSameSigns_10 rfl ?_
        refine k_get C (Cn := RX4) (T := TX4) (N := 7) (ci := 4) (ref := "StruckCounts$Text") in_X4_countSameSigns_X4 0 rfl rfl 2 (by decide) 1 rfl rfl (v := .int (iI a)) rfl dX4_countSameSigns_11 ?_
        refine k_iload_n C 0 rfl dX4_countSameSigns_14 rfl ?_
        refine k_iadd C dX4_countSameSigns_15 ?_
        refine k_nmI (fun v15 e15 => ?_)
        refine k_aload_n C 1 rfl dX4_countSameSigns_16 rfl ?_
        refine k_get C (Cn := RX4) (T := TX4) (N := 7) (ci := 4) (ref := "StruckCounts$Text") in_X4_countSameSigns_X4 0 rfl rfl 1 (by decide) 2 rfl rfl (v := .int (iI L)) rfl dX4_countSameSigns_17 ?_
        refine k_icmp_ge C 48 (⟨by omega, by omega⟩) (⟨by omega, by omega⟩) dX4_countSameSigns_20 (by decide) (fun c20 => ?_) (fun c20 => ?_)
        · skip
          have hE : csn (tA f L) a.toNat i (wl i) = s.toNat := csn_stop' i3 (by rw [tA_ge (by omega)]; have := wc_rng hi (show s.toNat < wl i by omega); omega) (by omega)
          rw [show s = ((csn (tA f L) a.toNat i (wl i) : Nat) : Int) from by omega]
          refine k_iload_n C 0 rfl dX4_countSameSigns_48 rfl ?_
          exact k_iret C hR (u := ()) rfl (by first | trivial | omega) rfl (Nat.le_of_ble_eq_true rfl) (Nat.le_of_ble_eq_true rfl) dX4_countSameSigns_49
        · skip
          refine k_aload_n C 1 rfl dX4_countSameSigns_23 rfl ?_
          refine k_get C (Cn := RX4) (T := TX4) (N := 7) (ci := 4) (ref := "StruckCounts$Text") in_X4_countSameSigns_X4 0 rfl rfl 0 (by decide) 3 rfl rfl (v := .ref sg) rfl dX4_countSameSigns_24 ?_
          refine k_aload_n C 1 rfl dX4_countSameSigns_27 rfl ?_
          refine k_get C (Cn := RX4) (T := TX4) (N := 7) (ci := 4) (ref := "StruckCounts$Text") in_X4_countSameSigns_X4 0 rfl rfl 2 (by decide) 1 rfl rfl (v := .int (iI a)) rfl dX4_countSameSigns_28 ?_
          refine k_iload_n C 0 rfl dX4_countSameSigns_31 rfl ?_
          refine k_iadd C dX4_countSameSigns_32 ?_
          refine k_nmI (fun v32 e32 => ?_)
          refine k_cald C (f := f) 1 rfl (⟨by omega, by omega⟩) (by decide) dX4_countSameSigns_33 ?_
          refine k_nmI (fun v33 e33 => ?_)
          have hv := hf v32.toNat (by omega)
          refine k_aload_n C 2 rfl dX4_countSameSigns_34 rfl ?_
          refine k_iload_n C 0 rfl dX4_countSameSigns_35 rfl ?_
          refine k_callVs C (y := yJ0_charAt_5068e) [.int (iI s)] 1 rfl (by omega) (c_J0_charAt_5068e (x_l X) (x_G X) i s (by omega) (by omega)) gX4_countSameSigns_J0_charAt_5068e rfl ⟨rfl, by decide +kernel, by decide +kernel, by decide +kernel⟩ ⟨by decide, by decide⟩ [.int (iI v33)] rfl (Nat.le_of_ble_eq_true rfl) ⟨Nat.le_of_ble_eq_true rfl, Nat.le_of_ble_eq_true rfl⟩ dX4_countSameSigns_36 (fun _ => rfl) (fun u36 => [.int (iI (wc i s.toNat)), .int (iI v33)]) (fun _ => rfl) 0 0 ⟨rfl, rfl⟩ (fun u36 hu36 => ?_)
          have hc := wc_rng hi (show s.toNat < wl i by omega)
          refine k_icmp_ne C 48 (⟨by omega, by omega⟩) (⟨by omega, by omega⟩) dX4_countSameSigns_39 (by decide) (fun c39 => ?_) (fun c39 => ?_)
          · skip
            have hE : csn (tA f L) a.toNat i (wl i) = s.toNat := csn_stop' i3 (by rw [tA_lt (by omega), show a.toNat + s.toNat = v32.toNat by omega]; omega) (by omega)
            rw [show s = ((csn (tA f L) a.toNat i (wl i) : Nat) : Int) from by omega]
            refine k_iload_n C 0 rfl dX4_countSameSigns_48 rfl ?_
            exact k_iret C hR (u := ()) rfl (by first | trivial | omega) rfl (Nat.le_of_ble_eq_true rfl) (Nat.le_of_ble_eq_true rfl) dX4_countSameSigns_49
          · skip
            have hb : csn (tA f L) a.toNat i (s + 1).toNat = (s + 1).toNat := by rw [show (s + 1).toNat = s.toNat + 1 by omega]; exact csn_step i3 (by rw [tA_lt (by omega), show a.toNat + s.toNat = v32.toNat by omega]; omega)
            obtain ⟨v42, e42⟩ : ∃ y : Int, y = s + 1 := ⟨_, rfl⟩
            refine k_iinc C (lo' := [(2, .int (iI v42)), (0, .ref tx), (1, .ref (g_sk (x_G X) i))]) 0 rfl dX4_countSameSigns_42 (by decide) v42 e42 rfl ?_
            refine k_goto C 2 dX4_countSameSigns_45 (by decide) ?_
            exact ih2 v42 (⟨by omega, by omega, by rw [show v42.toNat = (s + 1).toNat by omega]; exact hb⟩) (by omega)
  exact L2 _ 0 (⟨by omega, by omega, rfl⟩) (Nat.lt_succ_self _)
theorem in_X4_readSpelling_X4 : ∀ w ∈ wsX40, w ∈ wsX4_readSpelling := by decide +kernel
set_option maxHeartbeats 4000000 in
set_option maxRecDepth 100000 in
theorem c_X4_readSpelling (l : Launch) (G : KG) (tx sg : Nat) (L a du ft : Int) (wv : Value) (nu : Int) (f : Nat → Int) (hL : 0 ≤ L ∧ L ≤ 60) (ha : 0 ≤ a ∧ a ≤ 60) (hf : ∀ q : Nat, q < 60 → 0 ≤ f q ∧ f q ≤ 65535) : Ct l G yX4_readSpelling wsX4_readSpelling (rmD 5 0 0) [.ref tx] [(tx, .inr (4, [.ref sg, .int (iI L), .int (iI a), .int (iI du), .int (iI ft), wv, .int (iI nu)])), (sg, .inl (g_C G, 60, .inl (aI f)))] (fun u : Int × Int × Value => ((u.1 = 1 ∧ Ful (tA f L) a.toNat) ∨ (u.1 = 0 ∧ ¬ Ful (tA f L) a.toNat)) ∧ u.2.1 = a + (csA (tA f L) a.toNat : Int) ∧ (Ful (tA f L) a.toNat → u.2.2 = .ref (g_ad G (sW (tA f L) a.toNat)))) (fun u : Int × Int × Value => some (.int (iI u.1))) (fun u : Int × Int × Value => [(tx, .inr (4, [.ref sg, .int (iI L), .int (iI u.2.1), .int (iI du), .int (iI ft), u.2.2, .int (iI nu)])), (sg, .inl (g_C G, 60, .inl (aI f)))]) := by
  refine Ct.of (cc := cX4_readSpelling) (maxL := 7) (ret := (some .boolean)) (by decide +kernel) rfl (Nat.le_of_ble_eq_true rfl) ?_
  intro X C hG hL hnm hR
  subst hG
  subst hL
  have C : Cx X cX4_readSpelling RX4 wsX4_readSpelling (some .boolean) 7 (rmD 5 0 0) := C
  show K_ X 0 0 [(tx, .inr (4, [.ref sg, .int (iI L), .int (iI a), .int (iI du), .int (iI ft), wv, .int (iI nu)])), (sg, .inl (g_C (x_G X), 60, .inl (aI f)))] 0 [(0, .ref tx)] []
  refine k_aload_n C 0 rfl dX4_readSpelling_0 rfl ?_
  refine k_null C dX4_readSpelling_1 ?_
  refine k_put C (Cn := RX4) (T := TX4) (N := 7) (ci := 4) (ref := "StruckCounts$Text") in_X4_readSpelling_X4 tyX4 tyX4_ok nmX4 0 rfl rfl 5 (by decide) 1 rfl rfl rfl (v := .null) (rfl) (rfl) (Nat.le_of_ble_eq_true rfl) [(tx, .inr (4, [.ref sg, .int (iI L), .int (iI a), .int (iI du), .int (iI ft), .null, .int (iI nu)])), (sg, .inl (g_C (x_G X), 60, .inl (aI f)))] rfl dX4_readSpelling_2 ?_
  refine k_iconst C dX4_readSpelling_5 ?_
  refine k_istore_n C (lo' := [(1, .int (iI 0)), (0, .ref tx)]) dX4_readSpelling_6 rfl (by decide) rfl ?_
  refine k_getsN C (ref := "StruckCounts") (nm := "WORDS") C.S.2.2.1.1 12 rfl rfl dX4_readSpelling_7 ?_
  refine k_astore_n C (lo' := [(2, .ref (g_tw (x_G X))), (1, .int (iI 0)), (0, .ref tx)]) dX4_readSpelling_10 rfl (by decide) rfl ?_
  refine k_aload_n C 0 rfl dX4_readSpelling_11 rfl ?_
  refine k_tlen C C.S.2.2.1.2 dX4_readSpelling_12 ?_
  refine k_eq (st2 := [.int (iI 4)]) rfl rfl rfl rfl ?_
  refine k_istore_n C (lo' := [(3, .int (iI 4)), (2, .ref (g_tw (x_G X))), (1, .int (iI 0)), (0, .ref tx)]) dX4_readSpelling_13 rfl (by decide) rfl ?_
  refine k_iconst C dX4_readSpelling_14 ?_
  refine k_istore C (lo' := [(4, .int (iI 0)), (3, .int (iI 4)), (2, .ref (g_tw (x_G X))), (1, .int (iI 0)), (0, .ref tx)]) dX4_readSpelling_15 (by decide) rfl ?_
  have L17 : ∀ (nf : Nat) (i : Int) (fu : Int) (wx : Value), (0 ≤ i ∧ i ≤ 4 ∧ 0 ≤ fu ∧ fu ≤ 6 ∧ fu = (fmx (tA f L) a.toNat i.toNat : Int) ∧ wx = wdv (x_G X) (wsel (tA f L) a.toNat i.toNat)) → (4 - i).toNat < nf → K_ X 0 0 [(tx, .inr (4, [.ref sg, .int (iI L), .int (iI a), .int (iI du), .int (iI ft), wx, .int (iI nu)])), (sg, .inl (g_C (x_G X), 60, .inl (aI f)))] 17 [(4, .int (iI i)), (3, .int (iI 4)), (2, .ref (g_tw (x_G X))), (1, .int (iI fu)), (0, .ref tx)] [] := by
    intro nf
    induction nf with
    | zero => intro i fu wx hI hm; exact absurd hm (Nat.not_lt_zero _)
    | succ nf ih17 =>
      intro i fu wx hI17 hm17
      obtain ⟨i1, i2, i3, i4, i5, i6⟩ := hI17
      refine k_iload C 0 rfl dX4_readSpelling_17 ?_
      refine k_iload_n C 1 rfl dX4_readSpelling_19 rfl ?_
      refine k_icmp_ge C 72 (⟨by omega, by omega⟩) (⟨by omega, by omega⟩) dX4_readSpelling_20 (by decide) (fun c20 => ?_) (fun c20 => ?_)
      · skip
        have hi4 : i.toNat = 4 := by omega
        rw [hi4] at i5 i6
        have hs := read_sel (tA f L) a.toNat
        refine k_aload_n C 4 rfl dX4_readSpelling_72 rfl ?_
        refine k_dup C dX4_readSpelling_73 rfl ?_
        refine k_get C (Cn := RX4) (T := TX4) (N := 7) (ci := 4) (ref := "StruckCounts$Text") in_X4_readSpelling_X4 0 rfl rfl 2 (by decide) 6 rfl rfl (v := .int (iI a)) rfl dX4_readSpelling_74 ?_
        refine k_iload_n C 3 rfl dX4_readSpelling_77 rfl ?_
        refine k_iadd C dX4_readSpelling_78 ?_
        refine k_nmI (fun v78 e78 => ?_)
        refine k_put C (Cn := RX4) (T := TX4) (N := 7) (ci := 4) (ref := "StruckCounts$Text") in_X4_readSpelling_X4 tyX4 tyX4_ok nmX4 0 rfl rfl 2 (by decide) 6 rfl rfl rfl (v := .int (iI v78)) (rfl) (rfl) (Nat.le_of_ble_eq_true rfl) [(tx, .inr (4, [.ref sg, .int (iI L), .int (iI v78), .int (iI du), .int (iI ft), wx, .int (iI nu)])), (sg, .inl (g_C (x_G X), 60, .inl (aI f)))] rfl dX4_readSpelling_79 ?_
        refine k_aload_n C 4 rfl dX4_readSpelling_82 rfl ?_
        refine k_get C (Cn := RX4) (T := TX4) (N := 7) (ci := 4) (ref := "StruckCounts$Text") in_X4_readSpelling_X4 0 rfl rfl 5 (by decide) 1 rfl rfl (v := wx) rfl dX4_readSpelling_83 ?_
        rcases wdv_cases i6 with ⟨hv, hF⟩ | ⟨hv, hF⟩
        · rw [hv]
          refine k_ifnull_n C 93 dX4_readSpelling_86 (by decide) ?_
          refine k_iconst C dX4_readSpelling_93 ?_
          exact k_zret C hR (by omega) (u := (0, v78, (.null))) rfl (by (try dsimp only) <;> exact (⟨by first | exact Or.inl ⟨rfl, hF⟩ | exact Or.inr ⟨rfl, hF⟩, by omega, fun h => by first | rfl | exact absurd h hF⟩)) rfl (Nat.le_of_ble_eq_true rfl) (Nat.le_of_ble_eq_true rfl) dX4_readSpelling_94
        · rw [hv]
          refine k_ifnull_r C dX4_readSpelling_86 ?_
          refine k_iconst C dX4_readSpelling_89 ?_
          refine k_goto C 94 dX4_readSpelling_90 (by decide) ?_
          exact k_zret C hR (by omega) (u := (1, v78, (.ref (g_ad (x_G X) (sW (tA f L) a.toNat))))) rfl (by (try dsimp only) <;> exact (⟨by first | exact Or.inl ⟨rfl, hF⟩ | exact Or.inr ⟨rfl, hF⟩, by omega, fun h => by first | rfl | exact absurd h hF⟩)) rfl (Nat.le_of_ble_eq_true rfl) (Nat.le_of_ble_eq_true rfl) dX4_readSpelling_94
      · skip
        refine k_aload_n C 2 rfl dX4_readSpelling_23 rfl ?_
        refine k_iload C 0 rfl dX4_readSpelling_24 ?_
        refine k_ta C (⟨by omega, by omega⟩) dX4_readSpelling_26 ?_
        refine k_astore C (lo' := [(5, .ref (g_ad (x_G X) i.toNat)), (4, .int (iI i)), (3, .int (iI 4)), (2, .ref (g_tw (x_G X))), (1, .int (iI fu)), (0, .ref tx)]) dX4_readSpelling_27 (by decide) rfl ?_
        refine k_aload_n C 5 rfl dX4_readSpelling_29 rfl ?_
        refine k_aload C 0 rfl dX4_readSpelling_30 ?_
        refine k_getO C (C.wE (i := i.toNat) (by omega)).2.2.2 14 rfl dX4_readSpelling_32 ?_
        refine k_callV C (y := yX4_countSameSigns) [.ref (g_sk (x_G X) i.toNat)] 1 rfl (c_X4_countSameSigns (x_l X) (x_G X) tx sg L a du ft wx nu f i.toNat (by first | assumption | omega) (by first | assumption | omega) (by first | assumption | omega) (by first | assumption | omega)) gX4_readSpelling_X4_countSameSigns rfl ⟨rfl, by decide +kernel, by decide +kernel, by decide +kernel⟩ ⟨by decide, by decide⟩ 0 (fs := [.ref sg, .int (iI L), .int (iI a), .int (iI du), .int (iI ft), wx, .int (iI nu)]) rfl rfl rfl [0, 1] (by decide) (wc := [(tx, .inr (4, [.ref sg, .int (iI L), .int (iI a), .int (iI du), .int (iI ft), wx, .int (iI nu)])), (sg, .inl (g_C (x_G X), 60, .inl (aI f)))]) rfl [] rfl (Nat.le_of_ble_eq_true rfl) ⟨Nat.le_of_ble_eq_true rfl, Nat.le_of_ble_eq_true rfl⟩ dX4_readSpelling_35 (fun _ => [(tx, .inr (4, [.ref sg, .int (iI L), .int (iI a), .int (iI du), .int (iI ft), wx, .int (iI nu)])), (sg, .inl (g_C (x_G X), 60, .inl (aI f)))]) (Or.inl (fun _ => ⟨rfl, rfl⟩)) (fun u35 => [.int (iI (csn (tA f L) a.toNat i.toNat (wl i.toNat) : Int))]) (fun _ => rfl) 0 0 ⟨rfl, rfl⟩ (fun u35 hu35 => ?_)
        refine k_istore C (lo' := [(6, .int (iI (csn (tA f L) a.toNat i.toNat (wl i.toNat) : Int))), (5, .ref (g_ad (x_G X) i.toNat)), (4, .int (iI i)), (3, .int (iI 4)), (2, .ref (g_tw (x_G X))), (1, .int (iI fu)), (0, .ref tx)]) dX4_readSpelling_38 (by decide) rfl ?_
        have hr := wl_rng (show i.toNat < 4 by omega)
        have hc := csn_le (T := tA f L) (a := a.toNat) (i := i.toNat) (wl i.toNat)
        refine k_iload C 0 rfl dX4_readSpelling_40 ?_
        refine k_aload C 1 rfl dX4_readSpelling_42 ?_
        refine k_getO C (C.wE (i := i.toNat) (by omega)).2.2.2 14 rfl dX4_readSpelling_44 ?_
        refine k_callVs C (y := yJ0_length_8abf5) [] 0 rfl (by omega) (c_J0_length_8abf5 (x_l X) (x_G X) i.toNat (by first | assumption | omega)) gX4_readSpelling_J0_length_8abf5 rfl ⟨rfl, by decide +kernel, by decide +kernel, by decide +kernel⟩ ⟨by decide, by decide⟩ [.int (iI (csn (tA f L) a.toNat i.toNat (wl i.toNat) : Int))] rfl (Nat.le_of_ble_eq_true rfl) ⟨Nat.le_of_ble_eq_true rfl, Nat.le_of_ble_eq_true rfl⟩ dX4_readSpelling_47 (fun _ => rfl) (fun u47 => [.int (iI (wl i.toNat : Int)), .int (iI (csn (tA f L) a.toNat i.toNat (wl i.toNat) : Int))]) (fun _ => rfl) 0 0 ⟨rfl, rfl⟩ (fun u47 hu47 => ?_)
        refine k_icmp_ne C 59 (⟨by omega, by omega⟩) (⟨by omega, by omega⟩) dX4_readSpelling_50 (by decide) (fun c50 => ?_) (fun c50 => ?_)
        · skip
          have hw : wx = wdv (x_G X) (wsel (tA f L) a.toNat (i.toNat + 1)) := by rw [wsel_f (by omega)]; exact i6
          refine k_iload_n C 5 rfl dX4_readSpelling_59 rfl ?_
          refine k_iload C 0 rfl dX4_readSpelling_60 ?_
          refine k_max C 2 3 4 5 (⟨by omega, by omega⟩) (⟨by omega, by omega⟩) rfl rfl rfl rfl (by decide) (Nat.le_of_ble_eq_true rfl) ⟨by decide, by decide⟩ dX4_readSpelling_62 (fun v62 e62 => ?_)
          refine k_istore_n C (lo' := [(1, .int (iI v62)), (6, .int (iI (csn (tA f L) a.toNat i.toNat (wl i.toNat) : Int))), (5, .ref (g_ad (x_G X) i.toNat)), (4, .int (iI i)), (3, .int (iI 4)), (2, .ref (g_tw (x_G X))), (0, .ref tx)]) dX4_readSpelling_65 rfl (by decide) rfl ?_
          obtain ⟨v66, e66⟩ : ∃ y : Int, y = i + 1 := ⟨_, rfl⟩
          refine k_iinc C (lo' := [(4, .int (iI v66)), (1, .int (iI v62)), (6, .int (iI (csn (tA f L) a.toNat i.toNat (wl i.toNat) : Int))), (5, .ref (g_ad (x_G X) i.toNat)), (3, .int (iI 4)), (2, .ref (g_tw (x_G X))), (0, .ref tx)]) 3 rfl dX4_readSpelling_66 (by decide) v66 e66 rfl ?_
          refine k_goto C 17 dX4_readSpelling_69 (by decide) ?_
          refine k_lo (lo' := [(4, .int (iI v66)), (3, .int (iI 4)), (2, .ref (g_tw (x_G X))), (1, .int (iI v62)), (0, .ref tx)]) [0, 4, 5, 1, 6] rfl ?_
          exact ih17 v66 v62 wx (⟨by omega, by omega, by omega, by omega, by rw [show v66.toNat = i.toNat + 1 by omega]; show _ = ((max _ _ : Nat) : Int); omega, by rw [show v66.toNat = i.toNat + 1 by omega]; exact hw⟩) (by omega)
        · skip
          have hw : Value.ref (g_ad (x_G X) i.toNat) = wdv (x_G X) (wsel (tA f L) a.toNat (i.toNat + 1)) := by rw [wsel_t (by omega), wdv_lt (by omega)]
          refine k_aload_n C 6 rfl dX4_readSpelling_53 rfl ?_
          refine k_aload C 1 rfl dX4_readSpelling_54 ?_
          refine k_put C (Cn := RX4) (T := TX4) (N := 7) (ci := 4) (ref := "StruckCounts$Text") in_X4_readSpelling_X4 tyX4 tyX4_ok nmX4 0 rfl rfl 5 (by decide) 1 rfl rfl rfl (v := .ref (g_ad (x_G X) i.toNat)) (rfl) (rfl) (Nat.le_of_ble_eq_true rfl) [(tx, .inr (4, [.ref sg, .int (iI L), .int (iI a), .int (iI du), .int (iI ft), .ref (g_ad (x_G X) i.toNat), .int (iI nu)])), (sg, .inl (g_C (x_G X), 60, .inl (aI f)))] rfl dX4_readSpelling_56 ?_
          refine k_iload_n C 5 rfl dX4_readSpelling_59 rfl ?_
          refine k_iload C 0 rfl dX4_readSpelling_60 ?_
          refine k_max C 2 3 4 5 (⟨by omega, by omega⟩) (⟨by omega, by omega⟩) rfl rfl rfl rfl (by decide) (Nat.le_of_ble_eq_true rfl) ⟨by decide, by decide⟩ dX4_readSpelling_62 (fun v62 e62 => ?_)
          refine k_istore_n C (lo' := [(1, .int (iI v62)), (6, .int (iI (csn (tA f L) a.toNat i.toNat (wl i.toNat) : Int))), (5, .ref (g_ad (x_G X) i.toNat)), (4, .int (iI i)), (3, .int (iI 4)), (2, .ref (g_tw (x_G X))), (0, .ref tx)]) dX4_readSpelling_65 rfl (by decide) rfl ?_
          obtain ⟨v66, e66⟩ : ∃ y : Int, y = i + 1 := ⟨_, rfl⟩
          refine k_iinc C (lo' := [(4, .int (iI v66)), (1, .int (iI v62)), (6, .int (iI (csn (tA f L) a.toNat i.toNat (wl i.toNat) : Int))), (5, .ref (g_ad (x_G X) i.toNat)), (3, .int (iI 4)), (2, .ref (g_tw (x_G X))), (0, .ref tx)]) 3 rfl dX4_readSpelling_66 (by decide) v66 e66 rfl ?_
          refine k_goto C 17 dX4_readSpelling_69 (by decide) ?_
          refine k_lo (lo' := [(4, .int (iI v66)), (3, .int (iI 4)), (2, .ref (g_tw (x_G X))), (1, .int (iI v62)), (0, .ref tx)]) [0, 4, 5, 1, 6] rfl ?_
          exact ih17 v66 v62 (.ref (g_ad (x_G X) i.toNat)) (⟨by omega, by omega, by omega, by omega, by rw [show v66.toNat = i.toNat + 1 by omega]; show _ = ((max _ _ : Nat) : Int); omega, by rw [show v66.toNat = i.toNat + 1 by omega]; exact hw⟩) (by omega)
  exact L17 _ 0 0 .null (⟨by omega, by omega, by omega, by omega, rfl, wdv_4.symm⟩) (Nat.lt_succ_self _)
theorem in_X4_readNumber_X4 : ∀ w ∈ wsX40, w ∈ wsX4_readNumber := by decide +kernel
set_option maxHeartbeats 4000000 in
set_option maxRecDepth 100000 in
theorem c_X4_readNumber (l : Launch) (G : KG) (tx sg : Nat) (L a du ft nu : Int) (i : Nat) (f : Nat → Int) (hi : i < 4) (hL : 0 ≤ L ∧ L ≤ 60) (ha : 0 ≤ a ∧ a ≤ 60) (hf : ∀ q : Nat, q < 60 → 0 ≤ f q ∧ f q ≤ 65535) : Ct l G yX4_readNumber wsX4_readNumber (rmD 1 0 0) [.ref tx] [(tx, .inr (4, [.ref sg, .int (iI L), .int (iI a), .int (iI du), .int (iI ft), .ref (g_ad G i), .int (iI nu)])), (sg, .inl (g_C G, 60, .inl (aI f)))] (fun u : Int × Int × Int => ((u.1 = 1 ∧ (0 < u.2.2 ∨ wnn i = 0)) ∨ (u.1 = 0 ∧ ¬ (0 < u.2.2 ∨ wnn i = 0))) ∧ u.2.1 = ((nmR (tA f L) i 6 a.toNat 0).1 : Int) ∧ u.2.2 = (nmR (tA f L) i 6 a.toNat 0).2 ∧ 0 ≤ u.2.1 ∧ u.2.1 ≤ 60 ∧ 0 ≤ u.2.2 ∧ u.2.2 ≤ 99999) (fun u : Int × Int × Int => some (.int (iI u.1))) (fun u : Int × Int × Int => [(tx, .inr (4, [.ref sg, .int (iI L), .int (iI u.2.1), .int (iI du), .int (iI ft), .ref (g_ad G i), .int (iI u.2.2)])), (sg, .inl (g_C G, 60, .inl (aI f)))]) := by
  refine Ct.of (cc := cX4_readNumber) (maxL := 2) (ret := (some .boolean)) (by decide +kernel) rfl (Nat.le_of_ble_eq_true rfl) ?_
  intro X C hG hL hnm hR
  subst hG
  subst hL
  have C : Cx X cX4_readNumber RX4 wsX4_readNumber (some .boolean) 2 (rmD 1 0 0) := C
  have hwb := w_bd hi
  show K_ X 0 0 [(tx, .inr (4, [.ref sg, .int (iI L), .int (iI a), .int (iI du), .int (iI ft), .ref (g_ad (x_G X) i), .int (iI nu)])), (sg, .inl (g_C (x_G X), 60, .inl (aI f)))] 0 [(0, .ref tx)] []
  refine k_aload_n C 0 rfl dX4_readNumber_0 rfl ?_
  refine k_iconst C dX4_readNumber_1 ?_
  refine k_put C (Cn := RX4) (T := TX4) (N := 7) (ci := 4) (ref := "StruckCounts$Text") in_X4_readNumber_X4 tyX4 tyX4_ok nmX4 0 rfl rfl 6 (by decide) 1 rfl rfl rfl (v := .int (iI 0)) (rfl) (rfl) (Nat.le_of_ble_eq_true rfl) [(tx, .inr (4, [.ref sg, .int (iI L), .int (iI a), .int (iI du), .int (iI ft), .ref (g_ad (x_G X) i), .int (iI 0)])), (sg, .inl (g_C (x_G X), 60, .inl (aI f)))] rfl dX4_readNumber_2 ?_
  refine k_aload_n C 0 rfl dX4_readNumber_5 rfl ?_
  refine k_get C (Cn := RX4) (T := TX4) (N := 7) (ci := 4) (ref := "StruckCounts$Text") in_X4_readNumber_X4 0 rfl rfl 5 (by decide) 2 rfl rfl (v := .ref (g_ad (x_G X) i)) rfl dX4_readNumber_6 ?_
  refine k_ifnonnull_r C 14 dX4_readNumber_9 (by decide) ?_
  have L14 : ∀ (nf : Nat) (p : Int) (m : Int), (0 ≤ p ∧ p ≤ 60 ∧ 0 ≤ m ∧ m ≤ 99999 ∧ NmI (tA f L) i a.toNat p.toNat m) → (60 - p).toNat < nf → K_ X 0 0 [(tx, .inr (4, [.ref sg, .int (iI L), .int (iI p), .int (iI du), .int (iI ft), .ref (g_ad (x_G X) i), .int (iI m)])), (sg, .inl (g_C (x_G X), 60, .inl (aI f)))] 14 [(0, .ref tx)] [] := by
    intro nf
    induction nf with
    | zero => intro p m hI hm; exact absurd hm (Nat.not_lt_zero _)
    | succ nf ih14 =>
      intro p m hI14 hm14
      obtain ⟨i1, i2, i3, i4, i5⟩ := hI14
      refine k_aload_n C 0 rfl dX4_readNumber_14 rfl ?_
      refine k_get C (Cn := RX4) (T := TX4) (N := 7) (ci := 4) (ref := "StruckCounts$Text") in_X4_readNumber_X4 0 rfl rfl 2 (by decide) 3 rfl rfl (v := .int (iI p)) rfl dX4_readNumber_15 ?_
      refine k_aload_n C 0 rfl dX4_readNumber_18 rfl ?_
      refine k_get C (Cn := RX4) (T := TX4) (N := 7) (ci := 4) (ref := "StruckCounts$Text") in_X4_readNumber_X4 0 rfl rfl 1 (by decide) 4 rfl rfl (v := .int (iI L)) rfl dX4_readNumber_19 ?_
      refine k_icmp_ge C 116 (⟨by omega, by omega⟩) (⟨by omega, by omega⟩) dX4_readNumber_22 (by decide) (fun c22 => ?_) (fun c22 => ?_)
      · skip
        have hE := NmI_end i5 (by rw [tA_ge (by omega)]; omega)
        refine k_aload_n C 0 rfl dX4_readNumber_116 rfl ?_
        refine k_get C (Cn := RX4) (T := TX4) (N := 7) (ci := 4) (ref := "StruckCounts$Text") in_X4_readNumber_X4 0 rfl rfl 6 (by decide) 1 rfl rfl (v := .int (iI m)) rfl dX4_readNumber_117 ?_
        refine k_if_gt C 133 (⟨by omega, by omega⟩) dX4_readNumber_120 (by decide) (fun c120 => ?_) (fun c120 => ?_)
        · skip
          have hz : 0 < m ∨ wnn i = 0 := Or.inl (by omega)
          refine k_iconst C dX4_readNumber_133 ?_
          refine k_goto C 138 dX4_readNumber_134 (by decide) ?_
          exact k_zret C hR (by omega) (u := (1, p, m)) rfl (by (try dsimp only) <;> exact (⟨by first | exact Or.inl ⟨rfl, hz⟩ | exact Or.inr ⟨rfl, hz⟩, by rw [hE]; show p = ((p.toNat : Nat) : Int); omega, by rw [hE], by omega, by omega, by omega, by omega⟩)) rfl (Nat.le_of_ble_eq_true rfl) (Nat.le_of_ble_eq_true rfl) dX4_readNumber_138
        · skip
          refine k_aload_n C 0 rfl dX4_readNumber_123 rfl ?_
          refine k_get C (Cn := RX4) (T := TX4) (N := 7) (ci := 4) (ref := "StruckCounts$Text") in_X4_readNumber_X4 0 rfl rfl 5 (by decide) 2 rfl rfl (v := .ref (g_ad (x_G X) i)) rfl dX4_readNumber_124 ?_
          refine k_getO C (C.wE (i := i) (by omega)).2.2.1 17 rfl dX4_readNumber_127 ?_
          refine k_nmI (fun v127 e127 => ?_)
          refine k_if_ne C 137 (⟨by omega, by omega⟩) dX4_readNumber_130 (by decide) (fun c130 => ?_) (fun c130 => ?_)
          · skip
            have hz : ¬ (0 < m ∨ wnn i = 0) := by omega
            refine k_iconst C dX4_readNumber_137 ?_
            exact k_zret C hR (by omega) (u := (0, p, m)) rfl (by (try dsimp only) <;> exact (⟨by first | exact Or.inl ⟨rfl, hz⟩ | exact Or.inr ⟨rfl, hz⟩, by rw [hE]; show p = ((p.toNat : Nat) : Int); omega, by rw [hE], by omega, by omega, by omega, by omega⟩)) rfl (Nat.le_of_ble_eq_true rfl) (Nat.le_of_ble_eq_true rfl) dX4_readNumber_138
          · skip
            have hz : 0 < m ∨ wnn i = 0 := Or.inr (by omega)
            refine k_iconst C dX4_readNumber_133 ?_
            refine k_goto C 138 dX4_readNumber_134 (by decide) ?_
            exact k_zret C hR (by omega) (u := (1, p, m)) rfl (by (try dsimp only) <;> exact (⟨by first | exact Or.inl ⟨rfl, hz⟩ | exact Or.inr ⟨rfl, hz⟩, by rw [hE]; show p = ((p.toNat : Nat) : Int); omega, by rw [hE], by omega, by omega, by omega, by omega⟩)) rfl (Nat.le_of_ble_eq_true rfl) (Nat.le_of_ble_eq_true rfl) dX4_readNumber_138
      · skip
        refine k_aload_n C 0 rfl dX4_readNumber_25 rfl ?_
        refine k_get C (Cn := RX4) (T := TX4) (N := 7) (ci := 4) (ref := "StruckCounts$Text") in_X4_readNumber_X4 0 rfl rfl 0 (by decide) 5 rfl rfl (v := .ref sg) rfl dX4_readNumber_26 ?_
        refine k_aload_n C 0 rfl dX4_readNumber_29 rfl ?_
        refine k_get C (Cn := RX4) (T := TX4) (N := 7) (ci := 4) (ref := "StruckCounts$Text") in_X4_readNumber_X4 0 rfl rfl 2 (by decide) 3 rfl rfl (v := .int (iI p)) rfl dX4_readNumber_30 ?_
        refine k_cald C (f := f) 1 rfl (⟨by omega, by omega⟩) (by decide) dX4_readNumber_33 ?_
        refine k_nmI (fun v33 e33 => ?_)
        have hv := hf p.toNat (by omega)
        refine k_bipush C dX4_readNumber_34 (by decide) ?_
        refine k_icmp_lt C 116 (⟨by omega, by omega⟩) (⟨by omega, by omega⟩) dX4_readNumber_36 (by decide) (fun c36 => ?_) (fun c36 => ?_)
        · skip
          have hE := NmI_end i5 (by rw [tA_lt (by omega)]; omega)
          refine k_aload_n C 0 rfl dX4_readNumber_116 rfl ?_
          refine k_get C (Cn := RX4) (T := TX4) (N := 7) (ci := 4) (ref := "StruckCounts$Text") in_X4_readNumber_X4 0 rfl rfl 6 (by decide) 1 rfl rfl (v := .int (iI m)) rfl dX4_readNumber_117 ?_
          refine k_if_gt C 133 (⟨by omega, by omega⟩) dX4_readNumber_120 (by decide) (fun c120 => ?_) (fun c120 => ?_)
          · skip
            have hz : 0 < m ∨ wnn i = 0 := Or.inl (by omega)
            refine k_iconst C dX4_readNumber_133 ?_
            refine k_goto C 138 dX4_readNumber_134 (by decide) ?_
            exact k_zret C hR (by omega) (u := (1, p, m)) rfl (by (try dsimp only) <;> exact (⟨by first | exact Or.inl ⟨rfl, hz⟩ | exact Or.inr ⟨rfl, hz⟩, by rw [hE]; show p = ((p.toNat : Nat) : Int); omega, by rw [hE], by omega, by omega, by omega, by omega⟩)) rfl (Nat.le_of_ble_eq_true rfl) (Nat.le_of_ble_eq_true rfl) dX4_readNumber_138
          · skip
            refine k_aload_n C 0 rfl dX4_readNumber_123 rfl ?_
            refine k_get C (Cn := RX4) (T := TX4) (N := 7) (ci := 4) (ref := "StruckCounts$Text") in_X4_readNumber_X4 0 rfl rfl 5 (by decide) 2 rfl rfl (v := .ref (g_ad (x_G X) i)) rfl dX4_readNumber_124 ?_
            refine k_getO C (C.wE (i := i) (by omega)).2.2.1 17 rfl dX4_readNumber_127 ?_
            refine k_nmI (fun v127 e127 => ?_)
            refine k_if_ne C 137 (⟨by omega, by omega⟩) dX4_readNumber_130 (by decide) (fun c130 => ?_) (fun c130 => ?_)
            · skip
              have hz : ¬ (0 < m ∨ wnn i = 0) := by omega
              refine k_iconst C dX4_readNumber_137 ?_
              exact k_zret C hR (by omega) (u := (0, p, m)) rfl (by (try dsimp only) <;> exact (⟨by first | exact Or.inl ⟨rfl, hz⟩ | exact Or.inr ⟨rfl, hz⟩, by rw [hE]; show p = ((p.toNat : Nat) : Int); omega, by rw [hE], by omega, by omega, by omega, by omega⟩)) rfl (Nat.le_of_ble_eq_true rfl) (Nat.le_of_ble_eq_true rfl) dX4_readNumber_138
            · skip
              have hz : 0 < m ∨ wnn i = 0 := Or.inr (by omega)
              refine k_iconst C dX4_readNumber_133 ?_
              refine k_goto C 138 dX4_readNumber_134 (by decide) ?_
              exact k_zret C hR (by omega) (u := (1, p, m)) rfl (by (try dsimp only) <;> exact (⟨by first | exact Or.inl ⟨rfl, hz⟩ | exact Or.inr ⟨rfl, hz⟩, by rw [hE]; show p = ((p.toNat : Nat) : Int); omega, by rw [hE], by omega, by omega, by omega, by omega⟩)) rfl (Nat.le_of_ble_eq_true rfl) (Nat.le_of_ble_eq_true rfl) dX4_readNumber_138
        · skip
          refine k_aload_n C 0 rfl dX4_readNumber_39 rfl ?_
          refine k_get C (Cn := RX4) (T := TX4) (N := 7) (ci := 4) (ref := "StruckCounts$Text") in_X4_readNumber_X4 0 rfl rfl 0 (by decide) 5 rfl rfl (v := .ref sg) rfl dX4_readNumber_40 ?_
          refine k_aload_n C 0 rfl dX4_readNumber_43 rfl ?_
          refine k_get C (Cn := RX4) (T := TX4) (N := 7) (ci := 4) (ref := "StruckCounts$Text") in_X4_readNumber_X4 0 rfl rfl 2 (by decide) 3 rfl rfl (v := .int (iI p)) rfl dX4_readNumber_44 ?_
          refine k_cald C (f := f) 1 rfl (⟨by omega, by omega⟩) (by decide) dX4_readNumber_47 ?_
          refine k_nmI (fun v47 e47 => ?_)
          have hv2 := hf p.toNat (by omega)
          refine k_bipush C dX4_readNumber_48 (by decide) ?_
          refine k_icmp_gt C 116 (⟨by omega, by omega⟩) (⟨by omega, by omega⟩) dX4_readNumber_50 (by decide) (fun c50 => ?_) (fun c50 => ?_)
          · skip
            have hE := NmI_end i5 (by rw [tA_lt (by omega)]; omega)
            refine k_aload_n C 0 rfl dX4_readNumber_116 rfl ?_
            refine k_get C (Cn := RX4) (T := TX4) (N := 7) (ci := 4) (ref := "StruckCounts$Text") in_X4_readNumber_X4 0 rfl rfl 6 (by decide) 1 rfl rfl (v := .int (iI m)) rfl dX4_readNumber_117 ?_
            refine k_if_gt C 133 (⟨by omega, by omega⟩) dX4_readNumber_120 (by decide) (fun c120 => ?_) (fun c120 => ?_)
            · skip
              have hz : 0 < m ∨ wnn i = 0 := Or.inl (by omega)
              refine k_iconst C dX4_readNumber_133 ?_
              refine k_goto C 138 dX4_readNumber_134 (by decide) ?_
              exact k_zret C hR (by omega) (u := (1, p, m)) rfl (by (try dsimp only) <;> exact (⟨by first | exact Or.inl ⟨rfl, hz⟩ | exact Or.inr ⟨rfl, hz⟩, by rw [hE]; show p = ((p.toNat : Nat) : Int); omega, by rw [hE], by omega, by omega, by omega, by omega⟩)) rfl (Nat.le_of_ble_eq_true rfl) (Nat.le_of_ble_eq_true rfl) dX4_readNumber_138
            · skip
              refine k_aload_n C 0 rfl dX4_readNumber_123 rfl ?_
              refine k_get C (Cn := RX4) (T := TX4) (N := 7) (ci := 4) (ref := "StruckCounts$Text") in_X4_readNumber_X4 0 rfl rfl 5 (by decide) 2 rfl rfl (v := .ref (g_ad (x_G X) i)) rfl dX4_readNumber_124 ?_
              refine k_getO C (C.wE (i := i) (by omega)).2.2.1 17 rfl dX4_readNumber_127 ?_
              refine k_nmI (fun v127 e127 => ?_)
              refine k_if_ne C 137 (⟨by omega, by omega⟩) dX4_readNumber_130 (by decide) (fun c130 => ?_) (fun c130 => ?_)
              · skip
                have hz : ¬ (0 < m ∨ wnn i = 0) := by omega
                refine k_iconst C dX4_readNumber_137 ?_
                exact k_zret C hR (by omega) (u := (0, p, m)) rfl (by (try dsimp only) <;> exact (⟨by first | exact Or.inl ⟨rfl, hz⟩ | exact Or.inr ⟨rfl, hz⟩, by rw [hE]; show p = ((p.toNat : Nat) : Int); omega, by rw [hE], by omega, by omega, by omega, by omega⟩)) rfl (Nat.le_of_ble_eq_true rfl) (Nat.le_of_ble_eq_true rfl) dX4_readNumber_138
              · skip
                have hz : 0 < m ∨ wnn i = 0 := Or.inr (by omega)
                refine k_iconst C dX4_readNumber_133 ?_
                refine k_goto C 138 dX4_readNumber_134 (by decide) ?_
                exact k_zret C hR (by omega) (u := (1, p, m)) rfl (by (try dsimp only) <;> exact (⟨by first | exact Or.inl ⟨rfl, hz⟩ | exact Or.inr ⟨rfl, hz⟩, by rw [hE]; show p = ((p.toNat : Nat) : Int); omega, by rw [hE], by omega, by omega, by omega, by omega⟩)) rfl (Nat.le_of_ble_eq_true rfl) (Nat.le_of_ble_eq_true rfl) dX4_readNumber_138
          · skip
            refine k_bipush C dX4_readNumber_53 (by decide) ?_
            refine k_aload_n C 0 rfl dX4_readNumber_55 rfl ?_
            refine k_get C (Cn := RX4) (T := TX4) (N := 7) (ci := 4) (ref := "StruckCounts$Text") in_X4_readNumber_X4 0 rfl rfl 6 (by decide) 1 rfl rfl (v := .int (iI m)) rfl dX4_readNumber_56 ?_
            refine k_imul C dX4_readNumber_59 ?_
            refine k_nmI (fun v59 e59 => ?_)
            refine k_aload_n C 0 rfl dX4_readNumber_60 rfl ?_
            refine k_get C (Cn := RX4) (T := TX4) (N := 7) (ci := 4) (ref := "StruckCounts$Text") in_X4_readNumber_X4 0 rfl rfl 0 (by decide) 5 rfl rfl (v := .ref sg) rfl dX4_readNumber_61 ?_
            refine k_aload_n C 0 rfl dX4_readNumber_64 rfl ?_
            refine k_get C (Cn := RX4) (T := TX4) (N := 7) (ci := 4) (ref := "StruckCounts$Text") in_X4_readNumber_X4 0 rfl rfl 2 (by decide) 3 rfl rfl (v := .int (iI p)) rfl dX4_readNumber_65 ?_
            refine k_cald C (f := f) 1 rfl (⟨by omega, by omega⟩) (by decide) dX4_readNumber_68 ?_
            refine k_nmI (fun v68 e68 => ?_)
            have hv3 := hf p.toNat (by omega)
            have hT : tA f L p.toNat = f p.toNat := tA_lt (by omega)
            refine k_bipush C dX4_readNumber_69 (by decide) ?_
            refine k_isub C dX4_readNumber_71 ?_
            refine k_nmI (fun v71 e71 => ?_)
            refine k_iadd C dX4_readNumber_72 ?_
            refine k_nmI (fun v72 e72 => ?_)
            have hx : v72 = 10 * m + (tA f L p.toNat - 48) := by omega
            have hd : 48 ≤ tA f L p.toNat ∧ tA f L p.toNat ≤ 57 := by omega
            refine k_istore_n C (lo' := [(1, .int (iI v72)), (0, .ref tx)]) dX4_readNumber_73 rfl (by decide) rfl ?_
            refine k_iload_n C 0 rfl dX4_readNumber_74 rfl ?_
            refine k_aload_n C 1 rfl dX4_readNumber_75 rfl ?_
            refine k_get C (Cn := RX4) (T := TX4) (N := 7) (ci := 4) (ref := "StruckCounts$Text") in_X4_readNumber_X4 0 rfl rfl 5 (by decide) 2 rfl rfl (v := .ref (g_ad (x_G X) i)) rfl dX4_readNumber_76 ?_
            refine k_getO C (C.wE (i := i) (by omega)).1 15 rfl dX4_readNumber_79 ?_
            refine k_nmI (fun v79 e79 => ?_)
            refine k_aload_n C 1 rfl dX4_readNumber_82 rfl ?_
            refine k_get C (Cn := RX4) (T := TX4) (N := 7) (ci := 4) (ref := "StruckCounts$Text") in_X4_readNumber_X4 0 rfl rfl 5 (by decide) 2 rfl rfl (v := .ref (g_ad (x_G X) i)) rfl dX4_readNumber_83 ?_
            refine k_getO C (C.wE (i := i) (by omega)).2.1 16 rfl dX4_readNumber_86 ?_
            refine k_nmI (fun v86 e86 => ?_)
            refine k_callSN C (y := yX6_outside) [.int (iI v72), .int (iI v79), .int (iI v86)] 3 rfl (c_X6_outside (x_l X) (x_G X) v72 v79 v86 (⟨by omega, by omega⟩) (⟨by omega, by omega⟩) (⟨by omega, by omega⟩)) gX4_readNumber_X6_outside_n84 rfl 3 rfl 7 6 rfl rfl ⟨by decide +kernel, by decide +kernel, by decide +kernel⟩ ⟨by decide, by decide⟩ [] (by decide) (wc := []) rfl [] rfl (Nat.le_of_ble_eq_true rfl) ⟨Nat.le_of_ble_eq_true rfl, Nat.le_of_ble_eq_true rfl⟩ dX4_readNumber_89 (fun _ => [(tx, .inr (4, [.ref sg, .int (iI L), .int (iI p), .int (iI du), .int (iI ft), .ref (g_ad (x_G X) i), .int (iI m)])), (sg, .inl (g_C (x_G X), 60, .inl (aI f)))]) (Or.inl (fun _ => ⟨rfl, rfl⟩)) (fun u89 => [.int (iI u89)]) (fun _ => rfl) 0 0 ⟨rfl, rfl⟩ (fun u89 hu89 => ?_)
            refine k_if_eq C 98 (⟨by omega, by omega⟩) dX4_readNumber_92 (by decide) (fun c92 => ?_) (fun c92 => ?_)
            · skip
              have hu89 := bo_f hu89 c92
              refine k_aload_n C 1 rfl dX4_readNumber_98 rfl ?_
              refine k_iload_n C 0 rfl dX4_readNumber_99 rfl ?_
              refine k_put C (Cn := RX4) (T := TX4) (N := 7) (ci := 4) (ref := "StruckCounts$Text") in_X4_readNumber_X4 tyX4 tyX4_ok nmX4 0 rfl rfl 6 (by decide) 1 rfl rfl rfl (v := .int (iI v72)) (rfl) (rfl) (Nat.le_of_ble_eq_true rfl) [(tx, .inr (4, [.ref sg, .int (iI L), .int (iI p), .int (iI du), .int (iI ft), .ref (g_ad (x_G X) i), .int (iI v72)])), (sg, .inl (g_C (x_G X), 60, .inl (aI f)))] rfl dX4_readNumber_100 ?_
              refine k_aload_n C 1 rfl dX4_readNumber_103 rfl ?_
              refine k_dup C dX4_readNumber_104 rfl ?_
              refine k_get C (Cn := RX4) (T := TX4) (N := 7) (ci := 4) (ref := "StruckCounts$Text") in_X4_readNumber_X4 0 rfl rfl 2 (by decide) 3 rfl rfl (v := .int (iI p)) rfl dX4_readNumber_105 ?_
              refine k_iconst C dX4_readNumber_108 ?_
              refine k_iadd C dX4_readNumber_109 ?_
              refine k_nmI (fun v109 e109 => ?_)
              refine k_put C (Cn := RX4) (T := TX4) (N := 7) (ci := 4) (ref := "StruckCounts$Text") in_X4_readNumber_X4 tyX4 tyX4_ok nmX4 0 rfl rfl 2 (by decide) 3 rfl rfl rfl (v := .int (iI v109)) (rfl) (rfl) (Nat.le_of_ble_eq_true rfl) [(tx, .inr (4, [.ref sg, .int (iI L), .int (iI v109), .int (iI du), .int (iI ft), .ref (g_ad (x_G X) i), .int (iI v72)])), (sg, .inl (g_C (x_G X), 60, .inl (aI f)))] rfl dX4_readNumber_110 ?_
              refine k_goto C 14 dX4_readNumber_113 (by decide) ?_
              refine k_lo (lo' := [(0, .ref tx)]) [1] rfl ?_
              exact ih14 v109 v72 (⟨by omega, by omega, by omega, by omega, by rw [show v109.toNat = p.toNat + 1 by omega]; exact NmI_go hi i5 hd hx (by omega)⟩) (by omega)
            · skip
              have hu89 := bo_t hu89 c92
              have hE := NmI_end i5 (by omega)
              refine k_goto C 116 dX4_readNumber_95 (by decide) ?_
              refine k_aload_n C 1 rfl dX4_readNumber_116 rfl ?_
              refine k_get C (Cn := RX4) (T := TX4) (N := 7) (ci := 4) (ref := "StruckCounts$Text") in_X4_readNumber_X4 0 rfl rfl 6 (by decide) 1 rfl rfl (v := .int (iI m)) rfl dX4_readNumber_117 ?_
              refine k_if_gt C 133 (⟨by omega, by omega⟩) dX4_readNumber_120 (by decide) (fun c120 => ?_) (fun c120 => ?_)
              · skip
                have hz : 0 < m ∨ wnn i = 0 := Or.inl (by omega)
                refine k_iconst C dX4_readNumber_133 ?_
                refine k_goto C 138 dX4_readNumber_134 (by decide) ?_
                exact k_zret C hR (by omega) (u := (1, p, m)) rfl (by (try dsimp only) <;> exact (⟨by first | exact Or.inl ⟨rfl, hz⟩ | exact Or.inr ⟨rfl, hz⟩, by rw [hE]; show p = ((p.toNat : Nat) : Int); omega, by rw [hE], by omega, by omega, by omega, by omega⟩)) rfl (Nat.le_of_ble_eq_true rfl) (Nat.le_of_ble_eq_true rfl) dX4_readNumber_138
              · skip
                refine k_aload_n C 1 rfl dX4_readNumber_123 rfl ?_
                refine k_get C (Cn := RX4) (T := TX4) (N := 7) (ci := 4) (ref := "StruckCounts$Text") in_X4_readNumber_X4 0 rfl rfl 5 (by decide) 2 rfl rfl (v := .ref (g_ad (x_G X) i)) rfl dX4_readNumber_124 ?_
                refine k_getO C (C.wE (i := i) (by omega)).2.2.1 17 rfl dX4_readNumber_127 ?_
                refine k_nmI (fun v127 e127 => ?_)
                refine k_if_ne C 137 (⟨by omega, by omega⟩) dX4_readNumber_130 (by decide) (fun c130 => ?_) (fun c130 => ?_)
                · skip
                  have hz : ¬ (0 < m ∨ wnn i = 0) := by omega
                  refine k_iconst C dX4_readNumber_137 ?_
                  exact k_zret C hR (by omega) (u := (0, p, m)) rfl (by (try dsimp only) <;> exact (⟨by first | exact Or.inl ⟨rfl, hz⟩ | exact Or.inr ⟨rfl, hz⟩, by rw [hE]; show p = ((p.toNat : Nat) : Int); omega, by rw [hE], by omega, by omega, by omega, by omega⟩)) rfl (Nat.le_of_ble_eq_true rfl) (Nat.le_of_ble_eq_true rfl) dX4_readNumber_138
                · skip
                  have hz : 0 < m ∨ wnn i = 0 := Or.inr (by omega)
                  refine k_iconst C dX4_readNumber_133 ?_
                  refine k_goto C 138 dX4_readNumber_134 (by decide) ?_
                  exact k_zret C hR (by omega) (u := (1, p, m)) rfl (by (try dsimp only) <;> exact (⟨by first | exact Or.inl ⟨rfl, hz⟩ | exact Or.inr ⟨rfl, hz⟩, by rw [hE]; show p = ((p.toNat : Nat) : Int); omega, by rw [hE], by omega, by omega, by omega, by omega⟩)) rfl (Nat.le_of_ble_eq_true rfl) (Nat.le_of_ble_eq_true rfl) dX4_readNumber_138
  exact L14 _ a 0 (⟨by omega, by omega, by omega, by omega, NmI_0⟩) (Nat.lt_succ_self _)
