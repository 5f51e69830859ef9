theorem and255 {x : Int} (h : 97 ≤ x ∧ x ≤ 122) : iI x &&& iI 255 = iI x := by
  have := all_lt (N := 123) (P := fun i => decide (iI (i : Int) &&& iI 255 = iI (i : Int))) (by decide +kernel) (show x.toNat < 123 by omega)
  have := of_decide_eq_true this
  rwa [Int.toNat_of_nonneg (by omega)] at this

set_option maxHeartbeats 4000000 in
set_option maxRecDepth 100000 in
theorem c_J0_coder_7d493 (l : Launch) (G : KG) (i : Nat) (hi : i < 4) : Ct l G yJ0_coder_7d493 wsJ0_coder_7d493 (rmD 0 0 0) [.ref (g_sk G i)] [] (fun u : Unit => True) (fun u : Unit => some (.int (iI 0))) (fun u : Unit => []) := by
  refine Ct.of (cc := cJ0_coder_7d493) (maxL := 1) (ret := (some .byte)) (by decide +kernel) rfl (Nat.le_of_ble_eq_true rfl) ?_
  intro X C hG hL hnm hR
  subst hG
  subst hL
  have C : Cx X cJ0_coder_7d493 RJ0 wsJ0_coder_7d493 (some .byte) 1 (rmD 0 0 0) := C
  show K_ X 0 0 [] 0 [(0, .ref (g_sk (x_G X) i))] []
  refine k_gets C (ref := "java/lang/String") (nm := "COMPACT_STRINGS") C.S.2.2.2.2.2.1 1 rfl rfl dJ0_coder_7d493_0 ?_
  refine k_eq (st2 := [.int (iI 1)]) rfl rfl rfl rfl ?_
  refine k_if_eq C 13 (⟨by omega, by omega⟩) dJ0_coder_7d493_3 (by decide) (fun c3 => ?_) (fun c3 => ?_)
  · exfalso; omega
  · skip
    refine k_aload_n C 0 rfl dJ0_coder_7d493_6 rfl ?_
    refine k_getO2 C (C.wS (i := i) (by omega)).1 2 rfl dJ0_coder_7d493_7 ?_
    refine k_goto C 14 dJ0_coder_7d493_10 (by decide) ?_
    exact k_nret C (ty := .byte) hR (rfl) (u := ()) rfl (by first | trivial | omega) rfl (Nat.le_of_ble_eq_true rfl) (Nat.le_of_ble_eq_true rfl) dJ0_coder_7d493_14
set_option maxHeartbeats 4000000 in
set_option maxRecDepth 100000 in
theorem c_J0_isLatin1_aae02 (l : Launch) (G : KG) (i : Nat) (hi : i < 4) : Ct l G yJ0_isLatin1_aae02 wsJ0_isLatin1_aae02 (rmD 0 0 0) [.ref (g_sk G i)] [] (fun u : Unit => True) (fun u : Unit => some (.int (iI 1))) (fun u : Unit => []) := by
  refine Ct.of (cc := cJ0_isLatin1_aae02) (maxL := 1) (ret := (some .boolean)) (by decide +kernel) rfl (Nat.le_of_ble_eq_true rfl) ?_
  intro X C hG hL hnm hR
  subst hG
  subst hL
  have C : Cx X cJ0_isLatin1_aae02 RJ0 wsJ0_isLatin1_aae02 (some .boolean) 1 (rmD 0 0 0) := C
  show K_ X 0 0 [] 0 [(0, .ref (g_sk (x_G X) i))] []
  refine k_gets C (ref := "java/lang/String") (nm := "COMPACT_STRINGS") C.S.2.2.2.2.2.1 1 rfl rfl dJ0_isLatin1_aae02_0 ?_
  refine k_eq (st2 := [.int (iI 1)]) rfl rfl rfl rfl ?_
  refine k_if_eq C 17 (⟨by omega, by omega⟩) dJ0_isLatin1_aae02_3 (by decide) (fun c3 => ?_) (fun c3 => ?_)
  · exfalso; omega
  · skip
    refine k_aload_n C 0 rfl dJ0_isLatin1_aae02_6 rfl ?_
    refine k_getO2 C (C.wS (i := i) (by omega)).1 2 rfl dJ0_isLatin1_aae02_7 ?_
    refine k_if_ne C 17 (⟨by omega, by omega⟩) dJ0_isLatin1_aae02_10 (by decide) (fun c10 => ?_) (fun c10 => ?_)
    · exfalso; omega
    · skip
      refine k_iconst C dJ0_isLatin1_aae02_13 ?_
      refine k_goto C 18 dJ0_isLatin1_aae02_14 (by decide) ?_
      exact k_zret C hR (by omega) (u := ()) rfl (by first | trivial | omega) rfl (Nat.le_of_ble_eq_true rfl) (Nat.le_of_ble_eq_true rfl) dJ0_isLatin1_aae02_18
set_option maxHeartbeats 4000000 in
set_option maxRecDepth 100000 in
theorem c_J0_length_8abf5 (l : Launch) (G : KG) (i : Nat) (hi : i < 4) : Ct l G yJ0_length_8abf5 wsJ0_length_8abf5 (rmD 1 0 0) [.ref (g_sk G i)] [] (fun u : Unit => True) (fun u : Unit => some (.int (iI (wl i : Int)))) (fun u : Unit => []) := by
  refine Ct.of (cc := cJ0_length_8abf5) (maxL := 1) (ret := (some .int)) (by decide +kernel) rfl (Nat.le_of_ble_eq_true rfl) ?_
  intro X C hG hL hnm hR
  subst hG
  subst hL
  have C : Cx X cJ0_length_8abf5 RJ0 wsJ0_length_8abf5 (some .int) 1 (rmD 1 0 0) := C
  show K_ X 0 0 [] 0 [(0, .ref (g_sk (x_G X) i))] []
  refine k_aload_n C 0 rfl dJ0_length_8abf5_0 rfl ?_
  refine k_getO2 C (C.wS (i := i) (by omega)).2.1 1 rfl dJ0_length_8abf5_1 ?_
  refine k_tlen C (C.wS (i := i) (by omega)).2.2 dJ0_length_8abf5_4 ?_
  refine k_aload_n C 0 rfl dJ0_length_8abf5_5 rfl ?_
  refine k_callVs C (y := yJ0_coder_7d493) [] 0 rfl (by omega) (c_J0_coder_7d493 (x_l X) (x_G X) i (by first | assumption | omega)) gJ0_length_8abf5_J0_coder_7d493 rfl ⟨rfl, by decide +kernel, by decide +kernel, by decide +kernel⟩ ⟨by decide, by decide⟩ [.int (iI (wl i : Int))] rfl (Nat.le_of_ble_eq_true rfl) ⟨Nat.le_of_ble_eq_true rfl, Nat.le_of_ble_eq_true rfl⟩ dJ0_length_8abf5_6 (fun _ => rfl) (fun u6 => [.int (iI 0), .int (iI (wl i : Int))]) (fun _ => rfl) 0 0 ⟨rfl, rfl⟩ (fun u6 hu6 => ?_)
  refine k_ishr0 C dJ0_length_8abf5_9 ?_
  exact k_iret C hR (u := ()) rfl (by first | trivial | omega) rfl (Nat.le_of_ble_eq_true rfl) (Nat.le_of_ble_eq_true rfl) dJ0_length_8abf5_10
set_option maxHeartbeats 4000000 in
set_option maxRecDepth 100000 in
theorem c_J3_checkIndex_8e157 (l : Launch) (G : KG) (i n : Int) (q : Nat) (hi : 0 ≤ i ∧ i < n)(hn : n < 2147483648) : Ct l G yJ3_checkIndex_8e157 wsJ3_checkIndex_8e157 (rmD 0 0 0) [.int (iI i), .int (iI n), .ref q] [] (fun u : Unit => True) (fun u : Unit => some (.int (iI i))) (fun u : Unit => []) := by
  refine Ct.of (cc := cJ3_checkIndex_8e157) (maxL := 3) (ret := (some .int)) (by decide +kernel) rfl (Nat.le_of_ble_eq_true rfl) ?_
  intro X C hG hL hnm hR
  subst hG
  subst hL
  have C : Cx X cJ3_checkIndex_8e157 RJ3 wsJ3_checkIndex_8e157 (some .int) 3 (rmD 0 0 0) := C
  show K_ X 0 0 [] 0 [(0, .int (iI i)), (1, .int (iI n)), (2, .ref q)] []
  refine k_iload_n C 0 rfl dJ3_checkIndex_8e157_0 rfl ?_
  refine k_if_lt C 9 (⟨by omega, by omega⟩) dJ3_checkIndex_8e157_1 (by decide) (fun c1 => ?_) (fun c1 => ?_)
  · exfalso; omega
  · skip
    refine k_iload_n C 0 rfl dJ3_checkIndex_8e157_4 rfl ?_
    refine k_iload_n C 1 rfl dJ3_checkIndex_8e157_5 rfl ?_
    refine k_icmp_lt C 16 (⟨by omega, by omega⟩) (⟨by omega, by omega⟩) dJ3_checkIndex_8e157_6 (by decide) (fun c6 => ?_) (fun c6 => ?_)
    · skip
      refine k_iload_n C 0 rfl dJ3_checkIndex_8e157_16 rfl ?_
      exact k_iret C hR (u := ()) rfl (by first | trivial | omega) rfl (Nat.le_of_ble_eq_true rfl) (Nat.le_of_ble_eq_true rfl) dJ3_checkIndex_8e157_17
    · exfalso; omega
set_option maxHeartbeats 4000000 in
set_option maxRecDepth 100000 in
theorem c_J3_nul (l : Launch) (G : KG) (i n : Int) (hi : 0 ≤ i ∧ i < n)(hn : n < 2147483648) : Ct l G yJ3_checkIndex_8e157 wsJ3_checkIndex_8e157 (rmD 0 0 0) [.int (iI i), .int (iI n), .null] [] (fun u : Unit => True) (fun u : Unit => some (.int (iI i))) (fun u : Unit => []) := by
  refine Ct.of (cc := cJ3_checkIndex_8e157) (maxL := 3) (ret := (some .int)) (by decide +kernel) rfl (Nat.le_of_ble_eq_true rfl) ?_
  intro X C hG hL hnm hR
  subst hG
  subst hL
  have C : Cx X cJ3_checkIndex_8e157 RJ3 wsJ3_checkIndex_8e157 (some .int) 3 (rmD 0 0 0) := C
  show K_ X 0 0 [] 0 [(0, .int (iI i)), (1, .int (iI n)), (2, .null)] []
  refine k_iload_n C 0 rfl dJ3_checkIndex_8e157_0 rfl ?_
  refine k_if_lt C 9 (⟨by omega, by omega⟩) dJ3_checkIndex_8e157_1 (by decide) (fun c1 => ?_) (fun c1 => ?_)
  · exfalso; omega
  · skip
    refine k_iload_n C 0 rfl dJ3_checkIndex_8e157_4 rfl ?_
    refine k_iload_n C 1 rfl dJ3_checkIndex_8e157_5 rfl ?_
    refine k_icmp_lt C 16 (⟨by omega, by omega⟩) (⟨by omega, by omega⟩) dJ3_checkIndex_8e157_6 (by decide) (fun c6 => ?_) (fun c6 => ?_)
    · skip
      refine k_iload_n C 0 rfl dJ3_checkIndex_8e157_16 rfl ?_
      exact k_iret C hR (u := ()) rfl (by first | trivial | omega) rfl (Nat.le_of_ble_eq_true rfl) (Nat.le_of_ble_eq_true rfl) dJ3_checkIndex_8e157_17
    · exfalso; omega
set_option maxHeartbeats 4000000 in
set_option maxRecDepth 100000 in
theorem c_J0_checkIndex_df160 (l : Launch) (G : KG) (i n : Int) (hi : 0 ≤ i ∧ i < n)(hn : n < 2147483648) : Ct l G yJ0_checkIndex_df160 wsJ0_checkIndex_df160 (rmD 1 0 0) [.int (iI i), .int (iI n)] [] (fun u : Unit => True) (fun u : Unit => none) (fun u : Unit => []) := by
  refine Ct.of (cc := cJ0_checkIndex_df160) (maxL := 2) (ret := none) (by decide +kernel) rfl (Nat.le_of_ble_eq_true rfl) ?_
  intro X C hG hL hnm hR
  subst hG
  subst hL
  have C : Cx X cJ0_checkIndex_df160 RJ0 wsJ0_checkIndex_df160 none 2 (rmD 1 0 0) := C
  show K_ X 0 0 [] 0 [(0, .int (iI i)), (1, .int (iI n))] []
  refine k_iload_n C 0 rfl dJ0_checkIndex_df160_0 rfl ?_
  refine k_iload_n C 1 rfl dJ0_checkIndex_df160_1 rfl ?_
  rcases C.S.2.2.2.2.2.2.2.2.2.2.2.2.2 with hsq | ⟨sq, hsq⟩
  · refine k_gets C (ref := "jdk/internal/util/Preconditions") (nm := "SIOOBE_FORMATTER") hsq 1 rfl rfl dJ0_checkIndex_df160_2 ?_
    refine k_callS C (y := yJ3_checkIndex_8e157) [.int (iI i), .int (iI n), .null] 3 rfl (c_J3_nul (x_l X) (x_G X) i n (by first | assumption | omega) (by first | assumption | omega)) gJ0_checkIndex_df160_J3_checkIndex_8e157 rfl ⟨by decide +kernel, by decide +kernel, by decide +kernel⟩ ⟨by decide, by decide⟩ [] (by decide) (wc := []) rfl [] rfl (Nat.le_of_ble_eq_true rfl) ⟨Nat.le_of_ble_eq_true rfl, Nat.le_of_ble_eq_true rfl⟩ dJ0_checkIndex_df160_5 (fun _ => []) (Or.inl (fun _ => ⟨rfl, rfl⟩)) (fun u5 => [.int (iI i)]) (fun _ => rfl) 0 0 ⟨rfl, rfl⟩ (fun u5 hu5 => ?_)
    refine k_pop C dJ0_checkIndex_df160_8 rfl ?_
    exact k_vret C hR (u := ()) rfl (by first | trivial | omega) rfl (Nat.le_of_ble_eq_true rfl) (Nat.le_of_ble_eq_true rfl) dJ0_checkIndex_df160_9
  · refine k_gets C (ref := "jdk/internal/util/Preconditions") (nm := "SIOOBE_FORMATTER") hsq 1 rfl rfl dJ0_checkIndex_df160_2 ?_
    refine k_callS C (y := yJ3_checkIndex_8e157) [.int (iI i), .int (iI n), .ref sq] 3 rfl (c_J3_checkIndex_8e157 (x_l X) (x_G X) i n sq (by first | assumption | omega) (by first | assumption | omega)) gJ0_checkIndex_df160_J3_checkIndex_8e157 rfl ⟨by decide +kernel, by decide +kernel, by decide +kernel⟩ ⟨by decide, by decide⟩ [] (by decide) (wc := []) rfl [] rfl (Nat.le_of_ble_eq_true rfl) ⟨Nat.le_of_ble_eq_true rfl, Nat.le_of_ble_eq_true rfl⟩ dJ0_checkIndex_df160_5 (fun _ => []) (Or.inl (fun _ => ⟨rfl, rfl⟩)) (fun u5 => [.int (iI i)]) (fun _ => rfl) 0 0 ⟨rfl, rfl⟩ (fun u5 hu5 => ?_)
    refine k_pop C dJ0_checkIndex_df160_8 rfl ?_
    exact k_vret C hR (u := ()) rfl (by first | trivial | omega) rfl (Nat.le_of_ble_eq_true rfl) (Nat.le_of_ble_eq_true rfl) dJ0_checkIndex_df160_9
set_option maxHeartbeats 4000000 in
set_option maxRecDepth 100000 in
theorem c_J1_charAt_3b067 (l : Launch) (G : KG) (i : Nat) (p : Int) (hi : i < 4)(hp : 0 ≤ p ∧ p < (wl i : Int)) : Ct l G yJ1_charAt_3b067 wsJ1_charAt_3b067 (rmD 2 0 0) [.ref (g_sv G i), .int (iI p)] [] (fun u : Unit => True) (fun u : Unit => some (.int (iI (wc i p.toNat)))) (fun u : Unit => []) := by
  refine Ct.of (cc := cJ1_charAt_3b067) (maxL := 2) (ret := (some .char)) (by decide +kernel) rfl (Nat.le_of_ble_eq_true rfl) ?_
  intro X C hG hL hnm hR
  subst hG
  subst hL
  have C : Cx X cJ1_charAt_3b067 RJ1 wsJ1_charAt_3b067 (some .char) 2 (rmD 2 0 0) := C
  have hr := wl_rng hi
  show K_ X 0 0 [] 0 [(0, .ref (g_sv (x_G X) i)), (1, .int (iI p))] []
  refine k_iload_n C 1 rfl dJ1_charAt_3b067_0 rfl ?_
  refine k_aload_n C 0 rfl dJ1_charAt_3b067_1 rfl ?_
  refine k_tlen C (C.wS (i := i) (by omega)).2.2 dJ1_charAt_3b067_2 ?_
  refine k_callS C (y := yJ0_checkIndex_df160) [.int (iI p), .int (iI (wl i : Int))] 2 rfl (c_J0_checkIndex_df160 (x_l X) (x_G X) p (wl i : Int) (by first | assumption | omega) (by first | assumption | omega)) gJ1_charAt_3b067_J0_checkIndex_df160 rfl ⟨by decide +kernel, by decide +kernel, by decide +kernel⟩ ⟨by decide, by decide⟩ [] (by decide) (wc := []) rfl [] rfl (Nat.le_of_ble_eq_true rfl) ⟨Nat.le_of_ble_eq_true rfl, Nat.le_of_ble_eq_true rfl⟩ dJ1_charAt_3b067_3 (fun _ => []) (Or.inl (fun _ => ⟨rfl, rfl⟩)) (fun u3 => []) (fun _ => rfl) 0 0 ⟨rfl, rfl⟩ (fun u3 hu3 => ?_)
  refine k_aload_n C 0 rfl dJ1_charAt_3b067_6 rfl ?_
  refine k_iload_n C 1 rfl dJ1_charAt_3b067_7 rfl ?_
  refine k_tb C (by omega) (by omega) dJ1_charAt_3b067_8 ?_
  refine k_nmI (fun v8 e8 => ?_)
  refine k_sipush C dJ1_charAt_3b067_9 (by decide) ?_
  refine k_iand C v8 (by rw [e8]; exact and255 (wc_rng hi (by omega))) dJ1_charAt_3b067_12 ?_
  refine k_i2c C v8 (by rw [e8]; exact i2c_id (by have := wc_rng hi (show p.toNat < wl i by omega); omega) (by have := wc_rng hi (show p.toNat < wl i by omega); omega)) dJ1_charAt_3b067_13 ?_
  rw [show v8 = wc i p.toNat from e8]
  exact k_nret C (ty := .char) hR (by exact nar_cv (by have := wc_rng hi (show p.toNat < wl i by omega); omega) (by have := wc_rng hi (show p.toNat < wl i by omega); omega)) (u := ()) rfl (by first | trivial | omega) rfl (Nat.le_of_ble_eq_true rfl) (Nat.le_of_ble_eq_true rfl) dJ1_charAt_3b067_14
set_option maxHeartbeats 4000000 in
set_option maxRecDepth 100000 in
theorem c_J0_charAt_5068e (l : Launch) (G : KG) (i : Nat) (p : Int) (hi : i < 4)(hp : 0 ≤ p ∧ p < (wl i : Int)) : Ct l G yJ0_charAt_5068e wsJ0_charAt_5068e (rmD 3 0 0) [.ref (g_sk G i), .int (iI p)] [] (fun u : Unit => True) (fun u : Unit => some (.int (iI (wc i p.toNat)))) (fun u : Unit => []) := by
  refine Ct.of (cc := cJ0_charAt_5068e) (maxL := 2) (ret := (some .char)) (by decide +kernel) rfl (Nat.le_of_ble_eq_true rfl) ?_
  intro X C hG hL hnm hR
  subst hG
  subst hL
  have C : Cx X cJ0_charAt_5068e RJ0 wsJ0_charAt_5068e (some .char) 2 (rmD 3 0 0) := C
  have hr := wl_rng hi
  show K_ X 0 0 [] 0 [(0, .ref (g_sk (x_G X) i)), (1, .int (iI p))] []
  refine k_aload_n C 0 rfl dJ0_charAt_5068e_0 rfl ?_
  refine k_callVs C (y := yJ0_isLatin1_aae02) [] 0 rfl (by omega) (c_J0_isLatin1_aae02 (x_l X) (x_G X) i (by first | assumption | omega)) gJ0_charAt_5068e_J0_isLatin1_aae02 rfl ⟨rfl, by decide +kernel, by decide +kernel, by decide +kernel⟩ ⟨by decide, by decide⟩ [] rfl (Nat.le_of_ble_eq_true rfl) ⟨Nat.le_of_ble_eq_true rfl, Nat.le_of_ble_eq_true rfl⟩ dJ0_charAt_5068e_1 (fun _ => rfl) (fun u1 => [.int (iI 1)]) (fun _ => rfl) 0 0 ⟨rfl, rfl⟩ (fun u1 hu1 => ?_)
  refine k_if_eq C 16 (⟨by omega, by omega⟩) dJ0_charAt_5068e_4 (by decide) (fun c4 => ?_) (fun c4 => ?_)
  · exfalso; omega
  · skip
    refine k_aload_n C 0 rfl dJ0_charAt_5068e_7 rfl ?_
    refine k_getO2 C (C.wS (i := i) (by omega)).2.1 1 rfl dJ0_charAt_5068e_8 ?_
    refine k_iload_n C 1 rfl dJ0_charAt_5068e_11 rfl ?_
    refine k_callS C (y := yJ1_charAt_3b067) [.ref (g_sv (x_G X) i), .int (iI p)] 2 rfl (c_J1_charAt_3b067 (x_l X) (x_G X) i p (by first | assumption | omega) (by first | assumption | omega)) gJ0_charAt_5068e_J1_charAt_3b067 rfl ⟨by decide +kernel, by decide +kernel, by decide +kernel⟩ ⟨by decide, by decide⟩ [] (by decide) (wc := []) rfl [] rfl (Nat.le_of_ble_eq_true rfl) ⟨Nat.le_of_ble_eq_true rfl, Nat.le_of_ble_eq_true rfl⟩ dJ0_charAt_5068e_12 (fun _ => []) (Or.inl (fun _ => ⟨rfl, rfl⟩)) (fun u12 => [.int (iI (wc i p.toNat))]) (fun _ => rfl) 0 0 ⟨rfl, rfl⟩ (fun u12 hu12 => ?_)
    exact k_nret C (ty := .char) hR (by exact nar_cv (by have := wc_rng hi (show p.toNat < wl i by omega); omega) (by have := wc_rng hi (show p.toNat < wl i by omega); omega)) (u := ()) rfl (by first | trivial | omega) rfl (Nat.le_of_ble_eq_true rfl) (Nat.le_of_ble_eq_true rfl) dJ0_charAt_5068e_15
