set_option maxHeartbeats 4000000 in
set_option maxRecDepth 100000 in
theorem c_L_cell (l : Launch) (G : KG) (i : Int) (hi : 0 ≤ i ∧ i ≤ 1000) : Ct l G yL_cell wsL_cell (rmD 0 0 0) [.ref (g_tg G), .int (iI i)] [] (fun u : Int => 0 ≤ u ∧ u ≤ 2147483647) (fun u : Int => some (.int (iI u))) (fun u : Int => []) := by
  refine Ct.of (cc := cL_cell) (maxL := 2) (ret := (some .int)) (by decide +kernel) rfl (Nat.le_of_ble_eq_true rfl) ?_
  intro X C hG hL hnm hR
  subst hG
  subst hL
  have C : Cx X cL_cell RL wsL_cell (some .int) 2 (rmD 0 0 0) := C
  have hL := C.S.2.1.1
  show K_ X 0 0 [] 0 [(0, .ref (g_tg (x_G X))), (1, .int (iI i))] []
  refine k_iload_n C 1 rfl dL_cell_0 rfl ?_
  refine k_aload_n C 0 rfl dL_cell_1 rfl ?_
  refine k_tlen C C.S.2.1.2 dL_cell_2 ?_
  refine k_icmp_ge C 12 (⟨by omega, by omega⟩) (⟨by omega, by omega⟩) dL_cell_3 (by decide) (fun c3 => ?_) (fun c3 => ?_)
  · skip
    refine k_ldc C 41843 1 rfl (by decide) dL_cell_12 ?_
    refine k_iload_n C 1 rfl dL_cell_14 rfl ?_
    refine k_sipush C dL_cell_15 (by decide) ?_
    refine k_irem C ⟨by omega, by omega⟩ ⟨by omega, by omega⟩ dL_cell_18 ?_
    refine k_nmI (fun v18 e18 => ?_)
    refine k_imul C dL_cell_19 ?_
    refine k_nmI (fun v19 e19 => ?_)
    refine k_sipush C dL_cell_20 (by decide) ?_
    refine k_iadd C dL_cell_23 ?_
    refine k_nmI (fun v23 e23 => ?_)
    refine k_ldc C 2147483647 2 rfl (by decide) dL_cell_24 ?_
    refine k_iand C (v23 % 2147483648) (iI_and31b _) dL_cell_26 ?_
    refine k_nmI (fun v26 e26 => ?_)
    exact k_iret C hR (u := v26) rfl (by omega) rfl (Nat.le_of_ble_eq_true rfl) (Nat.le_of_ble_eq_true rfl) dL_cell_27
  · skip
    refine k_aload_n C 0 rfl dL_cell_6 rfl ?_
    refine k_iload_n C 1 rfl dL_cell_7 rfl ?_
    refine k_ti C C.S.2.1.2 (⟨by omega, by omega⟩) (by omega) dL_cell_8 ?_
    refine k_nmI (fun v8 e8 => ?_)
    refine k_goto C 24 dL_cell_9 (by decide) ?_
    refine k_ldc C 2147483647 2 rfl (by decide) dL_cell_24 ?_
    refine k_iand C (v8 % 2147483648) (iI_and31b _) dL_cell_26 ?_
    refine k_nmI (fun v26 e26 => ?_)
    exact k_iret C hR (u := v26) rfl (by omega) rfl (Nat.le_of_ble_eq_true rfl) (Nat.le_of_ble_eq_true rfl) dL_cell_27
