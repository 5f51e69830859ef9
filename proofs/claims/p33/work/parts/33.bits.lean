theorem mB85 : ((mB 85 8 : Nat) : Int) = 6148914691236517205 := by decide
theorem mB51 : ((mB 51 8 : Nat) : Int) = 3689348814741910323 := by decide
theorem mB15 : ((mB 15 8 : Nat) : Int) = 1085102592571150095 := by decide
set_option maxHeartbeats 4000000 in
set_option maxRecDepth 100000 in
theorem c_J13_bitCount_95d88 (l : Launch) (G : KG) (x : Int) (w : Nat) (hx : x = (w : Int)) (hw : w < 2 ^ 64) : Ct l G yJ13_bitCount_95d88 wsJ13_bitCount_95d88 (rmD 0 0 0) [.long (jL x)] [] (fun u : Int => u = (popc w : Int)) (fun u : Int => some (.int (iI u))) (fun u : Int => []) := by
  refine Ct.of (cc := cJ13_bitCount_95d88) (maxL := 2) (ret := (some .int)) (by decide +kernel) rfl (Nat.le_of_ble_eq_true rfl) ?_
  intro X C hG hL hnm hR
  subst hG
  subst hL
  have C : Cx X cJ13_bitCount_95d88 RJ13 wsJ13_bitCount_95d88 (some .int) 2 (rmD 0 0 0) := C
  have q1 : (w / 2 &&& mB 85 8) ≤ w := Nat.le_trans Nat.and_le_left (Nat.div_le_self _ _)
  have q2 : (s1 w 8 &&& mB 51 8) ≤ mB 51 8 := Nat.and_le_right
  have q3 : (s1 w 8 / 4 &&& mB 51 8) ≤ mB 51 8 := Nat.and_le_right
  have q4 : s3 (s2 (s1 w 8) 8) 8 ≤ mB 15 8 := Nat.and_le_right
  have m1 : mB 51 8 = 3689348814741910323 := by decide
  have m2 : mB 15 8 = 1085102592571150095 := by decide
  have q5 := s1_le w
  have q6 : s2 (s1 w 8) 8 = (s1 w 8 &&& mB 51 8) + (s1 w 8 / 4 &&& mB 51 8) := rfl
  show K_ X 0 0 [] 0 [(0, .long (jL x))] []
  refine k_lload_n C 0 rfl dJ13_bitCount_95d88_0 rfl ?_
  refine k_lload_n C 0 rfl dJ13_bitCount_95d88_1 rfl ?_
  refine k_iconst C dJ13_bitCount_95d88_2 ?_
  refine k_lushr C ((w / 2 : Nat) : Int) (by rw [hx]; exact jl_shr (k := 1) hw (by decide) (by decide)) dJ13_bitCount_95d88_3 ?_
  refine k_nmL (fun v3 e3 => ?_)
  refine k_ldc2 C 6148914691236517205 1 rfl (by decide) dJ13_bitCount_95d88_4 ?_
  refine k_land C ((w / 2 &&& mB 85 8 : Nat) : Int) (by rw [e3, ← mB85]; exact jl_and _ _) dJ13_bitCount_95d88_7 ?_
  refine k_nmL (fun v7 e7 => ?_)
  refine k_lsub C dJ13_bitCount_95d88_8 ?_
  refine k_nmL (fun v8 e8 => ?_)
  have h8 : v8 = ((s1 w 8 : Nat) : Int) := by rw [e8, hx, e7]; unfold s1; omega
  refine k_lstore_n C (lo' := [(0, .long (jL v8))]) dJ13_bitCount_95d88_9 rfl (by decide) rfl ?_
  refine k_lload_n C 0 rfl dJ13_bitCount_95d88_10 rfl ?_
  refine k_ldc2 C 3689348814741910323 2 rfl (by decide) dJ13_bitCount_95d88_11 ?_
  refine k_land C ((s1 w 8 &&& mB 51 8 : Nat) : Int) (by rw [h8, ← mB51]; exact jl_and _ _) dJ13_bitCount_95d88_14 ?_
  refine k_nmL (fun v14 e14 => ?_)
  refine k_lload_n C 0 rfl dJ13_bitCount_95d88_15 rfl ?_
  refine k_iconst C dJ13_bitCount_95d88_16 ?_
  refine k_lushr C ((s1 w 8 / 4 : Nat) : Int) (by rw [h8]; exact jl_shr (k := 2) (by omega) (by decide) (by decide)) dJ13_bitCount_95d88_17 ?_
  refine k_nmL (fun v17 e17 => ?_)
  refine k_ldc2 C 3689348814741910323 2 rfl (by decide) dJ13_bitCount_95d88_18 ?_
  refine k_land C ((s1 w 8 / 4 &&& mB 51 8 : Nat) : Int) (by rw [e17, ← mB51]; exact jl_and _ _) dJ13_bitCount_95d88_21 ?_
  refine k_nmL (fun v21 e21 => ?_)
  refine k_ladd C dJ13_bitCount_95d88_22 ?_
  refine k_nmL (fun v22 e22 => ?_)
  have h22 : v22 = ((s2 (s1 w 8) 8 : Nat) : Int) := by rw [e22, e14, e21]; unfold s2; omega
  refine k_lstore_n C (lo' := [(0, .long (jL v22))]) dJ13_bitCount_95d88_23 rfl (by decide) rfl ?_
  refine k_lload_n C 0 rfl dJ13_bitCount_95d88_24 rfl ?_
  refine k_lload_n C 0 rfl dJ13_bitCount_95d88_25 rfl ?_
  refine k_iconst C dJ13_bitCount_95d88_26 ?_
  refine k_lushr C ((s2 (s1 w 8) 8 / 16 : Nat) : Int) (by rw [h22]; exact jl_shr (k := 4) (by omega) (by decide) (by decide)) dJ13_bitCount_95d88_27 ?_
  refine k_nmL (fun v27 e27 => ?_)
  refine k_ladd C dJ13_bitCount_95d88_28 ?_
  refine k_nmL (fun v28 e28 => ?_)
  have h28 : v28 = ((s2 (s1 w 8) 8 + s2 (s1 w 8) 8 / 16 : Nat) : Int) := by rw [e28, h22, e27]; omega
  refine k_ldc2 C 1085102592571150095 3 rfl (by decide) dJ13_bitCount_95d88_29 ?_
  refine k_land C ((s3 (s2 (s1 w 8) 8) 8 : Nat) : Int) (by rw [h28, ← mB15]; exact jl_and _ _) dJ13_bitCount_95d88_32 ?_
  refine k_nmL (fun v32 e32 => ?_)
  refine k_lstore_n C (lo' := [(0, .long (jL v32))]) dJ13_bitCount_95d88_33 rfl (by decide) rfl ?_
  refine k_lload_n C 0 rfl dJ13_bitCount_95d88_34 rfl ?_
  refine k_lload_n C 0 rfl dJ13_bitCount_95d88_35 rfl ?_
  refine k_bipush C dJ13_bitCount_95d88_36 (by decide) ?_
  refine k_lushr C ((s3 (s2 (s1 w 8) 8) 8 / 256 : Nat) : Int) (by rw [e32]; exact jl_shr (k := 8) (by omega) (by decide) (by decide)) dJ13_bitCount_95d88_38 ?_
  refine k_nmL (fun v38 e38 => ?_)
  refine k_ladd C dJ13_bitCount_95d88_39 ?_
  refine k_nmL (fun v39 e39 => ?_)
  have h39 : v39 = ((s3 (s2 (s1 w 8) 8) 8 + s3 (s2 (s1 w 8) 8) 8 / 256 : Nat) : Int) := by rw [e39, e32, e38]; omega
  refine k_lstore_n C (lo' := [(0, .long (jL v39))]) dJ13_bitCount_95d88_40 rfl (by decide) rfl ?_
  refine k_lload_n C 0 rfl dJ13_bitCount_95d88_41 rfl ?_
  refine k_lload_n C 0 rfl dJ13_bitCount_95d88_42 rfl ?_
  refine k_bipush C dJ13_bitCount_95d88_43 (by decide) ?_
  refine k_lushr C (((s3 (s2 (s1 w 8) 8) 8 + s3 (s2 (s1 w 8) 8) 8 / 256) / 65536 : Nat) : Int) (by rw [h39]; exact jl_shr (k := 16) (by omega) (by decide) (by decide)) dJ13_bitCount_95d88_45 ?_
  refine k_nmL (fun v45 e45 => ?_)
  refine k_ladd C dJ13_bitCount_95d88_46 ?_
  refine k_nmL (fun v46 e46 => ?_)
  have h46 : v46 = (((s3 (s2 (s1 w 8) 8) 8 + s3 (s2 (s1 w 8) 8) 8 / 256) + (s3 (s2 (s1 w 8) 8) 8 + s3 (s2 (s1 w 8) 8) 8 / 256) / 65536 : Nat) : Int) := by rw [e46, h39, e45]; omega
  refine k_lstore_n C (lo' := [(0, .long (jL v46))]) dJ13_bitCount_95d88_47 rfl (by decide) rfl ?_
  refine k_lload_n C 0 rfl dJ13_bitCount_95d88_48 rfl ?_
  refine k_lload_n C 0 rfl dJ13_bitCount_95d88_49 rfl ?_
  refine k_bipush C dJ13_bitCount_95d88_50 (by decide) ?_
  refine k_lushr C ((((s3 (s2 (s1 w 8) 8) 8 + s3 (s2 (s1 w 8) 8) 8 / 256) + (s3 (s2 (s1 w 8) 8) 8 + s3 (s2 (s1 w 8) 8) 8 / 256) / 65536) / 4294967296 : Nat) : Int) (by rw [h46]; exact jl_shr (k := 32) (by omega) (by decide) (by decide)) dJ13_bitCount_95d88_52 ?_
  refine k_nmL (fun v52 e52 => ?_)
  refine k_ladd C dJ13_bitCount_95d88_53 ?_
  refine k_nmL (fun v53 e53 => ?_)
  refine k_lstore_n C (lo' := [(0, .long (jL v53))]) dJ13_bitCount_95d88_54 rfl (by decide) rfl ?_
  refine k_lload_n C 0 rfl dJ13_bitCount_95d88_55 rfl ?_
  refine k_l2i C dJ13_bitCount_95d88_56 ?_
  refine k_bipush C dJ13_bitCount_95d88_57 (by decide) ?_
  refine k_iand C (v53 % 128) (iI_mask v53 7 (by decide)) dJ13_bitCount_95d88_59 ?_
  refine k_nmI (fun v59 e59 => ?_)
  exact k_iret C hR (u := v59) rfl (by have := swar w; unfold fold3 at this; omega) rfl (Nat.le_of_ble_eq_true rfl) (Nat.le_of_ble_eq_true rfl) dJ13_bitCount_95d88_60
