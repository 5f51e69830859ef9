theorem in_X1_ofRank_X1 : ∀ w ∈ wsX10, w ∈ wsX1_ofRank := by decide +kernel
set_option maxHeartbeats 4000000 in
set_option maxRecDepth 100000 in
theorem c_X1_ofRank (l : Launch) (G : KG) (pr rw : Nat) (k0 : Int) (K : Nat) (fw : Nat → Int) (hk : k0 = (K : Int)) (hK : 1 ≤ K ∧ K ≤ 9592) (hr : RowOK fw) : Ct l G yX1_ofRank wsX1_ofRank (rmD 2 0 0) [.ref pr, .int (iI k0)] [(pr, .inr (1, [.ref rw])), (rw, .inl (g_J G, 782, .inr (.inl (aL fw))))] (fun u : Int => ∃ p : Nat, u = (p : Int) ∧ isP p = true ∧ ct isP p = K ∧ p ≤ 99999) (fun u : Int => some (.int (iI u))) (fun u : Int => [(pr, .inr (1, [.ref rw])), (rw, .inl (g_J G, 782, .inr (.inl (aL fw))))]) := by
  refine Ct.of (cc := cX1_ofRank) (maxL := 7) (ret := (some .int)) (by decide +kernel) rfl (Nat.le_of_ble_eq_true rfl) ?_
  intro X C hG hL hnm hR
  subst hG
  subst hL
  have C : Cx X cX1_ofRank RX1 wsX1_ofRank (some .int) 7 (rmD 2 0 0) := C
  show K_ X 0 0 [(pr, .inr (1, [.ref rw])), (rw, .inl (g_J (x_G X), 782, .inr (.inl (aL fw))))] 0 [(0, .ref pr), (1, .int (iI k0))] []
  refine k_iload_n C 1 rfl dX1_ofRank_0 rfl ?_
  refine k_iconst C dX1_ofRank_1 ?_
  refine k_isub C dX1_ofRank_2 ?_
  refine k_nmI (fun v2 e2 => ?_)
  refine k_istore_n C (lo' := [(2, .int (iI v2)), (0, .ref pr), (1, .int (iI k0))]) dX1_ofRank_3 rfl (by decide) rfl ?_
  refine k_iload_n C 0 rfl dX1_ofRank_4 rfl ?_
  refine k_iconst C dX1_ofRank_5 ?_
  refine k_icmp_ge C 11 (⟨by omega, by omega⟩) (⟨by omega, by omega⟩) dX1_ofRank_6 (by decide) (fun c6 => ?_) (fun c6 => ?_)
  · skip
    refine k_iconst C dX1_ofRank_11 ?_
    refine k_istore_n C (lo' := [(3, .int (iI 0)), (2, .int (iI v2)), (0, .ref pr), (1, .int (iI k0))]) dX1_ofRank_12 rfl (by decide) rfl ?_
    have L13 : ∀ (nf : Nat) (mo : Int) (i : Int), (0 ≤ i ∧ i ≤ 782 ∧ 1 ≤ mo ∧ mo + (ce (fun e => isP (od e)) (64 * i.toNat) : Int) = (K : Int) - 1) → (782 - i).toNat < nf → K_ X 0 0 [(pr, .inr (1, [.ref rw])), (rw, .inl (g_J (x_G X), 782, .inr (.inl (aL fw))))] 13 [(3, .int (iI i)), (2, .int (iI mo)), (0, .ref pr), (1, .int (iI k0))] [] := by
      intro nf
      induction nf with
      | zero => intro mo i hI hm; exact absurd hm (Nat.not_lt_zero _)
      | succ nf ih13 =>
        intro mo i hI13 hm13
        obtain ⟨i1, i2, i3, i4⟩ := hI13
        refine k_iload_n C 0 rfl dX1_ofRank_13 rfl ?_
        refine k_sipush C dX1_ofRank_14 (by decide) ?_
        refine k_icmp_ge C 79 (⟨by omega, by omega⟩) (⟨by omega, by omega⟩) dX1_ofRank_17 (by decide) (fun c17 => ?_) (fun c17 => ?_)
        · skip
          refine k_iconst C dX1_ofRank_79 ?_
          exact k_iret C hR (u := (-1)) rfl (by exfalso; have e : 64 * i.toNat = 50048 := (by omega); rw [e] at i4; have := total; omega) rfl (Nat.le_of_ble_eq_true rfl) (Nat.le_of_ble_eq_true rfl) dX1_ofRank_80
        · skip
          refine k_aload_n C 2 rfl dX1_ofRank_20 rfl ?_
          refine k_get C (Cn := RX1) (T := TX1) (N := 1) (ci := 1) (ref := "StruckCounts$Primes") in_X1_ofRank_X1 0 rfl rfl 0 (by decide) 1 rfl rfl (v := .ref rw) rfl dX1_ofRank_21 ?_
          refine k_iload_n C 0 rfl dX1_ofRank_24 rfl ?_
          refine k_lald C (f := fw) 1 rfl (⟨by omega, by omega⟩) (by decide) dX1_ofRank_25 ?_
          refine k_nmL (fun v25 e25 => ?_)
          have h25 : v25 = (wd i.toNat : Int) := by rw [e25]; exact hr _ (by omega)
          refine k_lstore C (lo' := [(4, .long (jL v25)), (3, .int (iI i)), (2, .int (iI mo)), (0, .ref pr), (1, .int (iI k0))]) dX1_ofRank_26 (by decide) rfl ?_
          refine k_lload C 0 rfl dX1_ofRank_28 ?_
          refine k_callS C (y := yJ13_bitCount_95d88) [.long (jL v25)] 1 rfl (c_J13_bitCount_95d88 (x_l X) (x_G X) v25 (wd i.toNat) (by assumption) (wd_lt _)) gX1_ofRank_J13_bitCount_95d88 rfl ⟨by decide +kernel, by decide +kernel, by decide +kernel⟩ ⟨by decide, by decide⟩ [] (by decide) (wc := []) rfl [] rfl (Nat.le_of_ble_eq_true rfl) ⟨Nat.le_of_ble_eq_true rfl, Nat.le_of_ble_eq_true rfl⟩ dX1_ofRank_30 (fun _ => [(pr, .inr (1, [.ref rw])), (rw, .inl (g_J (x_G X), 782, .inr (.inl (aL fw))))]) (Or.inl (fun _ => ⟨rfl, rfl⟩)) (fun u30 => [.int (iI u30)]) (fun _ => rfl) 0 0 ⟨rfl, rfl⟩ (fun u30 hu30 => ?_)
          have hpc := popc_le (wd i.toNat)
          refine k_istore C (lo' := [(6, .int (iI u30)), (4, .long (jL v25)), (3, .int (iI i)), (2, .int (iI mo)), (0, .ref pr), (1, .int (iI k0))]) dX1_ofRank_33 (by decide) rfl ?_
          refine k_iload_n C 3 rfl dX1_ofRank_35 rfl ?_
          refine k_iload C 0 rfl dX1_ofRank_36 ?_
          refine k_icmp_gt C 68 (⟨by omega, by omega⟩) (⟨by omega, by omega⟩) dX1_ofRank_38 (by decide) (fun c38 => ?_) (fun c38 => ?_)
          · skip
            refine k_iload_n C 3 rfl dX1_ofRank_68 rfl ?_
            refine k_iload C 0 rfl dX1_ofRank_69 ?_
            refine k_isub C dX1_ofRank_71 ?_
            refine k_nmI (fun v71 e71 => ?_)
            refine k_istore_n C (lo' := [(2, .int (iI v71)), (6, .int (iI u30)), (4, .long (jL v25)), (3, .int (iI i)), (0, .ref pr), (1, .int (iI k0))]) dX1_ofRank_72 rfl (by decide) rfl ?_
            obtain ⟨v73, e73⟩ : ∃ y : Int, y = i + 1 := ⟨_, rfl⟩
            refine k_iinc C (lo' := [(3, .int (iI v73)), (2, .int (iI v71)), (6, .int (iI u30)), (4, .long (jL v25)), (0, .ref pr), (1, .int (iI k0))]) 3 rfl dX1_ofRank_73 (by decide) v73 e73 rfl ?_
            refine k_goto C 13 dX1_ofRank_76 (by decide) ?_
            refine k_lo (lo' := [(3, .int (iI v73)), (2, .int (iI v71)), (0, .ref pr), (1, .int (iI k0))]) [0, 1, 4, 5] rfl ?_
            exact ih13 v71 v73 (⟨by omega, by omega, by omega, by rw [show 64 * v73.toNat = 64 * i.toNat + 64 by omega, wd_ce (Nat.le_refl 64)]; have e : ce (fun b => (wd i.toNat).testBit b) 64 = popc (wd i.toNat) := rfl; omega⟩) (by omega)
          · skip
            have L41 : ∀ (nf : Nat) (w : Nat) (cc0 : Nat) (m2 : Int) (wl : Int), (wl = (w : Int) ∧ w < 2 ^ 64 ∧ Cut (wd i.toNat) w cc0 ∧ cc0 ≤ 64 ∧ 1 ≤ m2 ∧ m2 + (ce (fun b => (wd i.toNat).testBit b) cc0 : Int) = mo) → m2.toNat < nf → K_ X 0 0 [(pr, .inr (1, [.ref rw])), (rw, .inl (g_J (x_G X), 782, .inr (.inl (aL fw))))] 41 [(6, .int (iI u30)), (4, .long (jL wl)), (3, .int (iI i)), (2, .int (iI m2)), (0, .ref pr), (1, .int (iI k0))] [] := by
              intro nf
              induction nf with
              | zero => intro w cc0 m2 wl hI hm; exact absurd hm (Nat.not_lt_zero _)
              | succ nf ih41 =>
                intro w cc0 m2 wl hI41 hm41
                obtain ⟨j1, j2, j3, j4, j5, j6⟩ := hI41
                have hcp := Cut_popc j3 j4
                have hpw : popc w ≠ 0 := by omega
                obtain ⟨y, y1, y2, y3⟩ := low_ex hpw
                obtain ⟨z1, z2, z3, z4⟩ := Cut_step j3 y2 y3 y1
                refine k_iload_n C 3 rfl dX1_ofRank_41 rfl ?_
                refine k_iconst C dX1_ofRank_42 ?_
                refine k_icmp_le C 61 (⟨by omega, by omega⟩) (⟨by omega, by omega⟩) dX1_ofRank_43 (by decide) (fun c43 => ?_) (fun c43 => ?_)
                · skip
                  refine k_iload_n C 2 rfl dX1_ofRank_61 rfl ?_
                  refine k_lload C 1 rfl dX1_ofRank_62 ?_
                  refine k_callS C (y := yX1_lowestOf) [.int (iI i), .long (jL wl)] 2 rfl (c_X1_lowestOf (x_l X) (x_G X) i wl w (by omega) (by assumption) (by assumption) (by omega)) gX1_ofRank_X1_lowestOf rfl ⟨by decide +kernel, by decide +kernel, by decide +kernel⟩ ⟨by decide, by decide⟩ [] (by decide) (wc := []) rfl [] rfl (Nat.le_of_ble_eq_true rfl) ⟨Nat.le_of_ble_eq_true rfl, Nat.le_of_ble_eq_true rfl⟩ dX1_ofRank_64 (fun _ => [(pr, .inr (1, [.ref rw])), (rw, .inl (g_J (x_G X), 782, .inr (.inl (aL fw))))]) (Or.inl (fun _ => ⟨rfl, rfl⟩)) (fun u64 => [.int (iI u64)]) (fun _ => rfl) 0 0 ⟨rfl, rfl⟩ (fun u64 hu64 => ?_)
                  exact k_iret C hR (u := u64) rfl (by
          obtain ⟨b, b1, b2, b3, b4⟩ := hu64
          obtain ⟨z1, z2, z3, z4⟩ := Cut_step j3 b2 b3 b1
          have hp : isP (od (64 * i.toNat + b)) = true := by rw [← wd_tb b1]; exact z3
          have h1 : 1 ≤ 64 * i.toNat + b := by
            rcases Nat.eq_zero_or_pos (64 * i.toNat + b) with z | z
            · rw [z] at hp; exact absurd hp (by decide)
            · exact z
          have hrk := odd_rank h1 (by omega)
          rw [Nat.add_assoc, wd_ce (show b + 1 ≤ 64 by omega)] at hrk
          have hK2 : ct isP (od (64 * i.toNat + b)) = K := by omega
          exact ⟨_, b4, hp, hK2, rank_le hp hK2 hK.2⟩) rfl (Nat.le_of_ble_eq_true rfl) (Nat.le_of_ble_eq_true rfl) dX1_ofRank_67
                · skip
                  refine k_lload C 1 rfl dX1_ofRank_46 ?_
                  refine k_lload C 1 rfl dX1_ofRank_48 ?_
                  refine k_lconst C dX1_ofRank_50 1 (by decide) ?_
                  refine k_lsub C dX1_ofRank_51 ?_
                  refine k_nmL (fun v51 e51 => ?_)
                  refine k_land C ((w &&& (w - 1) : Nat) : Int) (by rw [e51, j1]; exact jl_clear (popc_pos hpw)) dX1_ofRank_52 ?_
                  refine k_nmL (fun v52 e52 => ?_)
                  refine k_lstore C (lo' := [(4, .long (jL v52)), (6, .int (iI u30)), (3, .int (iI i)), (2, .int (iI m2)), (0, .ref pr), (1, .int (iI k0))]) dX1_ofRank_53 (by decide) rfl ?_
                  obtain ⟨v55, e55⟩ : ∃ y : Int, y = m2 + (-1) := ⟨_, rfl⟩
                  refine k_iinc C (lo' := [(2, .int (iI v55)), (4, .long (jL v52)), (6, .int (iI u30)), (3, .int (iI i)), (0, .ref pr), (1, .int (iI k0))]) 3 rfl dX1_ofRank_55 (by decide) v55 e55 rfl ?_
                  refine k_goto C 41 dX1_ofRank_58 (by decide) ?_
                  refine k_lo (lo' := [(6, .int (iI u30)), (4, .long (jL v52)), (3, .int (iI i)), (2, .int (iI v55)), (0, .ref pr), (1, .int (iI k0))]) [2, 1, 3, 0, 4, 5] rfl ?_
                  exact ih41 (w &&& (w - 1)) (y + 1) v55 v52 (⟨by assumption, Nat.lt_of_le_of_lt Nat.and_le_left j2, z1, by omega, by omega, by omega⟩) (by omega)
            exact L41 _ (wd i.toNat) 0 mo v25 (⟨by omega, wd_lt _, Cut_0 _, by omega, by omega, by show mo + ((0 : Nat) : Int) = mo; omega⟩) (Nat.lt_succ_self _)
    exact L13 _ v2 0 (⟨by omega, by omega, by omega, by show v2 + ((0 : Nat) : Int) = _; omega⟩) (Nat.lt_succ_self _)
  · skip
    refine k_iconst C dX1_ofRank_9 ?_
    exact k_iret C hR (u := 2) rfl (⟨2, rfl, by decide, by rw [ct2]; omega, by omega⟩) rfl (Nat.le_of_ble_eq_true rfl) (Nat.le_of_ble_eq_true rfl) dX1_ofRank_10
