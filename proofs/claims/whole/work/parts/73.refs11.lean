theorem ct_y {P : Nat → Bool} {j : Nat} (hj : 1 ≤ j) (h : P j = true) : ct P j = ct P (j - 1) + 1 := by
  rcases j with _ | j
  · omega
  · show ct P j + (if P (j + 1) = true then 1 else 0) = ct P j + 1
    rw [if_pos h]
theorem ct_n {P : Nat → Bool} {j : Nat} (h : ¬ P j = true) : ct P j = ct P (j - 1) := by
  rcases j with _ | j
  · rfl
  · show ct P j + (if P (j + 1) = true then 1 else 0) = ct P j
    rw [if_neg h]; rfl
theorem sm_y {f : Nat → Nat} {j : Nat} (hj : 1 ≤ j) : sm f j = sm f (j - 1) + f j := by
  rcases j with _ | j
  · omega
  · rfl
theorem ct_y1 {P : Nat → Bool} {j : Nat} (h : P (j + 1) = true) : ct P (j + 1) = ct P j + 1 := ct_y (by omega) h
theorem ct_n1 {P : Nat → Bool} {j : Nat} (h : ¬ P (j + 1) = true) : ct P (j + 1) = ct P j := ct_n h
theorem sm_y1 {f : Nat → Nat} {j : Nat} : sm f (j + 1) = sm f j + f (j + 1) := rfl
theorem isP_lo {x : Nat} (h : x ≤ 1) : ¬ isP x = true := fun e => by have := isP_2 e; omega
theorem ct_isP_lo {x : Nat} (h : x ≤ 1) : ct isP x = 0 := by
  rcases (show x = 0 ∨ x = 1 by omega) with rfl | rfl
  · rfl
  · decide
def spF (y : Nat) : Nat := if isP y then y else 0
theorem sp_lo {x : Nat} (h : x ≤ 1) : sm spF x = 0 := by
  rcases (show x = 0 ∨ x = 1 by omega) with rfl | rfl
  · rfl
  · decide
def brF (r : Nat) (y : Nat) : Bool := isP y && y % 4 == r
theorem br_lo {r x : Nat} (h : x ≤ 1) : ct (brF r) x = 0 := by
  rcases (show x = 0 ∨ x = 1 by omega) with rfl | rfl
  · rfl
  · rw [ct_n]
    · rfl
    · intro e; unfold brF at e; rw [Bool.and_eq_true] at e; exact isP_lo (by omega) e.1
theorem br_y {r y : Nat} (h1 : isP y = true) (h2 : y % 4 = r) : brF r y = true := by
  unfold brF; rw [h1, h2]; simp
theorem br_n {r y : Nat} (h : ¬ (isP y = true ∧ y % 4 = r)) : ¬ brF r y = true := fun e => by
  unfold brF at e; rw [Bool.and_eq_true] at e; exact h ⟨e.1, by simpa using e.2⟩
def wlF (p : Nat) (y : Nat) : Bool := decide (2 ≤ y) && lf y == p
theorem wl_lo {p x : Nat} (h : x ≤ 1) : ct (wlF p) x = 0 := by
  rcases (show x = 0 ∨ x = 1 by omega) with rfl | rfl <;> rfl
theorem wl_iff {p y : Nat} : wlF p y = true ↔ 2 ≤ y ∧ lf y = p := by unfold wlF; simp
def twF (y : Nat) : Bool := decide (4 ≤ y) && !isP y && isP (y / lf y)
theorem tw_iff {y : Nat} : twF y = true ↔ 4 ≤ y ∧ ¬ isP y = true ∧ isP (y / lf y) = true := by unfold twF; simp [and_assoc]
theorem tw_lo {x : Nat} (h : x ≤ 3) : ct twF x = 0 := by
  have : ∀ y, y ≤ 3 → ¬ twF y = true := fun y hy e => by have := (tw_iff.mp e).1; omega
  have key : ∀ y, y ≤ 3 → ct twF y = 0 := by
    intro y
    induction y with
    | zero => intro _; rfl
    | succ y ih => intro hy; rw [ct_n (this _ hy)]; exact ih (by omega)
  exact key x h

theorem in_X7_isPrime_X7 : ∀ w ∈ wsX70, w ∈ wsX7_isPrime := by decide +kernel
set_option maxHeartbeats 4000000 in
set_option maxRecDepth 100000 in
theorem c_X7_isPrime (l : Launch) (G : KG) (mo s sv tx fa ea go qu : Nat) (st ty th un om : Int) (x : Int) (fa1 : Nat → Int) (hx : 0 ≤ x ∧ x ≤ 99999) (hF : ∀ x : Nat, 2 ≤ x → x ≤ 99999 → fa1 x = (lf x : Int)) : Ct l G yX7_isPrime wsX7_isPrime (rmD 0 0 0) [.ref mo, .int (iI x)] [(mo, .inr (6, [.ref s, .int (iI st), .ref sv, .ref tx, .int (iI ty), .int (iI th), .ref fa, .ref ea, .ref go, .ref qu, .int (iI un), .int (iI om)])), (fa, .inl (g_I G, 100000, .inl (aI fa1)))] (fun u : Int => (u = 1 ∧ isP x.toNat = true) ∨ (u = 0 ∧ ¬ isP x.toNat = true)) (fun u : Int => some (.int (iI u))) (fun u : Int => [(mo, .inr (6, [.ref s, .int (iI st), .ref sv, .ref tx, .int (iI ty), .int (iI th), .ref fa, .ref ea, .ref go, .ref qu, .int (iI un), .int (iI om)])), (fa, .inl (g_I G, 100000, .inl (aI fa1)))]) := by
  refine Ct.of (cc := cX7_isPrime) (maxL := 2) (ret := (some .boolean)) (by decide +kernel) rfl (Nat.le_of_ble_eq_true rfl) ?_
  intro X C hG hL hnm hR
  subst hG
  subst hL
  have C : Cx X cX7_isPrime RX7 wsX7_isPrime (some .boolean) 2 (rmD 0 0 0) := C
  show K_ X 0 0 [(mo, .inr (6, [.ref s, .int (iI st), .ref sv, .ref tx, .int (iI ty), .int (iI th), .ref fa, .ref ea, .ref go, .ref qu, .int (iI un), .int (iI om)])), (fa, .inl (g_I (x_G X), 100000, .inl (aI fa1)))] 0 [(0, .ref mo), (1, .int (iI x))] []
  refine k_iload_n C 1 rfl dX7_isPrime_0 rfl ?_
  refine k_iconst C dX7_isPrime_1 ?_
  refine k_icmp_le C 19 (⟨by omega, by omega⟩) (⟨by omega, by omega⟩) dX7_isPrime_2 (by decide) (fun c2 => ?_) (fun c2 => ?_)
  · skip
    refine k_iconst C dX7_isPrime_19 ?_
    exact k_zret C hR (by omega) (u := 0) rfl (by first | exact Or.inr ⟨rfl, isP_lo (by omega)⟩ | exact Or.inr ⟨rfl, fun e => by have := (isP_iff.mp e).2; omega⟩) rfl (Nat.le_of_ble_eq_true rfl) (Nat.le_of_ble_eq_true rfl) dX7_isPrime_20
  · skip
    refine k_aload_n C 0 rfl dX7_isPrime_5 rfl ?_
    refine k_get C (Cn := RX7) (T := TX7) (N := 12) (ci := 6) (ref := "StruckCountsModel") in_X7_isPrime_X7 0 rfl rfl 6 (by decide) 1 rfl rfl (v := .ref fa) rfl dX7_isPrime_6 ?_
    refine k_iload_n C 1 rfl dX7_isPrime_9 rfl ?_
    refine k_iald C (f := fa1) 1 rfl (⟨by omega, by omega⟩) (by decide) dX7_isPrime_10 ?_
    refine k_nmI (fun v10 e10 => ?_)
    have h10 : v10 = (lf x.toNat : Int) := by rw [e10]; exact hF _ (by omega) (by omega)
    have hl10 := lf_le (x := x.toNat) (by omega)
    refine k_iload_n C 1 rfl dX7_isPrime_11 rfl ?_
    refine k_icmp_ne C 19 (⟨by omega, by omega⟩) (⟨by omega, by omega⟩) dX7_isPrime_12 (by decide) (fun c12 => ?_) (fun c12 => ?_)
    · skip
      refine k_iconst C dX7_isPrime_19 ?_
      exact k_zret C hR (by omega) (u := 0) rfl (by first | exact Or.inr ⟨rfl, isP_lo (by omega)⟩ | exact Or.inr ⟨rfl, fun e => by have := (isP_iff.mp e).2; omega⟩) rfl (Nat.le_of_ble_eq_true rfl) (Nat.le_of_ble_eq_true rfl) dX7_isPrime_20
    · skip
      refine k_iconst C dX7_isPrime_15 ?_
      refine k_goto C 20 dX7_isPrime_16 (by decide) ?_
      exact k_zret C hR (by omega) (u := 1) rfl (Or.inl ⟨rfl, isP_iff.mpr ⟨by omega, by omega⟩⟩) rfl (Nat.le_of_ble_eq_true rfl) (Nat.le_of_ble_eq_true rfl) dX7_isPrime_20
set_option maxHeartbeats 4000000 in
set_option maxRecDepth 100000 in
theorem c_X7_primes (l : Launch) (G : KG) (mo s sv tx fa ea go qu : Nat) (st ty th un om : Int) (x : Int) (fa1 : Nat → Int) (hx : -2147483648 ≤ x ∧ x < 2147483648) (hF : ∀ x : Nat, 2 ≤ x → x ≤ 99999 → fa1 x = (lf x : Int)) : Ct l G yX7_primes wsX7_primes (rmD 1 0 0) [.ref mo, .int (iI x)] [(mo, .inr (6, [.ref s, .int (iI st), .ref sv, .ref tx, .int (iI ty), .int (iI th), .ref fa, .ref ea, .ref go, .ref qu, .int (iI un), .int (iI om)])), (fa, .inl (g_I G, 100000, .inl (aI fa1)))] (fun u : Int × Int => ((0 ≤ x ∧ x ≤ 99999) ∧ u.1 = (ct isP x.toNat : Int) ∧ u.2 = 0) ∨ (¬ (0 ≤ x ∧ x ≤ 99999) ∧ u.2 = 1)) (fun u : Int × Int => some (.int (iI u.1))) (fun u : Int × Int => [(mo, .inr (6, [.ref s, .int (iI st), .ref sv, .ref tx, .int (iI ty), .int (iI u.2), .ref fa, .ref ea, .ref go, .ref qu, .int (iI un), .int (iI om)])), (fa, .inl (g_I G, 100000, .inl (aI fa1)))]) := by
  refine Ct.of (cc := cX7_primes) (maxL := 4) (ret := (some .int)) (by decide +kernel) rfl (Nat.le_of_ble_eq_true rfl) ?_
  intro X C hG hL hnm hR
  subst hG
  subst hL
  have C : Cx X cX7_primes RX7 wsX7_primes (some .int) 4 (rmD 1 0 0) := C
  show K_ X 0 0 [(mo, .inr (6, [.ref s, .int (iI st), .ref sv, .ref tx, .int (iI ty), .int (iI th), .ref fa, .ref ea, .ref go, .ref qu, .int (iI un), .int (iI om)])), (fa, .inl (g_I (x_G X), 100000, .inl (aI fa1)))] 0 [(0, .ref mo), (1, .int (iI x))] []
  refine k_aload_n C 0 rfl dX7_primes_0 rfl ?_
  refine k_iload_n C 1 rfl dX7_primes_1 rfl ?_
  refine k_iconst C dX7_primes_2 ?_
  refine k_ldc C 99999 1 rfl (by decide) dX7_primes_3 ?_
  refine k_callS C (y := yX7_in) [.int (iI x), .int (iI 0), .int (iI 99999)] 3 rfl (c_X7_in (x_l X) (x_G X) x 0 99999 (by omega) (by omega) (by omega)) gX7_primes_X7_in rfl ⟨by decide +kernel, by decide +kernel, by decide +kernel⟩ ⟨by decide, by decide⟩ [] (by decide) (wc := []) rfl [.ref mo] rfl (Nat.le_of_ble_eq_true rfl) ⟨Nat.le_of_ble_eq_true rfl, Nat.le_of_ble_eq_true rfl⟩ dX7_primes_5 (fun _ => [(mo, .inr (6, [.ref s, .int (iI st), .ref sv, .ref tx, .int (iI ty), .int (iI th), .ref fa, .ref ea, .ref go, .ref qu, .int (iI un), .int (iI om)])), (fa, .inl (g_I (x_G X), 100000, .inl (aI fa1)))]) (Or.inl (fun _ => ⟨rfl, rfl⟩)) (fun u5 => [.int (iI u5), .ref mo]) (fun _ => rfl) 0 0 ⟨rfl, rfl⟩ (fun u5 hu5 => ?_)
  refine k_iconst C dX7_primes_8 ?_
  refine k_callV C (y := yX7_goes) [.int (iI u5), .int (iI 1)] 2 rfl (c_X7_goes (x_l X) (x_G X) mo s sv tx fa ea go qu st ty th un om u5 1 (by omega) (by omega)) gX7_primes_X7_goes rfl ⟨rfl, by decide +kernel, by decide +kernel, by decide +kernel⟩ ⟨by decide, by decide⟩ 0 (fs := [.ref s, .int (iI st), .ref sv, .ref tx, .int (iI ty), .int (iI th), .ref fa, .ref ea, .ref go, .ref qu, .int (iI un), .int (iI om)]) rfl rfl rfl [0] (by decide) (wc := [(mo, .inr (6, [.ref s, .int (iI st), .ref sv, .ref tx, .int (iI ty), .int (iI th), .ref fa, .ref ea, .ref go, .ref qu, .int (iI un), .int (iI om)]))]) rfl [] rfl (Nat.le_of_ble_eq_true rfl) ⟨Nat.le_of_ble_eq_true rfl, Nat.le_of_ble_eq_true rfl⟩ dX7_primes_9 (fun u9 => [(mo, .inr (6, [.ref s, .int (iI st), .ref sv, .ref tx, .int (iI ty), .int (iI u9.2), .ref fa, .ref ea, .ref go, .ref qu, .int (iI un), .int (iI om)])), (fa, .inl (g_I (x_G X), 100000, .inl (aI fa1)))]) (Or.inr ⟨[1], [1, 0], [(fa, .inl (g_I (x_G X), 100000, .inl (aI fa1)))], rfl, by decide, by decide, by decide, fun _ => rfl⟩) (fun u9 => [.int (iI u9.1)]) (fun _ => rfl) 0 0 ⟨rfl, rfl⟩ (fun u9 hu9 => ?_)
  refine k_if_ne C 17 (⟨by omega, by omega⟩) dX7_primes_12 (by decide) (fun c12 => ?_) (fun c12 => ?_)
  · skip
    refine k_iconst C dX7_primes_17 ?_
    refine k_istore_n C (lo' := [(2, .int (iI 0)), (0, .ref mo), (1, .int (iI x))]) dX7_primes_18 rfl (by decide) rfl ?_
    refine k_iconst C dX7_primes_19 ?_
    refine k_istore_n C (lo' := [(3, .int (iI 2)), (2, .int (iI 0)), (0, .ref mo), (1, .int (iI x))]) dX7_primes_20 rfl (by decide) rfl ?_
    have L21 : ∀ (nf : Nat) (j : Nat) (c : Int) (i : Int), (i = ((j + 1 : Nat) : Int) ∧ 1 ≤ j ∧ ((j : Int) ≤ x ∨ j = 1) ∧ c = (ct isP j : Int)) → (x - (j : Int)).toNat < nf → K_ X 0 0 [(mo, .inr (6, [.ref s, .int (iI st), .ref sv, .ref tx, .int (iI ty), .int (iI u9.2), .ref fa, .ref ea, .ref go, .ref qu, .int (iI un), .int (iI om)])), (fa, .inl (g_I (x_G X), 100000, .inl (aI fa1)))] 21 [(3, .int (iI i)), (2, .int (iI c)), (0, .ref mo), (1, .int (iI x))] [] := by
      intro nf
      induction nf with
      | zero => intro j c i hI hm; exact absurd hm (Nat.not_lt_zero _)
      | succ nf ih21 =>
        intro j c i hI21 hm21
        obtain ⟨i1, i2, i3, i4⟩ := hI21
        have hcl : ct isP j ≤ j := ct_le _ j
        refine k_iload_n C 0 rfl dX7_primes_21 rfl ?_
        refine k_iload_n C 3 rfl dX7_primes_22 rfl ?_
        refine k_icmp_gt C 48 (⟨by omega, by omega⟩) (⟨by omega, by omega⟩) dX7_primes_23 (by decide) (fun c23 => ?_) (fun c23 => ?_)
        · skip
          have hend : ct isP x.toNat = ct isP j := by rcases i3 with z | z; (rw [show x.toNat = j by omega]); (rcases Nat.lt_or_ge x.toNat 1 with y | y; (rw [z, ct_isP_lo (by omega), ct_isP_lo (by omega)]); (rw [show x.toNat = j by omega]))
          refine k_iload_n C 1 rfl dX7_primes_48 rfl ?_
          exact k_iret C hR (u := (c, u9.2)) rfl (by (try dsimp only) <;> exact (Or.inl ⟨by omega, by rw [hend]; exact i4, by omega⟩)) rfl (Nat.le_of_ble_eq_true rfl) (Nat.le_of_ble_eq_true rfl) dX7_primes_49
        · skip
          refine k_iload_n C 1 rfl dX7_primes_26 rfl ?_
          refine k_aload_n C 2 rfl dX7_primes_27 rfl ?_
          refine k_iload_n C 0 rfl dX7_primes_28 rfl ?_
          refine k_callV C (y := yX7_isPrime) [.int (iI i)] 1 rfl (c_X7_isPrime (x_l X) (x_G X) mo s sv tx fa ea go qu st ty u9.2 un om i fa1 (by first | assumption | omega) (by first | assumption | omega)) gX7_primes_X7_isPrime rfl ⟨rfl, by decide +kernel, by decide +kernel, by decide +kernel⟩ ⟨by decide, by decide⟩ 0 (fs := [.ref s, .int (iI st), .ref sv, .ref tx, .int (iI ty), .int (iI u9.2), .ref fa, .ref ea, .ref go, .ref qu, .int (iI un), .int (iI om)]) rfl rfl rfl [0, 1] (by decide) (wc := [(mo, .inr (6, [.ref s, .int (iI st), .ref sv, .ref tx, .int (iI ty), .int (iI u9.2), .ref fa, .ref ea, .ref go, .ref qu, .int (iI un), .int (iI om)])), (fa, .inl (g_I (x_G X), 100000, .inl (aI fa1)))]) rfl [.int (iI c)] rfl (Nat.le_of_ble_eq_true rfl) ⟨Nat.le_of_ble_eq_true rfl, Nat.le_of_ble_eq_true rfl⟩ dX7_primes_29 (fun _ => [(mo, .inr (6, [.ref s, .int (iI st), .ref sv, .ref tx, .int (iI ty), .int (iI u9.2), .ref fa, .ref ea, .ref go, .ref qu, .int (iI un), .int (iI om)])), (fa, .inl (g_I (x_G X), 100000, .inl (aI fa1)))]) (Or.inl (fun _ => ⟨rfl, rfl⟩)) (fun u29 => [.int (iI u29), .int (iI c)]) (fun _ => rfl) 0 0 ⟨rfl, rfl⟩ (fun u29 hu29 => ?_)
          rw [show i.toNat = j + 1 by omega] at hu29
          refine k_if_eq C 39 (⟨by omega, by omega⟩) dX7_primes_32 (by decide) (fun c32 => ?_) (fun c32 => ?_)
          · skip
            have hu29 := bo_f hu29 c32
            have hnx := ct_n1 (P := isP) (j := j) (hu29)
            refine k_iconst C dX7_primes_39 ?_
            refine k_iadd C dX7_primes_40 ?_
            refine k_nmI (fun v40 e40 => ?_)
            refine k_istore_n C (lo' := [(2, .int (iI v40)), (3, .int (iI i)), (0, .ref mo), (1, .int (iI x))]) dX7_primes_41 rfl (by decide) rfl ?_
            obtain ⟨v42, e42⟩ : ∃ y : Int, y = i + 1 := ⟨_, rfl⟩
            refine k_iinc C (lo' := [(3, .int (iI v42)), (2, .int (iI v40)), (0, .ref mo), (1, .int (iI x))]) 1 rfl dX7_primes_42 (by decide) v42 e42 rfl ?_
            refine k_goto C 21 dX7_primes_45 (by decide) ?_
            exact ih21 (j + 1) v40 v42 (⟨by omega, by omega, by omega, by rw [hnx]; omega⟩) (by omega)
          · skip
            have hu29 := bo_t hu29 c32
            have hnx := ct_y1 (P := isP) (j := j) (hu29)
            refine k_iconst C dX7_primes_35 ?_
            refine k_goto C 40 dX7_primes_36 (by decide) ?_
            refine k_iadd C dX7_primes_40 ?_
            refine k_nmI (fun v40 e40 => ?_)
            refine k_istore_n C (lo' := [(2, .int (iI v40)), (3, .int (iI i)), (0, .ref mo), (1, .int (iI x))]) dX7_primes_41 rfl (by decide) rfl ?_
            obtain ⟨v42, e42⟩ : ∃ y : Int, y = i + 1 := ⟨_, rfl⟩
            refine k_iinc C (lo' := [(3, .int (iI v42)), (2, .int (iI v40)), (0, .ref mo), (1, .int (iI x))]) 1 rfl dX7_primes_42 (by decide) v42 e42 rfl ?_
            refine k_goto C 21 dX7_primes_45 (by decide) ?_
            exact ih21 (j + 1) v40 v42 (⟨by omega, by omega, by omega, by rw [hnx]; omega⟩) (by omega)
    exact L21 _ 1 0 2 (⟨rfl, by omega, by omega, by rw [ct_isP_lo (by decide)]; rfl⟩) (Nat.lt_succ_self _)
  · skip
    refine k_iconst C dX7_primes_15 ?_
    exact k_iret C hR (u := (0, u9.2)) rfl (by (try dsimp only) <;> exact (Or.inr ⟨by omega, by omega⟩)) rfl (Nat.le_of_ble_eq_true rfl) (Nat.le_of_ble_eq_true rfl) dX7_primes_16
set_option maxHeartbeats 4000000 in
set_option maxRecDepth 100000 in
theorem c_X7_sumOf (l : Launch) (G : KG) (mo s sv tx fa ea go qu : Nat) (st ty th un om : Int) (x : Int) (fa1 : Nat → Int) (hx : -2147483648 ≤ x ∧ x < 2147483648) (hF : ∀ x : Nat, 2 ≤ x → x ≤ 99999 → fa1 x = (lf x : Int)) : Ct l G yX7_sumOf wsX7_sumOf (rmD 1 0 0) [.ref mo, .int (iI x)] [(mo, .inr (6, [.ref s, .int (iI st), .ref sv, .ref tx, .int (iI ty), .int (iI th), .ref fa, .ref ea, .ref go, .ref qu, .int (iI un), .int (iI om)])), (fa, .inl (g_I G, 100000, .inl (aI fa1)))] (fun u : Int × Int => ((0 ≤ x ∧ x ≤ 99999) ∧ u.1 = (sm spF x.toNat : Int) ∧ u.2 = 0) ∨ (¬ (0 ≤ x ∧ x ≤ 99999) ∧ u.2 = 1)) (fun u : Int × Int => some (.long (jL u.1))) (fun u : Int × Int => [(mo, .inr (6, [.ref s, .int (iI st), .ref sv, .ref tx, .int (iI ty), .int (iI u.2), .ref fa, .ref ea, .ref go, .ref qu, .int (iI un), .int (iI om)])), (fa, .inl (g_I G, 100000, .inl (aI fa1)))]) := by
  refine Ct.of (cc := cX7_sumOf) (maxL := 5) (ret := (some .long)) (by decide +kernel) rfl (Nat.le_of_ble_eq_true rfl) ?_
  intro X C hG hL hnm hR
  subst hG
  subst hL
  have C : Cx X cX7_sumOf RX7 wsX7_sumOf (some .long) 5 (rmD 1 0 0) := C
  show K_ X 0 0 [(mo, .inr (6, [.ref s, .int (iI st), .ref sv, .ref tx, .int (iI ty), .int (iI th), .ref fa, .ref ea, .ref go, .ref qu, .int (iI un), .int (iI om)])), (fa, .inl (g_I (x_G X), 100000, .inl (aI fa1)))] 0 [(0, .ref mo), (1, .int (iI x))] []
  refine k_aload_n C 0 rfl dX7_sumOf_0 rfl ?_
  refine k_iload_n C 1 rfl dX7_sumOf_1 rfl ?_
  refine k_iconst C dX7_sumOf_2 ?_
  refine k_ldc C 99999 1 rfl (by decide) dX7_sumOf_3 ?_
  refine k_callS C (y := yX7_in) [.int (iI x), .int (iI 0), .int (iI 99999)] 3 rfl (c_X7_in (x_l X) (x_G X) x 0 99999 (by omega) (by omega) (by omega)) gX7_sumOf_X7_in rfl ⟨by decide +kernel, by decide +kernel, by decide +kernel⟩ ⟨by decide, by decide⟩ [] (by decide) (wc := []) rfl [.ref mo] rfl (Nat.le_of_ble_eq_true rfl) ⟨Nat.le_of_ble_eq_true rfl, Nat.le_of_ble_eq_true rfl⟩ dX7_sumOf_5 (fun _ => [(mo, .inr (6, [.ref s, .int (iI st), .ref sv, .ref tx, .int (iI ty), .int (iI th), .ref fa, .ref ea, .ref go, .ref qu, .int (iI un), .int (iI om)])), (fa, .inl (g_I (x_G X), 100000, .inl (aI fa1)))]) (Or.inl (fun _ => ⟨rfl, rfl⟩)) (fun u5 => [.int (iI u5), .ref mo]) (fun _ => rfl) 0 0 ⟨rfl, rfl⟩ (fun u5 hu5 => ?_)
  refine k_iconst C dX7_sumOf_8 ?_
  refine k_callV C (y := yX7_goes) [.int (iI u5), .int (iI 1)] 2 rfl (c_X7_goes (x_l X) (x_G X) mo s sv tx fa ea go qu st ty th un om u5 1 (by omega) (by omega)) gX7_sumOf_X7_goes rfl ⟨rfl, by decide +kernel, by decide +kernel, by decide +kernel⟩ ⟨by decide, by decide⟩ 0 (fs := [.ref s, .int (iI st), .ref sv, .ref tx, .int (iI ty), .int (iI th), .ref fa, .ref ea, .ref go, .ref qu, .int (iI un), .int (iI om)]) rfl rfl rfl [0] (by decide) (wc := [(mo, .inr (6, [.ref s, .int (iI st), .ref sv, .ref tx, .int (iI ty), .int (iI th), .ref fa, .ref ea, .ref go, .ref qu, .int (iI un), .int (iI om)]))]) rfl [] rfl (Nat.le_of_ble_eq_true rfl) ⟨Nat.le_of_ble_eq_true rfl, Nat.le_of_ble_eq_true rfl⟩ dX7_sumOf_9 (fun u9 => [(mo, .inr (6, [.ref s, .int (iI st), .ref sv, .ref tx, .int (iI ty), .int (iI u9.2), .ref fa, .ref ea, .ref go, .ref qu, .int (iI un), .int (iI om)])), (fa, .inl (g_I (x_G X), 100000, .inl (aI fa1)))]) (Or.inr ⟨[1], [1, 0], [(fa, .inl (g_I (x_G X), 100000, .inl (aI fa1)))], rfl, by decide, by decide, by decide, fun _ => rfl⟩) (fun u9 => [.int (iI u9.1)]) (fun _ => rfl) 0 0 ⟨rfl, rfl⟩ (fun u9 hu9 => ?_)
  refine k_if_ne C 17 (⟨by omega, by omega⟩) dX7_sumOf_12 (by decide) (fun c12 => ?_) (fun c12 => ?_)
  · skip
    refine k_lconst C dX7_sumOf_17 0 (by decide) ?_
    refine k_lstore_n C (lo' := [(2, .long (jL 0)), (0, .ref mo), (1, .int (iI x))]) dX7_sumOf_18 rfl (by decide) rfl ?_
    refine k_iconst C dX7_sumOf_19 ?_
    refine k_istore C (lo' := [(4, .int (iI 2)), (2, .long (jL 0)), (0, .ref mo), (1, .int (iI x))]) dX7_sumOf_20 (by decide) rfl ?_
    have L22 : ∀ (nf : Nat) (j : Nat) (c : Int) (i : Int), (i = ((j + 1 : Nat) : Int) ∧ 1 ≤ j ∧ ((j : Int) ≤ x ∨ j = 1) ∧ c = (sm spF j : Int)) → (x - (j : Int)).toNat < nf → K_ X 0 0 [(mo, .inr (6, [.ref s, .int (iI st), .ref sv, .ref tx, .int (iI ty), .int (iI u9.2), .ref fa, .ref ea, .ref go, .ref qu, .int (iI un), .int (iI om)])), (fa, .inl (g_I (x_G X), 100000, .inl (aI fa1)))] 22 [(4, .int (iI i)), (2, .long (jL c)), (0, .ref mo), (1, .int (iI x))] [] := by
      intro nf
      induction nf with
      | zero => intro j c i hI hm; exact absurd hm (Nat.not_lt_zero _)
      | succ nf ih22 =>
        intro j c i hI22 hm22
        obtain ⟨i1, i2, i3, i4⟩ := hI22
        have hcl : sm spF j ≤ sm spF j := Nat.le_refl _
        refine k_iload C 0 rfl dX7_sumOf_22 ?_
        refine k_iload_n C 3 rfl dX7_sumOf_24 rfl ?_
        refine k_icmp_gt C 53 (⟨by omega, by omega⟩) (⟨by omega, by omega⟩) dX7_sumOf_25 (by decide) (fun c25 => ?_) (fun c25 => ?_)
        · skip
          have hend : sm spF x.toNat = sm spF j := by rcases i3 with z | z; (rw [show x.toNat = j by omega]); (rcases Nat.lt_or_ge x.toNat 1 with y | y; (rw [z, sp_lo (by omega), sp_lo (by omega)]); (rw [show x.toNat = j by omega]))
          refine k_lload_n C 1 rfl dX7_sumOf_53 rfl ?_
          exact k_lret C hR (u := (c, u9.2)) rfl (by (try dsimp only) <;> exact (Or.inl ⟨by omega, by rw [hend]; exact i4, by omega⟩)) rfl (Nat.le_of_ble_eq_true rfl) (Nat.le_of_ble_eq_true rfl) dX7_sumOf_54
        · skip
          refine k_lload_n C 1 rfl dX7_sumOf_28 rfl ?_
          refine k_aload_n C 2 rfl dX7_sumOf_29 rfl ?_
          refine k_iload C 0 rfl dX7_sumOf_30 ?_
          refine k_callV C (y := yX7_isPrime) [.int (iI i)] 1 rfl (c_X7_isPrime (x_l X) (x_G X) mo s sv tx fa ea go qu st ty u9.2 un om i fa1 (by first | assumption | omega) (by first | assumption | omega)) gX7_sumOf_X7_isPrime rfl ⟨rfl, by decide +kernel, by decide +kernel, by decide +kernel⟩ ⟨by decide, by decide⟩ 0 (fs := [.ref s, .int (iI st), .ref sv, .ref tx, .int (iI ty), .int (iI u9.2), .ref fa, .ref ea, .ref go, .ref qu, .int (iI un), .int (iI om)]) rfl rfl rfl [0, 1] (by decide) (wc := [(mo, .inr (6, [.ref s, .int (iI st), .ref sv, .ref tx, .int (iI ty), .int (iI u9.2), .ref fa, .ref ea, .ref go, .ref qu, .int (iI un), .int (iI om)])), (fa, .inl (g_I (x_G X), 100000, .inl (aI fa1)))]) rfl [.long (jL c)] rfl (Nat.le_of_ble_eq_true rfl) ⟨Nat.le_of_ble_eq_true rfl, Nat.le_of_ble_eq_true rfl⟩ dX7_sumOf_32 (fun _ => [(mo, .inr (6, [.ref s, .int (iI st), .ref sv, .ref tx, .int (iI ty), .int (iI u9.2), .ref fa, .ref ea, .ref go, .ref qu, .int (iI un), .int (iI om)])), (fa, .inl (g_I (x_G X), 100000, .inl (aI fa1)))]) (Or.inl (fun _ => ⟨rfl, rfl⟩)) (fun u32 => [.int (iI u32), .long (jL c)]) (fun _ => rfl) 0 0 ⟨rfl, rfl⟩ (fun u32 hu32 => ?_)
          rw [show i.toNat = j + 1 by omega] at hu32
          refine k_if_eq C 44 (⟨by omega, by omega⟩) dX7_sumOf_35 (by decide) (fun c35 => ?_) (fun c35 => ?_)
          · skip
            have hu32 := bo_f hu32 c35
            have hnx := sm_y1 (f := spF) (j := j)
            have hz : spF (j + 1) = 0 := if_neg (hu32)
            rw [hz] at hnx
            refine k_lconst C dX7_sumOf_44 0 (by decide) ?_
            refine k_ladd C dX7_sumOf_45 ?_
            refine k_nmL (fun v45 e45 => ?_)
            refine k_lstore_n C (lo' := [(2, .long (jL v45)), (4, .int (iI i)), (0, .ref mo), (1, .int (iI x))]) dX7_sumOf_46 rfl (by decide) rfl ?_
            obtain ⟨v47, e47⟩ : ∃ y : Int, y = i + 1 := ⟨_, rfl⟩
            refine k_iinc C (lo' := [(4, .int (iI v47)), (2, .long (jL v45)), (0, .ref mo), (1, .int (iI x))]) 1 rfl dX7_sumOf_47 (by decide) v47 e47 rfl ?_
            refine k_goto C 22 dX7_sumOf_50 (by decide) ?_
            exact ih22 (j + 1) v45 v47 (⟨by omega, by omega, by omega, by rw [hnx]; omega⟩) (by omega)
          · skip
            have hu32 := bo_t hu32 c35
            have hnx := sm_y1 (f := spF) (j := j)
            have hz : spF (j + 1) = j + 1 := if_pos (hu32)
            rw [hz] at hnx
            refine k_iload C 0 rfl dX7_sumOf_38 ?_
            refine k_i2l C (⟨by omega, by omega⟩) dX7_sumOf_40 ?_
            refine k_goto C 45 dX7_sumOf_41 (by decide) ?_
            refine k_ladd C dX7_sumOf_45 ?_
            refine k_nmL (fun v45 e45 => ?_)
            refine k_lstore_n C (lo' := [(2, .long (jL v45)), (4, .int (iI i)), (0, .ref mo), (1, .int (iI x))]) dX7_sumOf_46 rfl (by decide) rfl ?_
            obtain ⟨v47, e47⟩ : ∃ y : Int, y = i + 1 := ⟨_, rfl⟩
            refine k_iinc C (lo' := [(4, .int (iI v47)), (2, .long (jL v45)), (0, .ref mo), (1, .int (iI x))]) 1 rfl dX7_sumOf_47 (by decide) v47 e47 rfl ?_
            refine k_goto C 22 dX7_sumOf_50 (by decide) ?_
            exact ih22 (j + 1) v45 v47 (⟨by omega, by omega, by omega, by rw [hnx]; omega⟩) (by omega)
    exact L22 _ 1 0 2 (⟨rfl, by omega, by omega, by rw [sp_lo (by decide)]; rfl⟩) (Nat.lt_succ_self _)
  · skip
    refine k_lconst C dX7_sumOf_15 0 (by decide) ?_
    exact k_lret C hR (u := (0, u9.2)) rfl (by (try dsimp only) <;> exact (Or.inr ⟨by omega, by omega⟩)) rfl (Nat.le_of_ble_eq_true rfl) (Nat.le_of_ble_eq_true rfl) dX7_sumOf_16
set_option maxHeartbeats 4000000 in
set_option maxRecDepth 100000 in
theorem c_X7_byRest (l : Launch) (G : KG) (mo s sv tx fa ea go qu : Nat) (st ty th un om : Int) (x r : Int) (fa1 : Nat → Int) (hx : -2147483648 ≤ x ∧ x < 2147483648) (hr : -2147483648 ≤ r ∧ r < 2147483648) (hF : ∀ x : Nat, 2 ≤ x → x ≤ 99999 → fa1 x = (lf x : Int)) : Ct l G yX7_byRest wsX7_byRest (rmD 1 0 0) [.ref mo, .int (iI x), .int (iI r)] [(mo, .inr (6, [.ref s, .int (iI st), .ref sv, .ref tx, .int (iI ty), .int (iI th), .ref fa, .ref ea, .ref go, .ref qu, .int (iI un), .int (iI om)])), (fa, .inl (g_I G, 100000, .inl (aI fa1)))] (fun u : Int × Int => (((0 ≤ x ∧ x ≤ 99999) ∧ 0 ≤ r ∧ r ≤ 3) ∧ u.1 = (ct (brF r.toNat) x.toNat : Int) ∧ u.2 = 0) ∨ (¬ ((0 ≤ x ∧ x ≤ 99999) ∧ 0 ≤ r ∧ r ≤ 3) ∧ u.2 = 1)) (fun u : Int × Int => some (.int (iI u.1))) (fun u : Int × Int => [(mo, .inr (6, [.ref s, .int (iI st), .ref sv, .ref tx, .int (iI ty), .int (iI u.2), .ref fa, .ref ea, .ref go, .ref qu, .int (iI un), .int (iI om)])), (fa, .inl (g_I G, 100000, .inl (aI fa1)))]) := by
  refine Ct.of (cc := cX7_byRest) (maxL := 5) (ret := (some .int)) (by decide +kernel) rfl (Nat.le_of_ble_eq_true rfl) ?_
  intro X C hG hL hnm hR
  subst hG
  subst hL
  have C : Cx X cX7_byRest RX7 wsX7_byRest (some .int) 5 (rmD 1 0 0) := C
  show K_ X 0 0 [(mo, .inr (6, [.ref s, .int (iI st), .ref sv, .ref tx, .int (iI ty), .int (iI th), .ref fa, .ref ea, .ref go, .ref qu, .int (iI un), .int (iI om)])), (fa, .inl (g_I (x_G X), 100000, .inl (aI fa1)))] 0 [(0, .ref mo), (1, .int (iI x)), (2, .int (iI r))] []
  refine k_aload_n C 0 rfl dX7_byRest_0 rfl ?_
  refine k_iload_n C 1 rfl dX7_byRest_1 rfl ?_
  refine k_iconst C dX7_byRest_2 ?_
  refine k_ldc C 99999 1 rfl (by decide) dX7_byRest_3 ?_
  refine k_callS C (y := yX7_in) [.int (iI x), .int (iI 0), .int (iI 99999)] 3 rfl (c_X7_in (x_l X) (x_G X) x 0 99999 (by omega) (by omega) (by omega)) gX7_byRest_X7_in rfl ⟨by decide +kernel, by decide +kernel, by decide +kernel⟩ ⟨by decide, by decide⟩ [] (by decide) (wc := []) rfl [.ref mo] rfl (Nat.le_of_ble_eq_true rfl) ⟨Nat.le_of_ble_eq_true rfl, Nat.le_of_ble_eq_true rfl⟩ dX7_byRest_5 (fun _ => [(mo, .inr (6, [.ref s, .int (iI st), .ref sv, .ref tx, .int (iI ty), .int (iI th), .ref fa, .ref ea, .ref go, .ref qu, .int (iI un), .int (iI om)])), (fa, .inl (g_I (x_G X), 100000, .inl (aI fa1)))]) (Or.inl (fun _ => ⟨rfl, rfl⟩)) (fun u5 => [.int (iI u5), .ref mo]) (fun _ => rfl) 0 0 ⟨rfl, rfl⟩ (fun u5 hu5 => ?_)
  refine k_if_eq C 24 (⟨by omega, by omega⟩) dX7_byRest_8 (by decide) (fun c8 => ?_) (fun c8 => ?_)
  · skip
    have hu5 := bo_f hu5 c8
    refine k_iconst C dX7_byRest_24 ?_
    refine k_iconst C dX7_byRest_25 ?_
    refine k_callV C (y := yX7_goes) [.int (iI 0), .int (iI 1)] 2 rfl (c_X7_goes (x_l X) (x_G X) mo s sv tx fa ea go qu st ty th un om 0 1 (by omega) (by omega)) gX7_byRest_X7_goes rfl ⟨rfl, by decide +kernel, by decide +kernel, by decide +kernel⟩ ⟨by decide, by decide⟩ 0 (fs := [.ref s, .int (iI st), .ref sv, .ref tx, .int (iI ty), .int (iI th), .ref fa, .ref ea, .ref go, .ref qu, .int (iI un), .int (iI om)]) rfl rfl rfl [0] (by decide) (wc := [(mo, .inr (6, [.ref s, .int (iI st), .ref sv, .ref tx, .int (iI ty), .int (iI th), .ref fa, .ref ea, .ref go, .ref qu, .int (iI un), .int (iI om)]))]) rfl [] rfl (Nat.le_of_ble_eq_true rfl) ⟨Nat.le_of_ble_eq_true rfl, Nat.le_of_ble_eq_true rfl⟩ dX7_byRest_26 (fun u26 => [(mo, .inr (6, [.ref s, .int (iI st), .ref sv, .ref tx, .int (iI ty), .int (iI u26.2), .ref fa, .ref ea, .ref go, .ref qu, .int (iI un), .int (iI om)])), (fa, .inl (g_I (x_G X), 100000, .inl (aI fa1)))]) (Or.inr ⟨[1], [1, 0], [(fa, .inl (g_I (x_G X), 100000, .inl (aI fa1)))], rfl, by decide, by decide, by decide, fun _ => rfl⟩) (fun u26 => [.int (iI u26.1)]) (fun _ => rfl) 0 0 ⟨rfl, rfl⟩ (fun u26 hu26 => ?_)
    refine k_if_ne C 34 (⟨by omega, by omega⟩) dX7_byRest_29 (by decide) (fun c29 => ?_) (fun c29 => ?_)
    · exfalso; omega
    · skip
      refine k_iconst C dX7_byRest_32 ?_
      exact k_iret C hR (u := (0, u26.2)) rfl (by (try dsimp only) <;> exact (Or.inr ⟨by omega, by omega⟩)) rfl (Nat.le_of_ble_eq_true rfl) (Nat.le_of_ble_eq_true rfl) dX7_byRest_33
  · skip
    have hu5 := bo_t hu5 c8
    refine k_iload_n C 2 rfl dX7_byRest_11 rfl ?_
    refine k_iconst C dX7_byRest_12 ?_
    refine k_iconst C dX7_byRest_13 ?_
    refine k_callS C (y := yX7_in) [.int (iI r), .int (iI 0), .int (iI 3)] 3 rfl (c_X7_in (x_l X) (x_G X) r 0 3 (by omega) (by omega) (by omega)) gX7_byRest_X7_in rfl ⟨by decide +kernel, by decide +kernel, by decide +kernel⟩ ⟨by decide, by decide⟩ [] (by decide) (wc := []) rfl [.ref mo] rfl (Nat.le_of_ble_eq_true rfl) ⟨Nat.le_of_ble_eq_true rfl, Nat.le_of_ble_eq_true rfl⟩ dX7_byRest_14 (fun _ => [(mo, .inr (6, [.ref s, .int (iI st), .ref sv, .ref tx, .int (iI ty), .int (iI th), .ref fa, .ref ea, .ref go, .ref qu, .int (iI un), .int (iI om)])), (fa, .inl (g_I (x_G X), 100000, .inl (aI fa1)))]) (Or.inl (fun _ => ⟨rfl, rfl⟩)) (fun u14 => [.int (iI u14), .ref mo]) (fun _ => rfl) 0 0 ⟨rfl, rfl⟩ (fun u14 hu14 => ?_)
    refine k_if_eq C 24 (⟨by omega, by omega⟩) dX7_byRest_17 (by decide) (fun c17 => ?_) (fun c17 => ?_)
    · skip
      have hu14 := bo_f hu14 c17
      refine k_iconst C dX7_byRest_24 ?_
      refine k_iconst C dX7_byRest_25 ?_
      refine k_callV C (y := yX7_goes) [.int (iI 0), .int (iI 1)] 2 rfl (c_X7_goes (x_l X) (x_G X) mo s sv tx fa ea go qu st ty th un om 0 1 (by omega) (by omega)) gX7_byRest_X7_goes rfl ⟨rfl, by decide +kernel, by decide +kernel, by decide +kernel⟩ ⟨by decide, by decide⟩ 0 (fs := [.ref s, .int (iI st), .ref sv, .ref tx, .int (iI ty), .int (iI th), .ref fa, .ref ea, .ref go, .ref qu, .int (iI un), .int (iI om)]) rfl rfl rfl [0] (by decide) (wc := [(mo, .inr (6, [.ref s, .int (iI st), .ref sv, .ref tx, .int (iI ty), .int (iI th), .ref fa, .ref ea, .ref go, .ref qu, .int (iI un), .int (iI om)]))]) rfl [] rfl (Nat.le_of_ble_eq_true rfl) ⟨Nat.le_of_ble_eq_true rfl, Nat.le_of_ble_eq_true rfl⟩ dX7_byRest_26 (fun u26 => [(mo, .inr (6, [.ref s, .int (iI st), .ref sv, .ref tx, .int (iI ty), .int (iI u26.2), .ref fa, .ref ea, .ref go, .ref qu, .int (iI un), .int (iI om)])), (fa, .inl (g_I (x_G X), 100000, .inl (aI fa1)))]) (Or.inr ⟨[1], [1, 0], [(fa, .inl (g_I (x_G X), 100000, .inl (aI fa1)))], rfl, by decide, by decide, by decide, fun _ => rfl⟩) (fun u26 => [.int (iI u26.1)]) (fun _ => rfl) 0 0 ⟨rfl, rfl⟩ (fun u26 hu26 => ?_)
      refine k_if_ne C 34 (⟨by omega, by omega⟩) dX7_byRest_29 (by decide) (fun c29 => ?_) (fun c29 => ?_)
      · exfalso; omega
      · skip
        refine k_iconst C dX7_byRest_32 ?_
        exact k_iret C hR (u := (0, u26.2)) rfl (by (try dsimp only) <;> exact (Or.inr ⟨by omega, by omega⟩)) rfl (Nat.le_of_ble_eq_true rfl) (Nat.le_of_ble_eq_true rfl) dX7_byRest_33
    · skip
      have hu14 := bo_t hu14 c17
      refine k_iconst C dX7_byRest_20 ?_
      refine k_goto C 25 dX7_byRest_21 (by decide) ?_
      refine k_iconst C dX7_byRest_25 ?_
      refine k_callV C (y := yX7_goes) [.int (iI 1), .int (iI 1)] 2 rfl (c_X7_goes (x_l X) (x_G X) mo s sv tx fa ea go qu st ty th un om 1 1 (by omega) (by omega)) gX7_byRest_X7_goes rfl ⟨rfl, by decide +kernel, by decide +kernel, by decide +kernel⟩ ⟨by decide, by decide⟩ 0 (fs := [.ref s, .int (iI st), .ref sv, .ref tx, .int (iI ty), .int (iI th), .ref fa, .ref ea, .ref go, .ref qu, .int (iI un), .int (iI om)]) rfl rfl rfl [0] (by decide) (wc := [(mo, .inr (6, [.ref s, .int (iI st), .ref sv, .ref tx, .int (iI ty), .int (iI th), .ref fa, .ref ea, .ref go, .ref qu, .int (iI un), .int (iI om)]))]) rfl [] rfl (Nat.le_of_ble_eq_true rfl) ⟨Nat.le_of_ble_eq_true rfl, Nat.le_of_ble_eq_true rfl⟩ dX7_byRest_26 (fun u26 => [(mo, .inr (6, [.ref s, .int (iI st), .ref sv, .ref tx, .int (iI ty), .int (iI u26.2), .ref fa, .ref ea, .ref go, .ref qu, .int (iI un), .int (iI om)])), (fa, .inl (g_I (x_G X), 100000, .inl (aI fa1)))]) (Or.inr ⟨[1], [1, 0], [(fa, .inl (g_I (x_G X), 100000, .inl (aI fa1)))], rfl, by decide, by decide, by decide, fun _ => rfl⟩) (fun u26 => [.int (iI u26.1)]) (fun _ => rfl) 0 0 ⟨rfl, rfl⟩ (fun u26 hu26 => ?_)
      refine k_if_ne C 34 (⟨by omega, by omega⟩) dX7_byRest_29 (by decide) (fun c29 => ?_) (fun c29 => ?_)
      · skip
        refine k_iconst C dX7_byRest_34 ?_
        refine k_istore_n C (lo' := [(3, .int (iI 0)), (0, .ref mo), (1, .int (iI x)), (2, .int (iI r))]) dX7_byRest_35 rfl (by decide) rfl ?_
        refine k_iconst C dX7_byRest_36 ?_
        refine k_istore C (lo' := [(4, .int (iI 2)), (3, .int (iI 0)), (0, .ref mo), (1, .int (iI x)), (2, .int (iI r))]) dX7_byRest_37 (by decide) rfl ?_
        have L39 : ∀ (nf : Nat) (j : Nat) (c : Int) (i : Int), (i = ((j + 1 : Nat) : Int) ∧ 1 ≤ j ∧ ((j : Int) ≤ x ∨ j = 1) ∧ c = (ct (brF r.toNat) j : Int)) → (x - (j : Int)).toNat < nf → K_ X 0 0 [(mo, .inr (6, [.ref s, .int (iI st), .ref sv, .ref tx, .int (iI ty), .int (iI u26.2), .ref fa, .ref ea, .ref go, .ref qu, .int (iI un), .int (iI om)])), (fa, .inl (g_I (x_G X), 100000, .inl (aI fa1)))] 39 [(4, .int (iI i)), (3, .int (iI c)), (0, .ref mo), (1, .int (iI x)), (2, .int (iI r))] [] := by
          intro nf
          induction nf with
          | zero => intro j c i hI hm; exact absurd hm (Nat.not_lt_zero _)
          | succ nf ih39 =>
            intro j c i hI39 hm39
            obtain ⟨i1, i2, i3, i4⟩ := hI39
            have hcl : ct (brF r.toNat) j ≤ j := ct_le _ j
            refine k_iload C 0 rfl dX7_byRest_39 ?_
            refine k_iload_n C 3 rfl dX7_byRest_41 rfl ?_
            refine k_icmp_gt C 76 (⟨by omega, by omega⟩) (⟨by omega, by omega⟩) dX7_byRest_42 (by decide) (fun c42 => ?_) (fun c42 => ?_)
            · skip
              have hend : ct (brF r.toNat) x.toNat = ct (brF r.toNat) j := by rcases i3 with z | z; (rw [show x.toNat = j by omega]); (rcases Nat.lt_or_ge x.toNat 1 with y | y; (rw [z, br_lo (by omega), br_lo (by omega)]); (rw [show x.toNat = j by omega]))
              refine k_iload_n C 1 rfl dX7_byRest_76 rfl ?_
              exact k_iret C hR (u := (c, u26.2)) rfl (by (try dsimp only) <;> exact (Or.inl ⟨by omega, by rw [hend]; exact i4, by omega⟩)) rfl (Nat.le_of_ble_eq_true rfl) (Nat.le_of_ble_eq_true rfl) dX7_byRest_77
            · skip
              refine k_iload_n C 1 rfl dX7_byRest_45 rfl ?_
              refine k_aload_n C 2 rfl dX7_byRest_46 rfl ?_
              refine k_iload C 0 rfl dX7_byRest_47 ?_
              refine k_callV C (y := yX7_isPrime) [.int (iI i)] 1 rfl (c_X7_isPrime (x_l X) (x_G X) mo s sv tx fa ea go qu st ty u26.2 un om i fa1 (by first | assumption | omega) (by first | assumption | omega)) gX7_byRest_X7_isPrime rfl ⟨rfl, by decide +kernel, by decide +kernel, by decide +kernel⟩ ⟨by decide, by decide⟩ 0 (fs := [.ref s, .int (iI st), .ref sv, .ref tx, .int (iI ty), .int (iI u26.2), .ref fa, .ref ea, .ref go, .ref qu, .int (iI un), .int (iI om)]) rfl rfl rfl [0, 1] (by decide) (wc := [(mo, .inr (6, [.ref s, .int (iI st), .ref sv, .ref tx, .int (iI ty), .int (iI u26.2), .ref fa, .ref ea, .ref go, .ref qu, .int (iI un), .int (iI om)])), (fa, .inl (g_I (x_G X), 100000, .inl (aI fa1)))]) rfl [.int (iI c)] rfl (Nat.le_of_ble_eq_true rfl) ⟨Nat.le_of_ble_eq_true rfl, Nat.le_of_ble_eq_true rfl⟩ dX7_byRest_49 (fun _ => [(mo, .inr (6, [.ref s, .int (iI st), .ref sv, .ref tx, .int (iI ty), .int (iI u26.2), .ref fa, .ref ea, .ref go, .ref qu, .int (iI un), .int (iI om)])), (fa, .inl (g_I (x_G X), 100000, .inl (aI fa1)))]) (Or.inl (fun _ => ⟨rfl, rfl⟩)) (fun u49 => [.int (iI u49), .int (iI c)]) (fun _ => rfl) 0 0 ⟨rfl, rfl⟩ (fun u49 hu49 => ?_)
              rw [show i.toNat = j + 1 by omega] at hu49
              refine k_if_eq C 67 (⟨by omega, by omega⟩) dX7_byRest_52 (by decide) (fun c52 => ?_) (fun c52 => ?_)
              · skip
                have hu49 := bo_f hu49 c52
                have hnx := ct_n1 (P := brF r.toNat) (j := j) (br_n (fun y => hu49 y.1))
                refine k_iconst C dX7_byRest_67 ?_
                refine k_iadd C dX7_byRest_68 ?_
                refine k_nmI (fun v68 e68 => ?_)
                refine k_istore_n C (lo' := [(3, .int (iI v68)), (4, .int (iI i)), (0, .ref mo), (1, .int (iI x)), (2, .int (iI r))]) dX7_byRest_69 rfl (by decide) rfl ?_
                obtain ⟨v70, e70⟩ : ∃ y : Int, y = i + 1 := ⟨_, rfl⟩
                refine k_iinc C (lo' := [(4, .int (iI v70)), (3, .int (iI v68)), (0, .ref mo), (1, .int (iI x)), (2, .int (iI r))]) 1 rfl dX7_byRest_70 (by decide) v70 e70 rfl ?_
                refine k_goto C 39 dX7_byRest_73 (by decide) ?_
                exact ih39 (j + 1) v68 v70 (⟨by omega, by omega, by omega, by rw [hnx]; omega⟩) (by omega)
              · skip
                have hu49 := bo_t hu49 c52
                refine k_iload C 0 rfl dX7_byRest_55 ?_
                refine k_iconst C dX7_byRest_57 ?_
                refine k_irem C ⟨by omega, by omega⟩ ⟨by omega, by omega⟩ dX7_byRest_58 ?_
                refine k_nmI (fun v58 e58 => ?_)
                refine k_iload_n C 4 rfl dX7_byRest_59 rfl ?_
                refine k_icmp_ne C 67 (⟨by omega, by omega⟩) (⟨by omega, by omega⟩) dX7_byRest_60 (by decide) (fun c60 => ?_) (fun c60 => ?_)
                · skip
                  have hnx := ct_n1 (P := brF r.toNat) (j := j) (br_n (fun y => by have := y.2; omega))
                  refine k_iconst C dX7_byRest_67 ?_
                  refine k_iadd C dX7_byRest_68 ?_
                  refine k_nmI (fun v68 e68 => ?_)
                  refine k_istore_n C (lo' := [(3, .int (iI v68)), (4, .int (iI i)), (0, .ref mo), (1, .int (iI x)), (2, .int (iI r))]) dX7_byRest_69 rfl (by decide) rfl ?_
                  obtain ⟨v70, e70⟩ : ∃ y : Int, y = i + 1 := ⟨_, rfl⟩
                  refine k_iinc C (lo' := [(4, .int (iI v70)), (3, .int (iI v68)), (0, .ref mo), (1, .int (iI x)), (2, .int (iI r))]) 1 rfl dX7_byRest_70 (by decide) v70 e70 rfl ?_
                  refine k_goto C 39 dX7_byRest_73 (by decide) ?_
                  exact ih39 (j + 1) v68 v70 (⟨by omega, by omega, by omega, by rw [hnx]; omega⟩) (by omega)
                · skip
                  have hnx := ct_y1 (P := brF r.toNat) (j := j) (br_y (hu49) (by omega))
                  refine k_iconst C dX7_byRest_63 ?_
                  refine k_goto C 68 dX7_byRest_64 (by decide) ?_
                  refine k_iadd C dX7_byRest_68 ?_
                  refine k_nmI (fun v68 e68 => ?_)
                  refine k_istore_n C (lo' := [(3, .int (iI v68)), (4, .int (iI i)), (0, .ref mo), (1, .int (iI x)), (2, .int (iI r))]) dX7_byRest_69 rfl (by decide) rfl ?_
                  obtain ⟨v70, e70⟩ : ∃ y : Int, y = i + 1 := ⟨_, rfl⟩
                  refine k_iinc C (lo' := [(4, .int (iI v70)), (3, .int (iI v68)), (0, .ref mo), (1, .int (iI x)), (2, .int (iI r))]) 1 rfl dX7_byRest_70 (by decide) v70 e70 rfl ?_
                  refine k_goto C 39 dX7_byRest_73 (by decide) ?_
                  exact ih39 (j + 1) v68 v70 (⟨by omega, by omega, by omega, by rw [hnx]; omega⟩) (by omega)
        exact L39 _ 1 0 2 (⟨rfl, by omega, by omega, by rw [br_lo (by decide)]; rfl⟩) (Nat.lt_succ_self _)
      · exfalso; omega
set_option maxHeartbeats 4000000 in
set_option maxRecDepth 100000 in
theorem c_X7_inSpan (l : Launch) (G : KG) (mo s sv tx fa ea go qu : Nat) (st ty th un om : Int) (x y : Int) (fa1 : Nat → Int) (hx : -2147483648 ≤ x ∧ x < 2147483648) (hy : -2147483648 ≤ y ∧ y < 2147483648) (hF : ∀ x : Nat, 2 ≤ x → x ≤ 99999 → fa1 x = (lf x : Int)) : Ct l G yX7_inSpan wsX7_inSpan (rmD 1 0 0) [.ref mo, .int (iI x), .int (iI y)] [(mo, .inr (6, [.ref s, .int (iI st), .ref sv, .ref tx, .int (iI ty), .int (iI th), .ref fa, .ref ea, .ref go, .ref qu, .int (iI un), .int (iI om)])), (fa, .inl (g_I G, 100000, .inl (aI fa1)))] (fun u : Int × Int => ((0 ≤ x ∧ x ≤ y ∧ y ≤ 99999) ∧ u.1 = (ct isP y.toNat : Int) - (ct isP (x - 1).toNat : Int) ∧ u.2 = 0) ∨ (¬ (0 ≤ x ∧ x ≤ y ∧ y ≤ 99999) ∧ u.2 = 1)) (fun u : Int × Int => some (.int (iI u.1))) (fun u : Int × Int => [(mo, .inr (6, [.ref s, .int (iI st), .ref sv, .ref tx, .int (iI ty), .int (iI u.2), .ref fa, .ref ea, .ref go, .ref qu, .int (iI un), .int (iI om)])), (fa, .inl (g_I G, 100000, .inl (aI fa1)))]) := by
  refine Ct.of (cc := cX7_inSpan) (maxL := 5) (ret := (some .int)) (by decide +kernel) rfl (Nat.le_of_ble_eq_true rfl) ?_
  intro X C hG hL hnm hR
  subst hG
  subst hL
  have C : Cx X cX7_inSpan RX7 wsX7_inSpan (some .int) 5 (rmD 1 0 0) := C
  show K_ X 0 0 [(mo, .inr (6, [.ref s, .int (iI st), .ref sv, .ref tx, .int (iI ty), .int (iI th), .ref fa, .ref ea, .ref go, .ref qu, .int (iI un), .int (iI om)])), (fa, .inl (g_I (x_G X), 100000, .inl (aI fa1)))] 0 [(0, .ref mo), (1, .int (iI x)), (2, .int (iI y))] []
  refine k_aload_n C 0 rfl dX7_inSpan_0 rfl ?_
  refine k_iload_n C 1 rfl dX7_inSpan_1 rfl ?_
  refine k_iconst C dX7_inSpan_2 ?_
  refine k_ldc C 99999 1 rfl (by decide) dX7_inSpan_3 ?_
  refine k_callS C (y := yX7_in) [.int (iI x), .int (iI 0), .int (iI 99999)] 3 rfl (c_X7_in (x_l X) (x_G X) x 0 99999 (by omega) (by omega) (by omega)) gX7_inSpan_X7_in rfl ⟨by decide +kernel, by decide +kernel, by decide +kernel⟩ ⟨by decide, by decide⟩ [] (by decide) (wc := []) rfl [.ref mo] rfl (Nat.le_of_ble_eq_true rfl) ⟨Nat.le_of_ble_eq_true rfl, Nat.le_of_ble_eq_true rfl⟩ dX7_inSpan_5 (fun _ => [(mo, .inr (6, [.ref s, .int (iI st), .ref sv, .ref tx, .int (iI ty), .int (iI th), .ref fa, .ref ea, .ref go, .ref qu, .int (iI un), .int (iI om)])), (fa, .inl (g_I (x_G X), 100000, .inl (aI fa1)))]) (Or.inl (fun _ => ⟨rfl, rfl⟩)) (fun u5 => [.int (iI u5), .ref mo]) (fun _ => rfl) 0 0 ⟨rfl, rfl⟩ (fun u5 hu5 => ?_)
  refine k_if_eq C 25 (⟨by omega, by omega⟩) dX7_inSpan_8 (by decide) (fun c8 => ?_) (fun c8 => ?_)
  · skip
    have hu5 := bo_f hu5 c8
    refine k_iconst C dX7_inSpan_25 ?_
    refine k_iconst C dX7_inSpan_26 ?_
    refine k_callV C (y := yX7_goes) [.int (iI 0), .int (iI 1)] 2 rfl (c_X7_goes (x_l X) (x_G X) mo s sv tx fa ea go qu st ty th un om 0 1 (by omega) (by omega)) gX7_inSpan_X7_goes rfl ⟨rfl, by decide +kernel, by decide +kernel, by decide +kernel⟩ ⟨by decide, by decide⟩ 0 (fs := [.ref s, .int (iI st), .ref sv, .ref tx, .int (iI ty), .int (iI th), .ref fa, .ref ea, .ref go, .ref qu, .int (iI un), .int (iI om)]) rfl rfl rfl [0] (by decide) (wc := [(mo, .inr (6, [.ref s, .int (iI st), .ref sv, .ref tx, .int (iI ty), .int (iI th), .ref fa, .ref ea, .ref go, .ref qu, .int (iI un), .int (iI om)]))]) rfl [] rfl (Nat.le_of_ble_eq_true rfl) ⟨Nat.le_of_ble_eq_true rfl, Nat.le_of_ble_eq_true rfl⟩ dX7_inSpan_27 (fun u27 => [(mo, .inr (6, [.ref s, .int (iI st), .ref sv, .ref tx, .int (iI ty), .int (iI u27.2), .ref fa, .ref ea, .ref go, .ref qu, .int (iI un), .int (iI om)])), (fa, .inl (g_I (x_G X), 100000, .inl (aI fa1)))]) (Or.inr ⟨[1], [1, 0], [(fa, .inl (g_I (x_G X), 100000, .inl (aI fa1)))], rfl, by decide, by decide, by decide, fun _ => rfl⟩) (fun u27 => [.int (iI u27.1)]) (fun _ => rfl) 0 0 ⟨rfl, rfl⟩ (fun u27 hu27 => ?_)
    refine k_if_ne C 35 (⟨by omega, by omega⟩) dX7_inSpan_30 (by decide) (fun c30 => ?_) (fun c30 => ?_)
    · exfalso; omega
    · skip
      refine k_iconst C dX7_inSpan_33 ?_
      exact k_iret C hR (u := (0, u27.2)) rfl (by (try dsimp only) <;> exact (Or.inr ⟨by omega, by omega⟩)) rfl (Nat.le_of_ble_eq_true rfl) (Nat.le_of_ble_eq_true rfl) dX7_inSpan_34
  · skip
    have hu5 := bo_t hu5 c8
    refine k_iload_n C 2 rfl dX7_inSpan_11 rfl ?_
    refine k_iload_n C 1 rfl dX7_inSpan_12 rfl ?_
    refine k_ldc C 99999 1 rfl (by decide) dX7_inSpan_13 ?_
    refine k_callS C (y := yX7_in) [.int (iI y), .int (iI x), .int (iI 99999)] 3 rfl (c_X7_in (x_l X) (x_G X) y x 99999 (by omega) (by omega) (by omega)) gX7_inSpan_X7_in rfl ⟨by decide +kernel, by decide +kernel, by decide +kernel⟩ ⟨by decide, by decide⟩ [] (by decide) (wc := []) rfl [.ref mo] rfl (Nat.le_of_ble_eq_true rfl) ⟨Nat.le_of_ble_eq_true rfl, Nat.le_of_ble_eq_true rfl⟩ dX7_inSpan_15 (fun _ => [(mo, .inr (6, [.ref s, .int (iI st), .ref sv, .ref tx, .int (iI ty), .int (iI th), .ref fa, .ref ea, .ref go, .ref qu, .int (iI un), .int (iI om)])), (fa, .inl (g_I (x_G X), 100000, .inl (aI fa1)))]) (Or.inl (fun _ => ⟨rfl, rfl⟩)) (fun u15 => [.int (iI u15), .ref mo]) (fun _ => rfl) 0 0 ⟨rfl, rfl⟩ (fun u15 hu15 => ?_)
    refine k_if_eq C 25 (⟨by omega, by omega⟩) dX7_inSpan_18 (by decide) (fun c18 => ?_) (fun c18 => ?_)
    · skip
      have hu15 := bo_f hu15 c18
      refine k_iconst C dX7_inSpan_25 ?_
      refine k_iconst C dX7_inSpan_26 ?_
      refine k_callV C (y := yX7_goes) [.int (iI 0), .int (iI 1)] 2 rfl (c_X7_goes (x_l X) (x_G X) mo s sv tx fa ea go qu st ty th un om 0 1 (by omega) (by omega)) gX7_inSpan_X7_goes rfl ⟨rfl, by decide +kernel, by decide +kernel, by decide +kernel⟩ ⟨by decide, by decide⟩ 0 (fs := [.ref s, .int (iI st), .ref sv, .ref tx, .int (iI ty), .int (iI th), .ref fa, .ref ea, .ref go, .ref qu, .int (iI un), .int (iI om)]) rfl rfl rfl [0] (by decide) (wc := [(mo, .inr (6, [.ref s, .int (iI st), .ref sv, .ref tx, .int (iI ty), .int (iI th), .ref fa, .ref ea, .ref go, .ref qu, .int (iI un), .int (iI om)]))]) rfl [] rfl (Nat.le_of_ble_eq_true rfl) ⟨Nat.le_of_ble_eq_true rfl, Nat.le_of_ble_eq_true rfl⟩ dX7_inSpan_27 (fun u27 => [(mo, .inr (6, [.ref s, .int (iI st), .ref sv, .ref tx, .int (iI ty), .int (iI u27.2), .ref fa, .ref ea, .ref go, .ref qu, .int (iI un), .int (iI om)])), (fa, .inl (g_I (x_G X), 100000, .inl (aI fa1)))]) (Or.inr ⟨[1], [1, 0], [(fa, .inl (g_I (x_G X), 100000, .inl (aI fa1)))], rfl, by decide, by decide, by decide, fun _ => rfl⟩) (fun u27 => [.int (iI u27.1)]) (fun _ => rfl) 0 0 ⟨rfl, rfl⟩ (fun u27 hu27 => ?_)
      refine k_if_ne C 35 (⟨by omega, by omega⟩) dX7_inSpan_30 (by decide) (fun c30 => ?_) (fun c30 => ?_)
      · exfalso; omega
      · skip
        refine k_iconst C dX7_inSpan_33 ?_
        exact k_iret C hR (u := (0, u27.2)) rfl (by (try dsimp only) <;> exact (Or.inr ⟨by omega, by omega⟩)) rfl (Nat.le_of_ble_eq_true rfl) (Nat.le_of_ble_eq_true rfl) dX7_inSpan_34
    · skip
      have hu15 := bo_t hu15 c18
      refine k_iconst C dX7_inSpan_21 ?_
      refine k_goto C 26 dX7_inSpan_22 (by decide) ?_
      refine k_iconst C dX7_inSpan_26 ?_
      refine k_callV C (y := yX7_goes) [.int (iI 1), .int (iI 1)] 2 rfl (c_X7_goes (x_l X) (x_G X) mo s sv tx fa ea go qu st ty th un om 1 1 (by omega) (by omega)) gX7_inSpan_X7_goes rfl ⟨rfl, by decide +kernel, by decide +kernel, by decide +kernel⟩ ⟨by decide, by decide⟩ 0 (fs := [.ref s, .int (iI st), .ref sv, .ref tx, .int (iI ty), .int (iI th), .ref fa, .ref ea, .ref go, .ref qu, .int (iI un), .int (iI om)]) rfl rfl rfl [0] (by decide) (wc := [(mo, .inr (6, [.ref s, .int (iI st), .ref sv, .ref tx, .int (iI ty), .int (iI th), .ref fa, .ref ea, .ref go, .ref qu, .int (iI un), .int (iI om)]))]) rfl [] rfl (Nat.le_of_ble_eq_true rfl) ⟨Nat.le_of_ble_eq_true rfl, Nat.le_of_ble_eq_true rfl⟩ dX7_inSpan_27 (fun u27 => [(mo, .inr (6, [.ref s, .int (iI st), .ref sv, .ref tx, .int (iI ty), .int (iI u27.2), .ref fa, .ref ea, .ref go, .ref qu, .int (iI un), .int (iI om)])), (fa, .inl (g_I (x_G X), 100000, .inl (aI fa1)))]) (Or.inr ⟨[1], [1, 0], [(fa, .inl (g_I (x_G X), 100000, .inl (aI fa1)))], rfl, by decide, by decide, by decide, fun _ => rfl⟩) (fun u27 => [.int (iI u27.1)]) (fun _ => rfl) 0 0 ⟨rfl, rfl⟩ (fun u27 hu27 => ?_)
      refine k_if_ne C 35 (⟨by omega, by omega⟩) dX7_inSpan_30 (by decide) (fun c30 => ?_) (fun c30 => ?_)
      · skip
        refine k_iconst C dX7_inSpan_35 ?_
        refine k_istore_n C (lo' := [(3, .int (iI 0)), (0, .ref mo), (1, .int (iI x)), (2, .int (iI y))]) dX7_inSpan_36 rfl (by decide) rfl ?_
        refine k_iload_n C 2 rfl dX7_inSpan_37 rfl ?_
        refine k_istore C (lo' := [(4, .int (iI x)), (3, .int (iI 0)), (0, .ref mo), (1, .int (iI x)), (2, .int (iI y))]) dX7_inSpan_38 (by decide) rfl ?_
        have L40 : ∀ (nf : Nat) (c : Int) (i : Int), (x ≤ i ∧ i ≤ y + 1 ∧ c = (ct isP (i - 1).toNat : Int) - (ct isP (x - 1).toNat : Int)) → (y + 1 - i).toNat < nf → K_ X 0 0 [(mo, .inr (6, [.ref s, .int (iI st), .ref sv, .ref tx, .int (iI ty), .int (iI u27.2), .ref fa, .ref ea, .ref go, .ref qu, .int (iI un), .int (iI om)])), (fa, .inl (g_I (x_G X), 100000, .inl (aI fa1)))] 40 [(4, .int (iI i)), (3, .int (iI c)), (0, .ref mo), (1, .int (iI x)), (2, .int (iI y))] [] := by
          intro nf
          induction nf with
          | zero => intro c i hI hm; exact absurd hm (Nat.not_lt_zero _)
          | succ nf ih40 =>
            intro c i hI40 hm40
            obtain ⟨i1, i2, i3⟩ := hI40
            have hcl := ct_le isP (i - 1).toNat
            have hcm := ct_mono isP (show (x - 1).toNat ≤ (i - 1).toNat by omega)
            refine k_iload C 0 rfl dX7_inSpan_40 ?_
            refine k_iload_n C 4 rfl dX7_inSpan_42 rfl ?_
            refine k_icmp_gt C 69 (⟨by omega, by omega⟩) (⟨by omega, by omega⟩) dX7_inSpan_43 (by decide) (fun c43 => ?_) (fun c43 => ?_)
            · skip
              refine k_iload_n C 1 rfl dX7_inSpan_69 rfl ?_
              exact k_iret C hR (u := (c, u27.2)) rfl (by (try dsimp only) <;> exact (Or.inl ⟨by omega, by rw [i3, show (i - 1).toNat = y.toNat by omega], by omega⟩)) rfl (Nat.le_of_ble_eq_true rfl) (Nat.le_of_ble_eq_true rfl) dX7_inSpan_70
            · skip
              refine k_iload_n C 1 rfl dX7_inSpan_46 rfl ?_
              refine k_aload_n C 2 rfl dX7_inSpan_47 rfl ?_
              refine k_iload C 0 rfl dX7_inSpan_48 ?_
              refine k_callV C (y := yX7_isPrime) [.int (iI i)] 1 rfl (c_X7_isPrime (x_l X) (x_G X) mo s sv tx fa ea go qu st ty u27.2 un om i fa1 (by first | assumption | omega) (by first | assumption | omega)) gX7_inSpan_X7_isPrime rfl ⟨rfl, by decide +kernel, by decide +kernel, by decide +kernel⟩ ⟨by decide, by decide⟩ 0 (fs := [.ref s, .int (iI st), .ref sv, .ref tx, .int (iI ty), .int (iI u27.2), .ref fa, .ref ea, .ref go, .ref qu, .int (iI un), .int (iI om)]) rfl rfl rfl [0, 1] (by decide) (wc := [(mo, .inr (6, [.ref s, .int (iI st), .ref sv, .ref tx, .int (iI ty), .int (iI u27.2), .ref fa, .ref ea, .ref go, .ref qu, .int (iI un), .int (iI om)])), (fa, .inl (g_I (x_G X), 100000, .inl (aI fa1)))]) rfl [.int (iI c)] rfl (Nat.le_of_ble_eq_true rfl) ⟨Nat.le_of_ble_eq_true rfl, Nat.le_of_ble_eq_true rfl⟩ dX7_inSpan_50 (fun _ => [(mo, .inr (6, [.ref s, .int (iI st), .ref sv, .ref tx, .int (iI ty), .int (iI u27.2), .ref fa, .ref ea, .ref go, .ref qu, .int (iI un), .int (iI om)])), (fa, .inl (g_I (x_G X), 100000, .inl (aI fa1)))]) (Or.inl (fun _ => ⟨rfl, rfl⟩)) (fun u50 => [.int (iI u50), .int (iI c)]) (fun _ => rfl) 0 0 ⟨rfl, rfl⟩ (fun u50 hu50 => ?_)
              refine k_if_eq C 60 (⟨by omega, by omega⟩) dX7_inSpan_53 (by decide) (fun c53 => ?_) (fun c53 => ?_)
              · skip
                have hu50 := bo_f hu50 c53
                have hnx := ct_n (P := isP) (j := i.toNat) (hu50)
                refine k_iconst C dX7_inSpan_60 ?_
                refine k_iadd C dX7_inSpan_61 ?_
                refine k_nmI (fun v61 e61 => ?_)
                refine k_istore_n C (lo' := [(3, .int (iI v61)), (4, .int (iI i)), (0, .ref mo), (1, .int (iI x)), (2, .int (iI y))]) dX7_inSpan_62 rfl (by decide) rfl ?_
                obtain ⟨v63, e63⟩ : ∃ y : Int, y = i + 1 := ⟨_, rfl⟩
                refine k_iinc C (lo' := [(4, .int (iI v63)), (3, .int (iI v61)), (0, .ref mo), (1, .int (iI x)), (2, .int (iI y))]) 1 rfl dX7_inSpan_63 (by decide) v63 e63 rfl ?_
                refine k_goto C 40 dX7_inSpan_66 (by decide) ?_
                exact ih40 v61 v63 (⟨by omega, by omega, by rw [show (v63 - 1).toNat = i.toNat by omega, hnx, show i.toNat - 1 = (i - 1).toNat by omega]; omega⟩) (by omega)
              · skip
                have hu50 := bo_t hu50 c53
                have hpp : isP i.toNat = true := hu50
                have hnx := ct_y (P := isP) (j := i.toNat) (by have := isP_2 hpp; omega) hpp
                refine k_iconst C dX7_inSpan_56 ?_
                refine k_goto C 61 dX7_inSpan_57 (by decide) ?_
                refine k_iadd C dX7_inSpan_61 ?_
                refine k_nmI (fun v61 e61 => ?_)
                refine k_istore_n C (lo' := [(3, .int (iI v61)), (4, .int (iI i)), (0, .ref mo), (1, .int (iI x)), (2, .int (iI y))]) dX7_inSpan_62 rfl (by decide) rfl ?_
                obtain ⟨v63, e63⟩ : ∃ y : Int, y = i + 1 := ⟨_, rfl⟩
                refine k_iinc C (lo' := [(4, .int (iI v63)), (3, .int (iI v61)), (0, .ref mo), (1, .int (iI x)), (2, .int (iI y))]) 1 rfl dX7_inSpan_63 (by decide) v63 e63 rfl ?_
                refine k_goto C 40 dX7_inSpan_66 (by decide) ?_
                exact ih40 v61 v63 (⟨by omega, by omega, by rw [show (v63 - 1).toNat = i.toNat by omega, hnx, show i.toNat - 1 = (i - 1).toNat by omega]; omega⟩) (by omega)
        exact L40 _ 0 x (⟨by omega, by omega, by omega⟩) (Nat.lt_succ_self _)
      · exfalso; omega
set_option maxHeartbeats 4000000 in
set_option maxRecDepth 100000 in
theorem c_X7_prime (l : Launch) (G : KG) (mo s sv tx fa ea go qu : Nat) (st ty th un om : Int) (x : Int) (fa1 : Nat → Int) (hx : -2147483648 ≤ x ∧ x < 2147483648) (hF : ∀ x : Nat, 2 ≤ x → x ≤ 99999 → fa1 x = (lf x : Int)) : Ct l G yX7_prime wsX7_prime (rmD 1 0 0) [.ref mo, .int (iI x)] [(mo, .inr (6, [.ref s, .int (iI st), .ref sv, .ref tx, .int (iI ty), .int (iI th), .ref fa, .ref ea, .ref go, .ref qu, .int (iI un), .int (iI om)])), (fa, .inl (g_I G, 100000, .inl (aI fa1)))] (fun u : Int × Int => ((1 ≤ x ∧ x ≤ 9592) ∧ (∃ p : Nat, u.1 = (p : Int) ∧ isP p = true ∧ ct isP p = x.toNat) ∧ u.2 = 0) ∨ (¬ (1 ≤ x ∧ x ≤ 9592) ∧ u.2 = 1)) (fun u : Int × Int => some (.int (iI u.1))) (fun u : Int × Int => [(mo, .inr (6, [.ref s, .int (iI st), .ref sv, .ref tx, .int (iI ty), .int (iI u.2), .ref fa, .ref ea, .ref go, .ref qu, .int (iI un), .int (iI om)])), (fa, .inl (g_I G, 100000, .inl (aI fa1)))]) := by
  refine Ct.of (cc := cX7_prime) (maxL := 4) (ret := (some .int)) (by decide +kernel) rfl (Nat.le_of_ble_eq_true rfl) ?_
  intro X C hG hL hnm hR
  subst hG
  subst hL
  have C : Cx X cX7_prime RX7 wsX7_prime (some .int) 4 (rmD 1 0 0) := C
  show K_ X 0 0 [(mo, .inr (6, [.ref s, .int (iI st), .ref sv, .ref tx, .int (iI ty), .int (iI th), .ref fa, .ref ea, .ref go, .ref qu, .int (iI un), .int (iI om)])), (fa, .inl (g_I (x_G X), 100000, .inl (aI fa1)))] 0 [(0, .ref mo), (1, .int (iI x))] []
  refine k_aload_n C 0 rfl dX7_prime_0 rfl ?_
  refine k_iload_n C 1 rfl dX7_prime_1 rfl ?_
  refine k_iconst C dX7_prime_2 ?_
  refine k_sipush C dX7_prime_3 (by decide) ?_
  refine k_callS C (y := yX7_in) [.int (iI x), .int (iI 1), .int (iI 9592)] 3 rfl (c_X7_in (x_l X) (x_G X) x 1 9592 (by omega) (by omega) (by omega)) gX7_prime_X7_in rfl ⟨by decide +kernel, by decide +kernel, by decide +kernel⟩ ⟨by decide, by decide⟩ [] (by decide) (wc := []) rfl [.ref mo] rfl (Nat.le_of_ble_eq_true rfl) ⟨Nat.le_of_ble_eq_true rfl, Nat.le_of_ble_eq_true rfl⟩ dX7_prime_6 (fun _ => [(mo, .inr (6, [.ref s, .int (iI st), .ref sv, .ref tx, .int (iI ty), .int (iI th), .ref fa, .ref ea, .ref go, .ref qu, .int (iI un), .int (iI om)])), (fa, .inl (g_I (x_G X), 100000, .inl (aI fa1)))]) (Or.inl (fun _ => ⟨rfl, rfl⟩)) (fun u6 => [.int (iI u6), .ref mo]) (fun _ => rfl) 0 0 ⟨rfl, rfl⟩ (fun u6 hu6 => ?_)
  refine k_iconst C dX7_prime_9 ?_
  refine k_callV C (y := yX7_goes) [.int (iI u6), .int (iI 1)] 2 rfl (c_X7_goes (x_l X) (x_G X) mo s sv tx fa ea go qu st ty th un om u6 1 (by omega) (by omega)) gX7_prime_X7_goes rfl ⟨rfl, by decide +kernel, by decide +kernel, by decide +kernel⟩ ⟨by decide, by decide⟩ 0 (fs := [.ref s, .int (iI st), .ref sv, .ref tx, .int (iI ty), .int (iI th), .ref fa, .ref ea, .ref go, .ref qu, .int (iI un), .int (iI om)]) rfl rfl rfl [0] (by decide) (wc := [(mo, .inr (6, [.ref s, .int (iI st), .ref sv, .ref tx, .int (iI ty), .int (iI th), .ref fa, .ref ea, .ref go, .ref qu, .int (iI un), .int (iI om)]))]) rfl [] rfl (Nat.le_of_ble_eq_true rfl) ⟨Nat.le_of_ble_eq_true rfl, Nat.le_of_ble_eq_true rfl⟩ dX7_prime_10 (fun u10 => [(mo, .inr (6, [.ref s, .int (iI st), .ref sv, .ref tx, .int (iI ty), .int (iI u10.2), .ref fa, .ref ea, .ref go, .ref qu, .int (iI un), .int (iI om)])), (fa, .inl (g_I (x_G X), 100000, .inl (aI fa1)))]) (Or.inr ⟨[1], [1, 0], [(fa, .inl (g_I (x_G X), 100000, .inl (aI fa1)))], rfl, by decide, by decide, by decide, fun _ => rfl⟩) (fun u10 => [.int (iI u10.1)]) (fun _ => rfl) 0 0 ⟨rfl, rfl⟩ (fun u10 hu10 => ?_)
  refine k_if_ne C 18 (⟨by omega, by omega⟩) dX7_prime_13 (by decide) (fun c13 => ?_) (fun c13 => ?_)
  · skip
    refine k_iload_n C 1 rfl dX7_prime_18 rfl ?_
    refine k_istore_n C (lo' := [(2, .int (iI x)), (0, .ref mo), (1, .int (iI x))]) dX7_prime_19 rfl (by decide) rfl ?_
    refine k_iconst C dX7_prime_20 ?_
    refine k_istore_n C (lo' := [(3, .int (iI 1)), (2, .int (iI x)), (0, .ref mo), (1, .int (iI x))]) dX7_prime_21 rfl (by decide) rfl ?_
    have L22 : ∀ (nf : Nat) (j : Nat) (c : Int) (i : Int), (i = (j : Int) ∧ 1 ≤ j ∧ c = x - (ct isP j : Int) ∧ 0 ≤ c ∧ (c = 0 → isP j = true)) → (99999 - j) < nf → K_ X 0 0 [(mo, .inr (6, [.ref s, .int (iI st), .ref sv, .ref tx, .int (iI ty), .int (iI u10.2), .ref fa, .ref ea, .ref go, .ref qu, .int (iI un), .int (iI om)])), (fa, .inl (g_I (x_G X), 100000, .inl (aI fa1)))] 22 [(3, .int (iI i)), (2, .int (iI c)), (0, .ref mo), (1, .int (iI x))] [] := by
      intro nf
      induction nf with
      | zero => intro j c i hI hm; exact absurd hm (Nat.not_lt_zero _)
      | succ nf ih22 =>
        intro j c i hI22 hm22
        obtain ⟨i1, i2, i3, i4, i5⟩ := hI22
        have hcl := ct_le isP j
        refine k_iload_n C 1 rfl dX7_prime_22 rfl ?_
        refine k_if_le C 48 (⟨by omega, by omega⟩) dX7_prime_23 (by decide) (fun c23 => ?_) (fun c23 => ?_)
        · skip
          refine k_iload_n C 0 rfl dX7_prime_48 rfl ?_
          exact k_iret C hR (u := (i, u10.2)) rfl (by (try dsimp only) <;> exact (Or.inl ⟨by omega, ⟨j, i1, i5 (by omega), by omega⟩, by omega⟩)) rfl (Nat.le_of_ble_eq_true rfl) (Nat.le_of_ble_eq_true rfl) dX7_prime_49
        · skip
          have hj9 : j < 99999 := by (rcases Nat.lt_or_ge j 99999 with z | z; (exact z); (have := ct_mono isP z; have := pi_99999; omega))
          obtain ⟨v26, e26⟩ : ∃ y : Int, y = i + 1 := ⟨_, rfl⟩
          refine k_iinc C (lo' := [(3, .int (iI v26)), (2, .int (iI c)), (0, .ref mo), (1, .int (iI x))]) 0 rfl dX7_prime_26 (by decide) v26 e26 rfl ?_
          refine k_iload_n C 1 rfl dX7_prime_29 rfl ?_
          refine k_aload_n C 2 rfl dX7_prime_30 rfl ?_
          refine k_iload_n C 0 rfl dX7_prime_31 rfl ?_
          refine k_callV C (y := yX7_isPrime) [.int (iI v26)] 1 rfl (c_X7_isPrime (x_l X) (x_G X) mo s sv tx fa ea go qu st ty u10.2 un om v26 fa1 (by first | assumption | omega) (by first | assumption | omega)) gX7_prime_X7_isPrime rfl ⟨rfl, by decide +kernel, by decide +kernel, by decide +kernel⟩ ⟨by decide, by decide⟩ 0 (fs := [.ref s, .int (iI st), .ref sv, .ref tx, .int (iI ty), .int (iI u10.2), .ref fa, .ref ea, .ref go, .ref qu, .int (iI un), .int (iI om)]) rfl rfl rfl [0, 1] (by decide) (wc := [(mo, .inr (6, [.ref s, .int (iI st), .ref sv, .ref tx, .int (iI ty), .int (iI u10.2), .ref fa, .ref ea, .ref go, .ref qu, .int (iI un), .int (iI om)])), (fa, .inl (g_I (x_G X), 100000, .inl (aI fa1)))]) rfl [.int (iI c)] rfl (Nat.le_of_ble_eq_true rfl) ⟨Nat.le_of_ble_eq_true rfl, Nat.le_of_ble_eq_true rfl⟩ dX7_prime_32 (fun _ => [(mo, .inr (6, [.ref s, .int (iI st), .ref sv, .ref tx, .int (iI ty), .int (iI u10.2), .ref fa, .ref ea, .ref go, .ref qu, .int (iI un), .int (iI om)])), (fa, .inl (g_I (x_G X), 100000, .inl (aI fa1)))]) (Or.inl (fun _ => ⟨rfl, rfl⟩)) (fun u32 => [.int (iI u32), .int (iI c)]) (fun _ => rfl) 0 0 ⟨rfl, rfl⟩ (fun u32 hu32 => ?_)
          rw [show v26.toNat = j + 1 by omega] at hu32
          refine k_if_eq C 42 (⟨by omega, by omega⟩) dX7_prime_35 (by decide) (fun c35 => ?_) (fun c35 => ?_)
          · skip
            have hu32 := bo_f hu32 c35
            have hnx := ct_n1 (P := isP) (j := j) (hu32)
            refine k_iconst C dX7_prime_42 ?_
            refine k_isub C dX7_prime_43 ?_
            refine k_nmI (fun v43 e43 => ?_)
            refine k_istore_n C (lo' := [(2, .int (iI v43)), (3, .int (iI v26)), (0, .ref mo), (1, .int (iI x))]) dX7_prime_44 rfl (by decide) rfl ?_
            refine k_goto C 22 dX7_prime_45 (by decide) ?_
            refine k_lo (lo' := [(3, .int (iI v26)), (2, .int (iI v43)), (0, .ref mo), (1, .int (iI x))]) [1, 0, 2, 3] rfl ?_
            exact ih22 (j + 1) v43 v26 (⟨by omega, by omega, by rw [hnx]; omega, by omega, fun z => by first | exact hpp | omega⟩) (by omega)
          · skip
            have hu32 := bo_t hu32 c35
            have hpp : isP (j + 1) = true := hu32
            have hnx := ct_y1 (P := isP) (j := j) hpp
            refine k_iconst C dX7_prime_38 ?_
            refine k_goto C 43 dX7_prime_39 (by decide) ?_
            refine k_isub C dX7_prime_43 ?_
            refine k_nmI (fun v43 e43 => ?_)
            refine k_istore_n C (lo' := [(2, .int (iI v43)), (3, .int (iI v26)), (0, .ref mo), (1, .int (iI x))]) dX7_prime_44 rfl (by decide) rfl ?_
            refine k_goto C 22 dX7_prime_45 (by decide) ?_
            refine k_lo (lo' := [(3, .int (iI v26)), (2, .int (iI v43)), (0, .ref mo), (1, .int (iI x))]) [1, 0, 2, 3] rfl ?_
            exact ih22 (j + 1) v43 v26 (⟨by omega, by omega, by rw [hnx]; omega, by omega, fun z => by first | exact hpp | omega⟩) (by omega)
    exact L22 _ 1 x 1 (⟨rfl, by omega, by rw [ct_isP_lo (by decide)]; omega, by omega, fun z => by omega⟩) (Nat.lt_succ_self _)
  · skip
    refine k_iconst C dX7_prime_16 ?_
    exact k_iret C hR (u := (0, u10.2)) rfl (by (try dsimp only) <;> exact (Or.inr ⟨by omega, by omega⟩)) rfl (Nat.le_of_ble_eq_true rfl) (Nat.le_of_ble_eq_true rfl) dX7_prime_17
theorem in_X7_leastFactor_X7 : ∀ w ∈ wsX70, w ∈ wsX7_leastFactor := by decide +kernel
set_option maxHeartbeats 4000000 in
set_option maxRecDepth 100000 in
theorem c_X7_leastFactor (l : Launch) (G : KG) (mo s sv tx fa ea go qu : Nat) (st ty th un om : Int) (x : Int) (fa1 : Nat → Int) (hx : -2147483648 ≤ x ∧ x < 2147483648) (hF : ∀ x : Nat, 2 ≤ x → x ≤ 99999 → fa1 x = (lf x : Int)) : Ct l G yX7_leastFactor wsX7_leastFactor (rmD 1 0 0) [.ref mo, .int (iI x)] [(mo, .inr (6, [.ref s, .int (iI st), .ref sv, .ref tx, .int (iI ty), .int (iI th), .ref fa, .ref ea, .ref go, .ref qu, .int (iI un), .int (iI om)])), (fa, .inl (g_I G, 100000, .inl (aI fa1)))] (fun u : Int × Int => ((2 ≤ x ∧ x ≤ 99999) ∧ u.1 = (lf x.toNat : Int) ∧ u.2 = 0) ∨ (¬ (2 ≤ x ∧ x ≤ 99999) ∧ u.2 = 1)) (fun u : Int × Int => some (.int (iI u.1))) (fun u : Int × Int => [(mo, .inr (6, [.ref s, .int (iI st), .ref sv, .ref tx, .int (iI ty), .int (iI u.2), .ref fa, .ref ea, .ref go, .ref qu, .int (iI un), .int (iI om)])), (fa, .inl (g_I G, 100000, .inl (aI fa1)))]) := by
  refine Ct.of (cc := cX7_leastFactor) (maxL := 2) (ret := (some .int)) (by decide +kernel) rfl (Nat.le_of_ble_eq_true rfl) ?_
  intro X C hG hL hnm hR
  subst hG
  subst hL
  have C : Cx X cX7_leastFactor RX7 wsX7_leastFactor (some .int) 2 (rmD 1 0 0) := C
  show K_ X 0 0 [(mo, .inr (6, [.ref s, .int (iI st), .ref sv, .ref tx, .int (iI ty), .int (iI th), .ref fa, .ref ea, .ref go, .ref qu, .int (iI un), .int (iI om)])), (fa, .inl (g_I (x_G X), 100000, .inl (aI fa1)))] 0 [(0, .ref mo), (1, .int (iI x))] []
  refine k_aload_n C 0 rfl dX7_leastFactor_0 rfl ?_
  refine k_iload_n C 1 rfl dX7_leastFactor_1 rfl ?_
  refine k_iconst C dX7_leastFactor_2 ?_
  refine k_ldc C 99999 1 rfl (by decide) dX7_leastFactor_3 ?_
  refine k_callS C (y := yX7_in) [.int (iI x), .int (iI 2), .int (iI 99999)] 3 rfl (c_X7_in (x_l X) (x_G X) x 2 99999 (by omega) (by omega) (by omega)) gX7_leastFactor_X7_in rfl ⟨by decide +kernel, by decide +kernel, by decide +kernel⟩ ⟨by decide, by decide⟩ [] (by decide) (wc := []) rfl [.ref mo] rfl (Nat.le_of_ble_eq_true rfl) ⟨Nat.le_of_ble_eq_true rfl, Nat.le_of_ble_eq_true rfl⟩ dX7_leastFactor_5 (fun _ => [(mo, .inr (6, [.ref s, .int (iI st), .ref sv, .ref tx, .int (iI ty), .int (iI th), .ref fa, .ref ea, .ref go, .ref qu, .int (iI un), .int (iI om)])), (fa, .inl (g_I (x_G X), 100000, .inl (aI fa1)))]) (Or.inl (fun _ => ⟨rfl, rfl⟩)) (fun u5 => [.int (iI u5), .ref mo]) (fun _ => rfl) 0 0 ⟨rfl, rfl⟩ (fun u5 hu5 => ?_)
  refine k_iconst C dX7_leastFactor_8 ?_
  refine k_callV C (y := yX7_goes) [.int (iI u5), .int (iI 1)] 2 rfl (c_X7_goes (x_l X) (x_G X) mo s sv tx fa ea go qu st ty th un om u5 1 (by omega) (by omega)) gX7_leastFactor_X7_goes rfl ⟨rfl, by decide +kernel, by decide +kernel, by decide +kernel⟩ ⟨by decide, by decide⟩ 0 (fs := [.ref s, .int (iI st), .ref sv, .ref tx, .int (iI ty), .int (iI th), .ref fa, .ref ea, .ref go, .ref qu, .int (iI un), .int (iI om)]) rfl rfl rfl [0] (by decide) (wc := [(mo, .inr (6, [.ref s, .int (iI st), .ref sv, .ref tx, .int (iI ty), .int (iI th), .ref fa, .ref ea, .ref go, .ref qu, .int (iI un), .int (iI om)]))]) rfl [] rfl (Nat.le_of_ble_eq_true rfl) ⟨Nat.le_of_ble_eq_true rfl, Nat.le_of_ble_eq_true rfl⟩ dX7_leastFactor_9 (fun u9 => [(mo, .inr (6, [.ref s, .int (iI st), .ref sv, .ref tx, .int (iI ty), .int (iI u9.2), .ref fa, .ref ea, .ref go, .ref qu, .int (iI un), .int (iI om)])), (fa, .inl (g_I (x_G X), 100000, .inl (aI fa1)))]) (Or.inr ⟨[1], [1, 0], [(fa, .inl (g_I (x_G X), 100000, .inl (aI fa1)))], rfl, by decide, by decide, by decide, fun _ => rfl⟩) (fun u9 => [.int (iI u9.1)]) (fun _ => rfl) 0 0 ⟨rfl, rfl⟩ (fun u9 hu9 => ?_)
  refine k_if_eq C 24 (⟨by omega, by omega⟩) dX7_leastFactor_12 (by decide) (fun c12 => ?_) (fun c12 => ?_)
  · skip
    refine k_iconst C dX7_leastFactor_24 ?_
    exact k_iret C hR (u := (0, u9.2)) rfl (by (try dsimp only) <;> exact (Or.inr ⟨by omega, by omega⟩)) rfl (Nat.le_of_ble_eq_true rfl) (Nat.le_of_ble_eq_true rfl) dX7_leastFactor_25
  · skip
    refine k_aload_n C 0 rfl dX7_leastFactor_15 rfl ?_
    refine k_get C (Cn := RX7) (T := TX7) (N := 12) (ci := 6) (ref := "StruckCountsModel") in_X7_leastFactor_X7 0 rfl rfl 6 (by decide) 2 rfl rfl (v := .ref fa) rfl dX7_leastFactor_16 ?_
    refine k_iload_n C 1 rfl dX7_leastFactor_19 rfl ?_
    refine k_iald C (f := fa1) 1 rfl (⟨by omega, by omega⟩) (by decide) dX7_leastFactor_20 ?_
    refine k_nmI (fun v20 e20 => ?_)
    have h20 : v20 = (lf x.toNat : Int) := by rw [e20]; exact hF _ (by omega) (by omega)
    refine k_goto C 25 dX7_leastFactor_21 (by decide) ?_
    exact k_iret C hR (u := (v20, u9.2)) rfl (by (try dsimp only) <;> exact (Or.inl ⟨by omega, h20, by omega⟩)) rfl (Nat.le_of_ble_eq_true rfl) (Nat.le_of_ble_eq_true rfl) dX7_leastFactor_25
theorem in_X7_withLeast_X7 : ∀ w ∈ wsX70, w ∈ wsX7_withLeast := by decide +kernel
set_option maxHeartbeats 4000000 in
set_option maxRecDepth 100000 in
theorem c_X7_withLeast (l : Launch) (G : KG) (mo s sv tx fa ea go qu : Nat) (st ty th un om : Int) (x p : Int) (fa1 : Nat → Int) (hx : -2147483648 ≤ x ∧ x < 2147483648) (hp : -2147483648 ≤ p ∧ p < 2147483648) (hF : ∀ x : Nat, 2 ≤ x → x ≤ 99999 → fa1 x = (lf x : Int)) : Ct l G yX7_withLeast wsX7_withLeast (rmD 1 0 0) [.ref mo, .int (iI x), .int (iI p)] [(mo, .inr (6, [.ref s, .int (iI st), .ref sv, .ref tx, .int (iI ty), .int (iI th), .ref fa, .ref ea, .ref go, .ref qu, .int (iI un), .int (iI om)])), (fa, .inl (g_I G, 100000, .inl (aI fa1)))] (fun u : Int × Int => (((1 ≤ x ∧ x ≤ 99999) ∧ 2 ≤ p ∧ p ≤ 99999) ∧ u.1 = (ct (wlF p.toNat) x.toNat : Int) ∧ u.2 = 0) ∨ (¬ ((1 ≤ x ∧ x ≤ 99999) ∧ 2 ≤ p ∧ p ≤ 99999) ∧ u.2 = 1)) (fun u : Int × Int => some (.int (iI u.1))) (fun u : Int × Int => [(mo, .inr (6, [.ref s, .int (iI st), .ref sv, .ref tx, .int (iI ty), .int (iI u.2), .ref fa, .ref ea, .ref go, .ref qu, .int (iI un), .int (iI om)])), (fa, .inl (g_I G, 100000, .inl (aI fa1)))]) := by
  refine Ct.of (cc := cX7_withLeast) (maxL := 5) (ret := (some .int)) (by decide +kernel) rfl (Nat.le_of_ble_eq_true rfl) ?_
  intro X C hG hL hnm hR
  subst hG
  subst hL
  have C : Cx X cX7_withLeast RX7 wsX7_withLeast (some .int) 5 (rmD 1 0 0) := C
  show K_ X 0 0 [(mo, .inr (6, [.ref s, .int (iI st), .ref sv, .ref tx, .int (iI ty), .int (iI th), .ref fa, .ref ea, .ref go, .ref qu, .int (iI un), .int (iI om)])), (fa, .inl (g_I (x_G X), 100000, .inl (aI fa1)))] 0 [(0, .ref mo), (1, .int (iI x)), (2, .int (iI p))] []
  refine k_aload_n C 0 rfl dX7_withLeast_0 rfl ?_
  refine k_iload_n C 1 rfl dX7_withLeast_1 rfl ?_
  refine k_iconst C dX7_withLeast_2 ?_
  refine k_ldc C 99999 1 rfl (by decide) dX7_withLeast_3 ?_
  refine k_callS C (y := yX7_in) [.int (iI x), .int (iI 1), .int (iI 99999)] 3 rfl (c_X7_in (x_l X) (x_G X) x 1 99999 (by omega) (by omega) (by omega)) gX7_withLeast_X7_in rfl ⟨by decide +kernel, by decide +kernel, by decide +kernel⟩ ⟨by decide, by decide⟩ [] (by decide) (wc := []) rfl [.ref mo] rfl (Nat.le_of_ble_eq_true rfl) ⟨Nat.le_of_ble_eq_true rfl, Nat.le_of_ble_eq_true rfl⟩ dX7_withLeast_5 (fun _ => [(mo, .inr (6, [.ref s, .int (iI st), .ref sv, .ref tx, .int (iI ty), .int (iI th), .ref fa, .ref ea, .ref go, .ref qu, .int (iI un), .int (iI om)])), (fa, .inl (g_I (x_G X), 100000, .inl (aI fa1)))]) (Or.inl (fun _ => ⟨rfl, rfl⟩)) (fun u5 => [.int (iI u5), .ref mo]) (fun _ => rfl) 0 0 ⟨rfl, rfl⟩ (fun u5 hu5 => ?_)
  refine k_if_eq C 25 (⟨by omega, by omega⟩) dX7_withLeast_8 (by decide) (fun c8 => ?_) (fun c8 => ?_)
  · skip
    have hu5 := bo_f hu5 c8
    refine k_iconst C dX7_withLeast_25 ?_
    refine k_iconst C dX7_withLeast_26 ?_
    refine k_callV C (y := yX7_goes) [.int (iI 0), .int (iI 1)] 2 rfl (c_X7_goes (x_l X) (x_G X) mo s sv tx fa ea go qu st ty th un om 0 1 (by omega) (by omega)) gX7_withLeast_X7_goes rfl ⟨rfl, by decide +kernel, by decide +kernel, by decide +kernel⟩ ⟨by decide, by decide⟩ 0 (fs := [.ref s, .int (iI st), .ref sv, .ref tx, .int (iI ty), .int (iI th), .ref fa, .ref ea, .ref go, .ref qu, .int (iI un), .int (iI om)]) rfl rfl rfl [0] (by decide) (wc := [(mo, .inr (6, [.ref s, .int (iI st), .ref sv, .ref tx, .int (iI ty), .int (iI th), .ref fa, .ref ea, .ref go, .ref qu, .int (iI un), .int (iI om)]))]) rfl [] rfl (Nat.le_of_ble_eq_true rfl) ⟨Nat.le_of_ble_eq_true rfl, Nat.le_of_ble_eq_true rfl⟩ dX7_withLeast_27 (fun u27 => [(mo, .inr (6, [.ref s, .int (iI st), .ref sv, .ref tx, .int (iI ty), .int (iI u27.2), .ref fa, .ref ea, .ref go, .ref qu, .int (iI un), .int (iI om)])), (fa, .inl (g_I (x_G X), 100000, .inl (aI fa1)))]) (Or.inr ⟨[1], [1, 0], [(fa, .inl (g_I (x_G X), 100000, .inl (aI fa1)))], rfl, by decide, by decide, by decide, fun _ => rfl⟩) (fun u27 => [.int (iI u27.1)]) (fun _ => rfl) 0 0 ⟨rfl, rfl⟩ (fun u27 hu27 => ?_)
    refine k_if_ne C 35 (⟨by omega, by omega⟩) dX7_withLeast_30 (by decide) (fun c30 => ?_) (fun c30 => ?_)
    · exfalso; omega
    · skip
      refine k_iconst C dX7_withLeast_33 ?_
      exact k_iret C hR (u := (0, u27.2)) rfl (by (try dsimp only) <;> exact (Or.inr ⟨by omega, by omega⟩)) rfl (Nat.le_of_ble_eq_true rfl) (Nat.le_of_ble_eq_true rfl) dX7_withLeast_34
  · skip
    have hu5 := bo_t hu5 c8
    refine k_iload_n C 2 rfl dX7_withLeast_11 rfl ?_
    refine k_iconst C dX7_withLeast_12 ?_
    refine k_ldc C 99999 1 rfl (by decide) dX7_withLeast_13 ?_
    refine k_callS C (y := yX7_in) [.int (iI p), .int (iI 2), .int (iI 99999)] 3 rfl (c_X7_in (x_l X) (x_G X) p 2 99999 (by omega) (by omega) (by omega)) gX7_withLeast_X7_in rfl ⟨by decide +kernel, by decide +kernel, by decide +kernel⟩ ⟨by decide, by decide⟩ [] (by decide) (wc := []) rfl [.ref mo] rfl (Nat.le_of_ble_eq_true rfl) ⟨Nat.le_of_ble_eq_true rfl, Nat.le_of_ble_eq_true rfl⟩ dX7_withLeast_15 (fun _ => [(mo, .inr (6, [.ref s, .int (iI st), .ref sv, .ref tx, .int (iI ty), .int (iI th), .ref fa, .ref ea, .ref go, .ref qu, .int (iI un), .int (iI om)])), (fa, .inl (g_I (x_G X), 100000, .inl (aI fa1)))]) (Or.inl (fun _ => ⟨rfl, rfl⟩)) (fun u15 => [.int (iI u15), .ref mo]) (fun _ => rfl) 0 0 ⟨rfl, rfl⟩ (fun u15 hu15 => ?_)
    refine k_if_eq C 25 (⟨by omega, by omega⟩) dX7_withLeast_18 (by decide) (fun c18 => ?_) (fun c18 => ?_)
    · skip
      have hu15 := bo_f hu15 c18
      refine k_iconst C dX7_withLeast_25 ?_
      refine k_iconst C dX7_withLeast_26 ?_
      refine k_callV C (y := yX7_goes) [.int (iI 0), .int (iI 1)] 2 rfl (c_X7_goes (x_l X) (x_G X) mo s sv tx fa ea go qu st ty th un om 0 1 (by omega) (by omega)) gX7_withLeast_X7_goes rfl ⟨rfl, by decide +kernel, by decide +kernel, by decide +kernel⟩ ⟨by decide, by decide⟩ 0 (fs := [.ref s, .int (iI st), .ref sv, .ref tx, .int (iI ty), .int (iI th), .ref fa, .ref ea, .ref go, .ref qu, .int (iI un), .int (iI om)]) rfl rfl rfl [0] (by decide) (wc := [(mo, .inr (6, [.ref s, .int (iI st), .ref sv, .ref tx, .int (iI ty), .int (iI th), .ref fa, .ref ea, .ref go, .ref qu, .int (iI un), .int (iI om)]))]) rfl [] rfl (Nat.le_of_ble_eq_true rfl) ⟨Nat.le_of_ble_eq_true rfl, Nat.le_of_ble_eq_true rfl⟩ dX7_withLeast_27 (fun u27 => [(mo, .inr (6, [.ref s, .int (iI st), .ref sv, .ref tx, .int (iI ty), .int (iI u27.2), .ref fa, .ref ea, .ref go, .ref qu, .int (iI un), .int (iI om)])), (fa, .inl (g_I (x_G X), 100000, .inl (aI fa1)))]) (Or.inr ⟨[1], [1, 0], [(fa, .inl (g_I (x_G X), 100000, .inl (aI fa1)))], rfl, by decide, by decide, by decide, fun _ => rfl⟩) (fun u27 => [.int (iI u27.1)]) (fun _ => rfl) 0 0 ⟨rfl, rfl⟩ (fun u27 hu27 => ?_)
      refine k_if_ne C 35 (⟨by omega, by omega⟩) dX7_withLeast_30 (by decide) (fun c30 => ?_) (fun c30 => ?_)
      · exfalso; omega
      · skip
        refine k_iconst C dX7_withLeast_33 ?_
        exact k_iret C hR (u := (0, u27.2)) rfl (by (try dsimp only) <;> exact (Or.inr ⟨by omega, by omega⟩)) rfl (Nat.le_of_ble_eq_true rfl) (Nat.le_of_ble_eq_true rfl) dX7_withLeast_34
    · skip
      have hu15 := bo_t hu15 c18
      refine k_iconst C dX7_withLeast_21 ?_
      refine k_goto C 26 dX7_withLeast_22 (by decide) ?_
      refine k_iconst C dX7_withLeast_26 ?_
      refine k_callV C (y := yX7_goes) [.int (iI 1), .int (iI 1)] 2 rfl (c_X7_goes (x_l X) (x_G X) mo s sv tx fa ea go qu st ty th un om 1 1 (by omega) (by omega)) gX7_withLeast_X7_goes rfl ⟨rfl, by decide +kernel, by decide +kernel, by decide +kernel⟩ ⟨by decide, by decide⟩ 0 (fs := [.ref s, .int (iI st), .ref sv, .ref tx, .int (iI ty), .int (iI th), .ref fa, .ref ea, .ref go, .ref qu, .int (iI un), .int (iI om)]) rfl rfl rfl [0] (by decide) (wc := [(mo, .inr (6, [.ref s, .int (iI st), .ref sv, .ref tx, .int (iI ty), .int (iI th), .ref fa, .ref ea, .ref go, .ref qu, .int (iI un), .int (iI om)]))]) rfl [] rfl (Nat.le_of_ble_eq_true rfl) ⟨Nat.le_of_ble_eq_true rfl, Nat.le_of_ble_eq_true rfl⟩ dX7_withLeast_27 (fun u27 => [(mo, .inr (6, [.ref s, .int (iI st), .ref sv, .ref tx, .int (iI ty), .int (iI u27.2), .ref fa, .ref ea, .ref go, .ref qu, .int (iI un), .int (iI om)])), (fa, .inl (g_I (x_G X), 100000, .inl (aI fa1)))]) (Or.inr ⟨[1], [1, 0], [(fa, .inl (g_I (x_G X), 100000, .inl (aI fa1)))], rfl, by decide, by decide, by decide, fun _ => rfl⟩) (fun u27 => [.int (iI u27.1)]) (fun _ => rfl) 0 0 ⟨rfl, rfl⟩ (fun u27 hu27 => ?_)
      refine k_if_ne C 35 (⟨by omega, by omega⟩) dX7_withLeast_30 (by decide) (fun c30 => ?_) (fun c30 => ?_)
      · skip
        refine k_iconst C dX7_withLeast_35 ?_
        refine k_istore_n C (lo' := [(3, .int (iI 0)), (0, .ref mo), (1, .int (iI x)), (2, .int (iI p))]) dX7_withLeast_36 rfl (by decide) rfl ?_
        refine k_iconst C dX7_withLeast_37 ?_
        refine k_istore C (lo' := [(4, .int (iI 2)), (3, .int (iI 0)), (0, .ref mo), (1, .int (iI x)), (2, .int (iI p))]) dX7_withLeast_38 (by decide) rfl ?_
        have L40 : ∀ (nf : Nat) (j : Nat) (c : Int) (i : Int), (i = ((j + 1 : Nat) : Int) ∧ 1 ≤ j ∧ ((j : Int) ≤ x ∨ j = 1) ∧ c = (ct (wlF p.toNat) j : Int)) → (x - (j : Int)).toNat < nf → K_ X 0 0 [(mo, .inr (6, [.ref s, .int (iI st), .ref sv, .ref tx, .int (iI ty), .int (iI u27.2), .ref fa, .ref ea, .ref go, .ref qu, .int (iI un), .int (iI om)])), (fa, .inl (g_I (x_G X), 100000, .inl (aI fa1)))] 40 [(4, .int (iI i)), (3, .int (iI c)), (0, .ref mo), (1, .int (iI x)), (2, .int (iI p))] [] := by
          intro nf
          induction nf with
          | zero => intro j c i hI hm; exact absurd hm (Nat.not_lt_zero _)
          | succ nf ih40 =>
            intro j c i hI40 hm40
            obtain ⟨i1, i2, i3, i4⟩ := hI40
            have hcl : ct (wlF p.toNat) j ≤ j := ct_le _ j
            refine k_iload C 0 rfl dX7_withLeast_40 ?_
            refine k_iload_n C 3 rfl dX7_withLeast_42 rfl ?_
            refine k_icmp_gt C 71 (⟨by omega, by omega⟩) (⟨by omega, by omega⟩) dX7_withLeast_43 (by decide) (fun c43 => ?_) (fun c43 => ?_)
            · skip
              have hend : ct (wlF p.toNat) x.toNat = ct (wlF p.toNat) j := by rcases i3 with z | z; (rw [show x.toNat = j by omega]); (rcases Nat.lt_or_ge x.toNat 1 with y | y; (rw [z, wl_lo (by omega), wl_lo (by omega)]); (rw [show x.toNat = j by omega]))
              refine k_iload_n C 1 rfl dX7_withLeast_71 rfl ?_
              exact k_iret C hR (u := (c, u27.2)) rfl (by (try dsimp only) <;> exact (Or.inl ⟨by omega, by rw [hend]; exact i4, by omega⟩)) rfl (Nat.le_of_ble_eq_true rfl) (Nat.le_of_ble_eq_true rfl) dX7_withLeast_72
            · skip
              refine k_iload_n C 1 rfl dX7_withLeast_46 rfl ?_
              refine k_aload_n C 2 rfl dX7_withLeast_47 rfl ?_
              refine k_get C (Cn := RX7) (T := TX7) (N := 12) (ci := 6) (ref := "StruckCountsModel") in_X7_withLeast_X7 0 rfl rfl 6 (by decide) 2 rfl rfl (v := .ref fa) rfl dX7_withLeast_48 ?_
              refine k_iload C 0 rfl dX7_withLeast_51 ?_
              refine k_iald C (f := fa1) 1 rfl (⟨by omega, by omega⟩) (by decide) dX7_withLeast_53 ?_
              refine k_nmI (fun v53 e53 => ?_)
              have h53 : v53 = (lf (j + 1) : Int) := by rw [e53, show i.toNat = j + 1 by omega]; exact hF _ (by omega) (by omega)
              have hl53 := lf_le (x := j + 1) (by omega)
              refine k_iload_n C 4 rfl dX7_withLeast_54 rfl ?_
              refine k_icmp_ne C 62 (⟨by omega, by omega⟩) (⟨by omega, by omega⟩) dX7_withLeast_55 (by decide) (fun c55 => ?_) (fun c55 => ?_)
              · skip
                have hnx := ct_n1 (P := wlF p.toNat) (j := j) (fun y => by have := (wl_iff.mp y).2; omega)
                refine k_iconst C dX7_withLeast_62 ?_
                refine k_iadd C dX7_withLeast_63 ?_
                refine k_nmI (fun v63 e63 => ?_)
                refine k_istore_n C (lo' := [(3, .int (iI v63)), (4, .int (iI i)), (0, .ref mo), (1, .int (iI x)), (2, .int (iI p))]) dX7_withLeast_64 rfl (by decide) rfl ?_
                obtain ⟨v65, e65⟩ : ∃ y : Int, y = i + 1 := ⟨_, rfl⟩
                refine k_iinc C (lo' := [(4, .int (iI v65)), (3, .int (iI v63)), (0, .ref mo), (1, .int (iI x)), (2, .int (iI p))]) 1 rfl dX7_withLeast_65 (by decide) v65 e65 rfl ?_
                refine k_goto C 40 dX7_withLeast_68 (by decide) ?_
                exact ih40 (j + 1) v63 v65 (⟨by omega, by omega, by omega, by rw [hnx]; omega⟩) (by omega)
              · skip
                have hnx := ct_y1 (P := wlF p.toNat) (j := j) (wl_iff.mpr ⟨by omega, by omega⟩)
                refine k_iconst C dX7_withLeast_58 ?_
                refine k_goto C 63 dX7_withLeast_59 (by decide) ?_
                refine k_iadd C dX7_withLeast_63 ?_
                refine k_nmI (fun v63 e63 => ?_)
                refine k_istore_n C (lo' := [(3, .int (iI v63)), (4, .int (iI i)), (0, .ref mo), (1, .int (iI x)), (2, .int (iI p))]) dX7_withLeast_64 rfl (by decide) rfl ?_
                obtain ⟨v65, e65⟩ : ∃ y : Int, y = i + 1 := ⟨_, rfl⟩
                refine k_iinc C (lo' := [(4, .int (iI v65)), (3, .int (iI v63)), (0, .ref mo), (1, .int (iI x)), (2, .int (iI p))]) 1 rfl dX7_withLeast_65 (by decide) v65 e65 rfl ?_
                refine k_goto C 40 dX7_withLeast_68 (by decide) ?_
                exact ih40 (j + 1) v63 v65 (⟨by omega, by omega, by omega, by rw [hnx]; omega⟩) (by omega)
        exact L40 _ 1 0 2 (⟨rfl, by omega, by omega, by rw [wl_lo (by decide)]; rfl⟩) (Nat.lt_succ_self _)
      · exfalso; omega
theorem in_X7_twoFactors_X7 : ∀ w ∈ wsX70, w ∈ wsX7_twoFactors := by decide +kernel
set_option maxHeartbeats 4000000 in
set_option maxRecDepth 100000 in
theorem c_X7_twoFactors (l : Launch) (G : KG) (mo s sv tx fa ea go qu : Nat) (st ty th un om : Int) (x : Int) (fa1 : Nat → Int) (hx : -2147483648 ≤ x ∧ x < 2147483648) (hF : ∀ x : Nat, 2 ≤ x → x ≤ 99999 → fa1 x = (lf x : Int)) : Ct l G yX7_twoFactors wsX7_twoFactors (rmD 1 0 0) [.ref mo, .int (iI x)] [(mo, .inr (6, [.ref s, .int (iI st), .ref sv, .ref tx, .int (iI ty), .int (iI th), .ref fa, .ref ea, .ref go, .ref qu, .int (iI un), .int (iI om)])), (fa, .inl (g_I G, 100000, .inl (aI fa1)))] (fun u : Int × Int => ((0 ≤ x ∧ x ≤ 99999) ∧ u.1 = (ct twF x.toNat : Int) ∧ u.2 = 0) ∨ (¬ (0 ≤ x ∧ x ≤ 99999) ∧ u.2 = 1)) (fun u : Int × Int => some (.int (iI u.1))) (fun u : Int × Int => [(mo, .inr (6, [.ref s, .int (iI st), .ref sv, .ref tx, .int (iI ty), .int (iI u.2), .ref fa, .ref ea, .ref go, .ref qu, .int (iI un), .int (iI om)])), (fa, .inl (g_I G, 100000, .inl (aI fa1)))]) := by
  refine Ct.of (cc := cX7_twoFactors) (maxL := 4) (ret := (some .int)) (by decide +kernel) rfl (Nat.le_of_ble_eq_true rfl) ?_
  intro X C hG hL hnm hR
  subst hG
  subst hL
  have C : Cx X cX7_twoFactors RX7 wsX7_twoFactors (some .int) 4 (rmD 1 0 0) := C
  show K_ X 0 0 [(mo, .inr (6, [.ref s, .int (iI st), .ref sv, .ref tx, .int (iI ty), .int (iI th), .ref fa, .ref ea, .ref go, .ref qu, .int (iI un), .int (iI om)])), (fa, .inl (g_I (x_G X), 100000, .inl (aI fa1)))] 0 [(0, .ref mo), (1, .int (iI x))] []
  refine k_aload_n C 0 rfl dX7_twoFactors_0 rfl ?_
  refine k_iload_n C 1 rfl dX7_twoFactors_1 rfl ?_
  refine k_iconst C dX7_twoFactors_2 ?_
  refine k_ldc C 99999 1 rfl (by decide) dX7_twoFactors_3 ?_
  refine k_callS C (y := yX7_in) [.int (iI x), .int (iI 0), .int (iI 99999)] 3 rfl (c_X7_in (x_l X) (x_G X) x 0 99999 (by omega) (by omega) (by omega)) gX7_twoFactors_X7_in rfl ⟨by decide +kernel, by decide +kernel, by decide +kernel⟩ ⟨by decide, by decide⟩ [] (by decide) (wc := []) rfl [.ref mo] rfl (Nat.le_of_ble_eq_true rfl) ⟨Nat.le_of_ble_eq_true rfl, Nat.le_of_ble_eq_true rfl⟩ dX7_twoFactors_5 (fun _ => [(mo, .inr (6, [.ref s, .int (iI st), .ref sv, .ref tx, .int (iI ty), .int (iI th), .ref fa, .ref ea, .ref go, .ref qu, .int (iI un), .int (iI om)])), (fa, .inl (g_I (x_G X), 100000, .inl (aI fa1)))]) (Or.inl (fun _ => ⟨rfl, rfl⟩)) (fun u5 => [.int (iI u5), .ref mo]) (fun _ => rfl) 0 0 ⟨rfl, rfl⟩ (fun u5 hu5 => ?_)
  refine k_iconst C dX7_twoFactors_8 ?_
  refine k_callV C (y := yX7_goes) [.int (iI u5), .int (iI 1)] 2 rfl (c_X7_goes (x_l X) (x_G X) mo s sv tx fa ea go qu st ty th un om u5 1 (by omega) (by omega)) gX7_twoFactors_X7_goes rfl ⟨rfl, by decide +kernel, by decide +kernel, by decide +kernel⟩ ⟨by decide, by decide⟩ 0 (fs := [.ref s, .int (iI st), .ref sv, .ref tx, .int (iI ty), .int (iI th), .ref fa, .ref ea, .ref go, .ref qu, .int (iI un), .int (iI om)]) rfl rfl rfl [0] (by decide) (wc := [(mo, .inr (6, [.ref s, .int (iI st), .ref sv, .ref tx, .int (iI ty), .int (iI th), .ref fa, .ref ea, .ref go, .ref qu, .int (iI un), .int (iI om)]))]) rfl [] rfl (Nat.le_of_ble_eq_true rfl) ⟨Nat.le_of_ble_eq_true rfl, Nat.le_of_ble_eq_true rfl⟩ dX7_twoFactors_9 (fun u9 => [(mo, .inr (6, [.ref s, .int (iI st), .ref sv, .ref tx, .int (iI ty), .int (iI u9.2), .ref fa, .ref ea, .ref go, .ref qu, .int (iI un), .int (iI om)])), (fa, .inl (g_I (x_G X), 100000, .inl (aI fa1)))]) (Or.inr ⟨[1], [1, 0], [(fa, .inl (g_I (x_G X), 100000, .inl (aI fa1)))], rfl, by decide, by decide, by decide, fun _ => rfl⟩) (fun u9 => [.int (iI u9.1)]) (fun _ => rfl) 0 0 ⟨rfl, rfl⟩ (fun u9 hu9 => ?_)
  refine k_if_ne C 17 (⟨by omega, by omega⟩) dX7_twoFactors_12 (by decide) (fun c12 => ?_) (fun c12 => ?_)
  · skip
    refine k_iconst C dX7_twoFactors_17 ?_
    refine k_istore_n C (lo' := [(2, .int (iI 0)), (0, .ref mo), (1, .int (iI x))]) dX7_twoFactors_18 rfl (by decide) rfl ?_
    refine k_iconst C dX7_twoFactors_19 ?_
    refine k_istore_n C (lo' := [(3, .int (iI 4)), (2, .int (iI 0)), (0, .ref mo), (1, .int (iI x))]) dX7_twoFactors_20 rfl (by decide) rfl ?_
    have L21 : ∀ (nf : Nat) (j : Nat) (c : Int) (i : Int), (i = ((j + 1 : Nat) : Int) ∧ 3 ≤ j ∧ ((j : Int) ≤ x ∨ j = 3) ∧ c = (ct twF j : Int)) → (x - (j : Int)).toNat < nf → K_ X 0 0 [(mo, .inr (6, [.ref s, .int (iI st), .ref sv, .ref tx, .int (iI ty), .int (iI u9.2), .ref fa, .ref ea, .ref go, .ref qu, .int (iI un), .int (iI om)])), (fa, .inl (g_I (x_G X), 100000, .inl (aI fa1)))] 21 [(3, .int (iI i)), (2, .int (iI c)), (0, .ref mo), (1, .int (iI x))] [] := by
      intro nf
      induction nf with
      | zero => intro j c i hI hm; exact absurd hm (Nat.not_lt_zero _)
      | succ nf ih21 =>
        intro j c i hI21 hm21
        obtain ⟨i1, i2, i3, i4⟩ := hI21
        have hcl := ct_le twF j
        have hlf := lf_le (x := j + 1) (by omega)
        have hl2 := (lf_spec (x := j + 1) (by omega)).1
        refine k_iload_n C 0 rfl dX7_twoFactors_21 rfl ?_
        refine k_iload_n C 3 rfl dX7_twoFactors_22 rfl ?_
        refine k_icmp_gt C 63 (⟨by omega, by omega⟩) (⟨by omega, by omega⟩) dX7_twoFactors_23 (by decide) (fun c23 => ?_) (fun c23 => ?_)
        · skip
          have hend : ct twF x.toNat = ct twF j := by rcases i3 with z | z; (rw [show x.toNat = j by omega]); (rcases Nat.lt_or_ge x.toNat 3 with y | y; (rw [z, tw_lo (by omega), tw_lo (by omega)]); (rw [show x.toNat = j by omega]))
          refine k_iload_n C 1 rfl dX7_twoFactors_63 rfl ?_
          exact k_iret C hR (u := (c, u9.2)) rfl (by (try dsimp only) <;> exact (Or.inl ⟨by omega, by rw [hend]; exact i4, by omega⟩)) rfl (Nat.le_of_ble_eq_true rfl) (Nat.le_of_ble_eq_true rfl) dX7_twoFactors_64
        · skip
          refine k_iload_n C 1 rfl dX7_twoFactors_26 rfl ?_
          refine k_aload_n C 2 rfl dX7_twoFactors_27 rfl ?_
          refine k_iload_n C 0 rfl dX7_twoFactors_28 rfl ?_
          refine k_callV C (y := yX7_isPrime) [.int (iI i)] 1 rfl (c_X7_isPrime (x_l X) (x_G X) mo s sv tx fa ea go qu st ty u9.2 un om i fa1 (by first | assumption | omega) (by first | assumption | omega)) gX7_twoFactors_X7_isPrime rfl ⟨rfl, by decide +kernel, by decide +kernel, by decide +kernel⟩ ⟨by decide, by decide⟩ 0 (fs := [.ref s, .int (iI st), .ref sv, .ref tx, .int (iI ty), .int (iI u9.2), .ref fa, .ref ea, .ref go, .ref qu, .int (iI un), .int (iI om)]) rfl rfl rfl [0, 1] (by decide) (wc := [(mo, .inr (6, [.ref s, .int (iI st), .ref sv, .ref tx, .int (iI ty), .int (iI u9.2), .ref fa, .ref ea, .ref go, .ref qu, .int (iI un), .int (iI om)])), (fa, .inl (g_I (x_G X), 100000, .inl (aI fa1)))]) rfl [.int (iI c)] rfl (Nat.le_of_ble_eq_true rfl) ⟨Nat.le_of_ble_eq_true rfl, Nat.le_of_ble_eq_true rfl⟩ dX7_twoFactors_29 (fun _ => [(mo, .inr (6, [.ref s, .int (iI st), .ref sv, .ref tx, .int (iI ty), .int (iI u9.2), .ref fa, .ref ea, .ref go, .ref qu, .int (iI un), .int (iI om)])), (fa, .inl (g_I (x_G X), 100000, .inl (aI fa1)))]) (Or.inl (fun _ => ⟨rfl, rfl⟩)) (fun u29 => [.int (iI u29), .int (iI c)]) (fun _ => rfl) 0 0 ⟨rfl, rfl⟩ (fun u29 hu29 => ?_)
          rw [show i.toNat = j + 1 by omega] at hu29
          refine k_if_ne C 54 (⟨by omega, by omega⟩) dX7_twoFactors_32 (by decide) (fun c32 => ?_) (fun c32 => ?_)
          · skip
            have hu29 := bo_t hu29 c32
            have hnx := ct_n1 (P := twF) (j := j) (fun y => (tw_iff.mp y).2.1 (hu29))
            refine k_iconst C dX7_twoFactors_54 ?_
            refine k_iadd C dX7_twoFactors_55 ?_
            refine k_nmI (fun v55 e55 => ?_)
            refine k_istore_n C (lo' := [(2, .int (iI v55)), (3, .int (iI i)), (0, .ref mo), (1, .int (iI x))]) dX7_twoFactors_56 rfl (by decide) rfl ?_
            obtain ⟨v57, e57⟩ : ∃ y : Int, y = i + 1 := ⟨_, rfl⟩
            refine k_iinc C (lo' := [(3, .int (iI v57)), (2, .int (iI v55)), (0, .ref mo), (1, .int (iI x))]) 1 rfl dX7_twoFactors_57 (by decide) v57 e57 rfl ?_
            refine k_goto C 21 dX7_twoFactors_60 (by decide) ?_
            exact ih21 (j + 1) v55 v57 (⟨by omega, by omega, by omega, by rw [hnx]; omega⟩) (by omega)
          · skip
            have hu29 := bo_f hu29 c32
            refine k_aload_n C 2 rfl dX7_twoFactors_35 rfl ?_
            refine k_iload_n C 0 rfl dX7_twoFactors_36 rfl ?_
            refine k_aload_n C 2 rfl dX7_twoFactors_37 rfl ?_
            refine k_get C (Cn := RX7) (T := TX7) (N := 12) (ci := 6) (ref := "StruckCountsModel") in_X7_twoFactors_X7 0 rfl rfl 6 (by decide) 2 rfl rfl (v := .ref fa) rfl dX7_twoFactors_38 ?_
            refine k_iload_n C 0 rfl dX7_twoFactors_41 rfl ?_
            refine k_iald C (f := fa1) 1 rfl (⟨by omega, by omega⟩) (by decide) dX7_twoFactors_42 ?_
            refine k_nmI (fun v42 e42 => ?_)
            have h42 : v42 = (lf (j + 1) : Int) := by rw [e42, show i.toNat = j + 1 by omega]; exact hF _ (by omega) (by omega)
            refine k_idiv C ⟨by omega, by omega⟩ ⟨by omega, by omega⟩ dX7_twoFactors_43 ?_
            refine k_nmI (fun v43 e43 => ?_)
            have h43 : v43 = (((j + 1) / lf (j + 1) : Nat) : Int) := by rw [e43, h42, i1, Int.natCast_ediv]
            have h43c : 0 ≤ v43 ∧ v43 ≤ 99999 := by rw [h43]; exact ⟨Int.natCast_nonneg _, Int.le_trans (Int.ofNat_le.mpr (Nat.div_le_self (j + 1) (lf (j + 1)))) (by omega)⟩
            refine k_callV C (y := yX7_isPrime) [.int (iI v43)] 1 rfl (c_X7_isPrime (x_l X) (x_G X) mo s sv tx fa ea go qu st ty u9.2 un om v43 fa1 (by first | exact h43c | assumption | omega) (by first | exact h43c | assumption | omega)) gX7_twoFactors_X7_isPrime rfl ⟨rfl, by decide +kernel, by decide +kernel, by decide +kernel⟩ ⟨by decide, by decide⟩ 0 (fs := [.ref s, .int (iI st), .ref sv, .ref tx, .int (iI ty), .int (iI u9.2), .ref fa, .ref ea, .ref go, .ref qu, .int (iI un), .int (iI om)]) rfl rfl rfl [0, 1] (by decide) (wc := [(mo, .inr (6, [.ref s, .int (iI st), .ref sv, .ref tx, .int (iI ty), .int (iI u9.2), .ref fa, .ref ea, .ref go, .ref qu, .int (iI un), .int (iI om)])), (fa, .inl (g_I (x_G X), 100000, .inl (aI fa1)))]) rfl [.int (iI c)] rfl (Nat.le_of_ble_eq_true rfl) ⟨Nat.le_of_ble_eq_true rfl, Nat.le_of_ble_eq_true rfl⟩ dX7_twoFactors_44 (fun _ => [(mo, .inr (6, [.ref s, .int (iI st), .ref sv, .ref tx, .int (iI ty), .int (iI u9.2), .ref fa, .ref ea, .ref go, .ref qu, .int (iI un), .int (iI om)])), (fa, .inl (g_I (x_G X), 100000, .inl (aI fa1)))]) (Or.inl (fun _ => ⟨rfl, rfl⟩)) (fun u44 => [.int (iI u44), .int (iI c)]) (fun _ => rfl) 0 0 ⟨rfl, rfl⟩ (fun u44 hu44 => ?_)
            rw [h43, Int.toNat_natCast] at hu44
            refine k_if_eq C 54 (⟨by omega, by omega⟩) dX7_twoFactors_47 (by decide) (fun c47 => ?_) (fun c47 => ?_)
            · skip
              have hu44 := bo_f hu44 c47
              have hnx := ct_n1 (P := twF) (j := j) (fun y => hu44 (tw_iff.mp y).2.2)
              refine k_iconst C dX7_twoFactors_54 ?_
              refine k_iadd C dX7_twoFactors_55 ?_
              refine k_nmI (fun v55 e55 => ?_)
              refine k_istore_n C (lo' := [(2, .int (iI v55)), (3, .int (iI i)), (0, .ref mo), (1, .int (iI x))]) dX7_twoFactors_56 rfl (by decide) rfl ?_
              obtain ⟨v57, e57⟩ : ∃ y : Int, y = i + 1 := ⟨_, rfl⟩
              refine k_iinc C (lo' := [(3, .int (iI v57)), (2, .int (iI v55)), (0, .ref mo), (1, .int (iI x))]) 1 rfl dX7_twoFactors_57 (by decide) v57 e57 rfl ?_
              refine k_goto C 21 dX7_twoFactors_60 (by decide) ?_
              exact ih21 (j + 1) v55 v57 (⟨by omega, by omega, by omega, by rw [hnx]; omega⟩) (by omega)
            · skip
              have hu44 := bo_t hu44 c47
              have hnx := ct_y1 (P := twF) (j := j) (tw_iff.mpr ⟨by omega, hu29, hu44⟩)
              refine k_iconst C dX7_twoFactors_50 ?_
              refine k_goto C 55 dX7_twoFactors_51 (by decide) ?_
              refine k_iadd C dX7_twoFactors_55 ?_
              refine k_nmI (fun v55 e55 => ?_)
              refine k_istore_n C (lo' := [(2, .int (iI v55)), (3, .int (iI i)), (0, .ref mo), (1, .int (iI x))]) dX7_twoFactors_56 rfl (by decide) rfl ?_
              obtain ⟨v57, e57⟩ : ∃ y : Int, y = i + 1 := ⟨_, rfl⟩
              refine k_iinc C (lo' := [(3, .int (iI v57)), (2, .int (iI v55)), (0, .ref mo), (1, .int (iI x))]) 1 rfl dX7_twoFactors_57 (by decide) v57 e57 rfl ?_
              refine k_goto C 21 dX7_twoFactors_60 (by decide) ?_
              exact ih21 (j + 1) v55 v57 (⟨by omega, by omega, by omega, by rw [hnx]; omega⟩) (by omega)
    exact L21 _ 3 0 4 (⟨rfl, by omega, by omega, by rw [tw_lo (by decide)]; rfl⟩) (Nat.lt_succ_self _)
  · skip
    refine k_iconst C dX7_twoFactors_15 ?_
    exact k_iret C hR (u := (0, u9.2)) rfl (by (try dsimp only) <;> exact (Or.inr ⟨by omega, by omega⟩)) rfl (Nat.le_of_ble_eq_true rfl) (Nat.le_of_ble_eq_true rfl) dX7_twoFactors_16
