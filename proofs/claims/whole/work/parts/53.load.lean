theorem nmR_le {T : Nat → Int} {i : Nat} : ∀ k p m, (nmR T i k p m).1 ≤ p + k
  | 0, p, m => Nat.le_refl _
  | k + 1, p, m => by
    have ih := nmR_le (T := T) (i := i) k (p + 1) (10 * m + (T p - 48))
    show (if _ then _ else _ : Nat × Int).1 ≤ _
    split
    · omega
    · show p ≤ p + (k + 1); omega
theorem stp_le {T : Nat → Int} {L a : Nat} : (stp T L a).2 ≤ a + 13 := by
  have h1 := csA_le (T := T) (a := a)
  have h2 := nmR_le (T := T) (i := sW T a) 6 (a + csA T a) 0
  change (nmr T a).1 ≤ _ at h2
  unfold stp
  (repeat' split) <;> (show _ ≤ _) <;> omega
theorem flt_le {T : Nat → Int} {L : Nat} : ∀ k a, -1 ≤ flt T L k a ∧ flt T L k a ≤ a + 13 * k
  | 0, a => ⟨Int.le_refl _, by show (-1 : Int) ≤ _; omega⟩
  | k + 1, a => by
    have ih := flt_le (T := T) (L := L) k (stp T L a).2
    have h := stp_le (T := T) (L := L) (a := a)
    show _ ≤ (if _ then _ else if _ then _ else _ : Int) ∧ (if _ then _ else if _ then _ else _ : Int) ≤ _
    split
    · omega
    · split
      · omega
      · omega
theorem flt_rng {T : Nat → Int} {L : Nat} : -2147483648 ≤ flt T L 60 0 ∧ flt T L 60 0 < 2147483648 := by
  have := flt_le (T := T) (L := L) 60 0
  omega
def ldA (q : Nat × Nat × Nat × Nat) (s : Nat) : Nat × Nat × Nat × Nat := (q.1, q.2.1, q.2.2.1, s + q.2.2.2)
def ldF (T : Nat → Int) (L : Nat) : Nat → Nat → Nat → Nat → Nat → Nat × Nat × Nat × Nat
  | 0, _, n, k, m => (n, k, m, 0)
  | f + 1, a, n, k, m => if (stp T L a).1 = 1 then obW (sW T a) (nmr T a).2 n k m else ldA (ldF T L f (stp T L a).2 (obW (sW T a) (nmr T a).2 n k m).1 (obW (sW T a) (nmr T a).2 n k m).2.1 (obW (sW T a) (nmr T a).2 n k m).2.2.1) (obW (sW T a) (nmr T a).2 n k m).2.2.2
def LdI (T : Nat → Int) (L : Nat) (d i a : Int) (n k m s : Nat) : Prop := (d = 0 ∧ (n, k, m, s) = ldF T L 60 0 100 0 0) ∨ (d = 1 ∧ flt T L (60 - i).toNat a.toNat = -1 ∧ ldA (ldF T L (60 - i).toNat a.toNat n k m) s = ldF T L 60 0 100 0 0)
theorem LdI_0 {T : Nat → Int} {L : Nat} (h : flt T L 60 0 = -1) : LdI T L 1 0 0 100 0 0 0 := Or.inr ⟨rfl, h, by
  show ldA (ldF T L 60 0 100 0 0) 0 = _
  unfold ldA; rw [Nat.zero_add]⟩
theorem LdI_60 {T : Nat → Int} {L : Nat} {d i a : Int} {n k m s : Nat} (h : LdI T L d i a n k m s) (hi : 60 ≤ i) : (n, k, m, s) = ldF T L 60 0 100 0 0 := by
  rcases h with h | ⟨_, _, h⟩
  · exact h.2
  · rw [show (60 - i).toNat = 0 by omega] at h
    exact h
theorem LdI_end {T : Nat → Int} {L : Nat} {d i a ft : Int} {n k m s : Nat} {G : KG} {u : Int × Int × Int × Int × Value × Int} (h : LdI T L d i a n k m s) (hi : i < 60) (hu : RWok T L a.toNat G d ft u) (h0 : u.1 = 0) : (n, k, m, s) = ldF T L 60 0 100 0 0 := by
  rcases h with h | ⟨h1, h2, h3⟩
  · exact h.2
  · obtain ⟨y0, y1, y2, y3⟩ := hu.2.2 h1
    exfalso
    rw [show (60 - i).toNat = (60 - i).toNat - 1 + 1 by omega] at h2
    rcases stp_le2 (T := T) (L := L) (a := a.toNat) with z | z | z
    · rw [flt_0 z] at h2; omega
    · have := (y1 z).1; omega
    · have := (y2 z).1; omega
theorem stp_pos {T : Nat → Int} {L a : Nat} (h : ¬ (stp T L a).1 = 0) : Ful T a ∧ ¬ ((nmr T a).2 = 0 ∧ wnn (sW T a) = 1) := by
  by_cases hF : Ful T a
  · refine ⟨hF, fun z => h ?_⟩
    rw [stp_nn hF z]
  · exact absurd (by rw [stp_nf hF]) h
theorem RW_word {T : Nat → Int} {L a : Nat} {G : KG} {du ft : Int} {u : Int × Int × Int × Int × Value × Int} (hu : RWok T L a G du ft u) (hd : du = 0 ∨ du = 1) (h0 : ¬ u.1 = 0) : du = 1 ∧ u.1 = 1 ∧ ((stp T L a).1 = 1 ∨ (stp T L a).1 = 2) ∧ sW T a < 4 ∧ u.2.2.2.2.1 = .ref (g_ad G (sW T a)) ∧ u.2.2.2.2.2 = (nmr T a).2 ∧ (0 ≤ (nmr T a).2 ∧ (nmr T a).2 ≤ 99999) ∧ (sW T a = 0 → 1 ≤ (nmr T a).2) := by
  have hd1 : du = 1 := hd.resolve_left fun z => h0 (hu.2.1 z).1
  have h1 : u.1 = 1 := hu.1.resolve_left h0
  obtain ⟨y0, y1, y2, y3⟩ := hu.2.2 hd1
  obtain ⟨z1, z2, z3, z4, z5, z6⟩ := y3 h1
  rw [z4] at z5 z6
  refine ⟨hd1, h1, z1, z2, z3, z4, ⟨z5, z6⟩, fun e => ?_⟩
  have := (stp_pos (T := T) (L := L) (a := a) (by omega)).2
  rw [e] at this
  have w : wnn 0 = 1 := by decide
  omega
theorem LdI_go {T : Nat → Int} {L : Nat} {d i a ft : Int} {n k m s : Nat} {G : KG} {u : Int × Int × Int × Int × Value × Int} (h : LdI T L d i a n k m s) (hi : i < 60) (hu : RWok T L a.toNat G d ft u) (hd : d = 0 ∨ d = 1) (h0 : ¬ u.1 = 0) {r : Nat × Nat × Nat × Nat} (hr : r = obW (sW T a.toNat) (nmr T a.toNat).2 n k m) : LdI T L u.2.2.1 (i + 1) u.2.1 r.1 r.2.1 r.2.2.1 (s + r.2.2.2) := by
  obtain ⟨w1, w2, w3, _⟩ := RW_word hu hd h0
  rcases h with h | ⟨h1, h2, h3⟩
  · exact absurd (h.1.symm.trans w1) (by decide)
  · obtain ⟨y0, y1, y2, y3⟩ := hu.2.2 h1
    rw [show (60 - i).toNat = (60 - (i + 1)).toNat + 1 by omega] at h2 h3
    rcases w3 with z | z
    · have e : ldF T L ((60 - (i + 1)).toNat + 1) a.toNat n k m = obW (sW T a.toNat) (nmr T a.toNat).2 n k m := if_pos z
      rw [e, ← hr] at h3
      exact Or.inl ⟨(y1 z).2.1, h3⟩
    · have e : ldF T L ((60 - (i + 1)).toNat + 1) a.toNat n k m = _ := if_neg (by omega)
      rw [e, ← hr] at h3
      rw [flt_2 z] at h2
      obtain ⟨x1, x2, x3, x4, x5⟩ := y2 z
      refine Or.inr ⟨x2, by rw [x4, Int.toNat_natCast]; exact h2, ?_⟩
      rw [x4, Int.toNat_natCast, ← h3]
      unfold ldA
      simp only [Nat.add_assoc]

theorem in_X6_load_X6 : ∀ w ∈ wsX60, w ∈ wsX6_load := by decide +kernel
theorem in_X6_load_X4 : ∀ w ∈ wsX40, w ∈ wsX6_load := by decide +kernel
set_option maxHeartbeats 4000000 in
set_option maxRecDepth 100000 in
theorem c_X6_load (l : Launch) (G : KG) (sc so pr b2 bo ca ss b t : Nat) (nw rb tl bd cm sk : Int) (fb : Nat → Int) (tx sg : Nat) (L a du ft : Int) (wv : Value) (nu : Int) (f : Nat → Int) (hL : 0 ≤ L ∧ L ≤ 60) (hf : ∀ q : Nat, q < 60 → 0 ≤ f q ∧ f q ≤ 65535) (hfl : l.stackTraces = false) : Cxt l G yX6_load wsX6_load (rmD 8 1 6) [.ref sc] [(sc, .inr (5, [.ref tx, .ref b, .ref so, .ref pr, .ref b2])), (tx, .inr (4, [.ref sg, .int (iI L), .int (iI a), .int (iI du), .int (iI ft), wv, .int (iI nu)])), (sg, .inl (g_C G, 60, .inl (aI f))), (b, .inr (0, [.ref t, .int (iI tl), .int (iI bd), .int (iI cm), .long (jL sk)])), (so, .inr (2, [.ref bo, .ref ca, .ref ss, .int (iI nw), .int (iI rb)])), (bo, .inl (g_I G, 16, .inl (aI fb)))] (fun u : Int × (Int × Int × Int × Value × Int) × Int × Int × Int × (Nat → Int) => flt (tA f L) L.toNat 60 0 = -1 ∧ u.1 = ((ldF (tA f L) L.toNat 60 0 100 0 0).2.2.2 : Int) ∧ BdS (ldF (tA f L) L.toNat 60 0 100 0 0).1 (ldF (tA f L) L.toNat 60 0 100 0 0).2.1 (ldF (tA f L) L.toNat 60 0 100 0 0).2.2.1 u.2.2.1 u.2.2.2.1 u.2.2.2.2.1 ∧ u.2.2.2.2.2 14 = 0 ∧ u.2.2.2.2.2 15 = 0) (fun u : Int × (Int × Int × Int × Value × Int) × Int × Int × Int × (Nat → Int) => some (.int (iI u.1))) (fun u : Int × (Int × Int × Int × Value × Int) × Int × Int × Int × (Nat → Int) => [(sc, .inr (5, [.ref tx, .ref b, .ref so, .ref pr, .ref b2])), (tx, .inr (4, [.ref sg, .int (iI L), .int (iI u.2.1.1), .int (iI u.2.1.2.1), .int (iI u.2.1.2.2.1), u.2.1.2.2.2.1, .int (iI u.2.1.2.2.2.2)])), (sg, .inl (g_C G, 60, .inl (aI f))), (b, .inr (0, [.ref t, .int (iI (-1)), .int (iI u.2.2.1), .int (iI u.2.2.2.1), .long (jL u.2.2.2.2.1)])), (so, .inr (2, [.ref bo, .ref ca, .ref ss, .int (iI nw), .int (iI 0)])), (bo, .inl (g_I G, 16, .inl (aI u.2.2.2.2.2)))]) (fun v : Int × Int × Int × Value × Int => ¬ flt (tA f L) L.toNat 60 0 = -1) (fun v : Int × Int × Int × Value × Int => "java/lang/IllegalStateException") (fun v : Int × Int × Int × Value × Int => [(sc, .inr (5, [.ref tx, .ref b, .ref so, .ref pr, .ref b2])), (tx, .inr (4, [.ref sg, .int (iI L), .int (iI v.1), .int (iI v.2.1), .int (iI v.2.2.1), v.2.2.2.1, .int (iI v.2.2.2.2)])), (sg, .inl (g_C G, 60, .inl (aI f))), (b, .inr (0, [.ref t, .int (iI tl), .int (iI bd), .int (iI cm), .long (jL sk)])), (so, .inr (2, [.ref bo, .ref ca, .ref ss, .int (iI nw), .int (iI rb)])), (bo, .inl (g_I G, 16, .inl (aI fb)))]) := by
  refine Cxt.of (cc := cX6_load) (maxL := 3) (ret := (some .int)) (by decide +kernel) rfl (Nat.le_of_ble_eq_true rfl) ?_
  intro X C hG hL hnm hR hQ htab
  subst hG
  subst hL
  have C : Cx X cX6_load RX6 wsX6_load (some .int) 3 (rmD 8 1 6) := C
  have hTh : Thr X (fun v : Int × Int × Int × Value × Int => ¬ flt (tA f L) L.toNat 60 0 = -1) (fun v : Int × Int × Int × Value × Int => "java/lang/IllegalStateException") (fun v : Int × Int × Int × Value × Int => [(sc, .inr (5, [.ref tx, .ref b, .ref so, .ref pr, .ref b2])), (tx, .inr (4, [.ref sg, .int (iI L), .int (iI v.1), .int (iI v.2.1), .int (iI v.2.2.1), v.2.2.2.1, .int (iI v.2.2.2.2)])), (sg, .inl (g_C (x_G X), 60, .inl (aI f))), (b, .inr (0, [.ref t, .int (iI tl), .int (iI bd), .int (iI cm), .long (jL sk)])), (so, .inr (2, [.ref bo, .ref ca, .ref ss, .int (iI nw), .int (iI rb)])), (bo, .inl (g_I (x_G X), 16, .inl (aI fb)))]) := ⟨_, by rw [C.R]; exact hQ⟩
  show K_ X 0 0 [(sc, .inr (5, [.ref tx, .ref b, .ref so, .ref pr, .ref b2])), (tx, .inr (4, [.ref sg, .int (iI L), .int (iI a), .int (iI du), .int (iI ft), wv, .int (iI nu)])), (sg, .inl (g_C (x_G X), 60, .inl (aI f))), (b, .inr (0, [.ref t, .int (iI tl), .int (iI bd), .int (iI cm), .long (jL sk)])), (so, .inr (2, [.ref bo, .ref ca, .ref ss, .int (iI nw), .int (iI rb)])), (bo, .inl (g_I (x_G X), 16, .inl (aI fb)))] 0 [(0, .ref sc)] []
  refine k_aload_n C 0 rfl dX6_load_0 rfl ?_
  refine k_get C (Cn := RX6) (T := TX6) (N := 5) (ci := 5) (ref := "StruckCounts") in_X6_load_X6 0 rfl rfl 0 (by decide) 3 rfl rfl (v := .ref tx) rfl dX6_load_1 ?_
  refine k_callV C (y := yX4_findFault) [] 0 rfl (c_X4_findFault (x_l X) (x_G X) tx sg L a du ft wv nu f (by first | assumption | omega) (by first | assumption | omega)) gX6_load_X4_findFault rfl ⟨rfl, by decide +kernel, by decide +kernel, by decide +kernel⟩ ⟨by decide, by decide⟩ 1 (fs := [.ref sg, .int (iI L), .int (iI a), .int (iI du), .int (iI ft), wv, .int (iI nu)]) rfl rfl rfl [1, 2] (by decide) (wc := [(tx, .inr (4, [.ref sg, .int (iI L), .int (iI a), .int (iI du), .int (iI ft), wv, .int (iI nu)])), (sg, .inl (g_C (x_G X), 60, .inl (aI f)))]) rfl [] rfl (Nat.le_of_ble_eq_true rfl) ⟨Nat.le_of_ble_eq_true rfl, Nat.le_of_ble_eq_true rfl⟩ dX6_load_4 (fun u4 => [(sc, .inr (5, [.ref tx, .ref b, .ref so, .ref pr, .ref b2])), (tx, .inr (4, [.ref sg, .int (iI L), .int (iI u4.2.1), .int (iI u4.2.2.1), .int (iI u4.2.2.2.1), u4.2.2.2.2.1, .int (iI u4.2.2.2.2.2)])), (sg, .inl (g_C (x_G X), 60, .inl (aI f))), (b, .inr (0, [.ref t, .int (iI tl), .int (iI bd), .int (iI cm), .long (jL sk)])), (so, .inr (2, [.ref bo, .ref ca, .ref ss, .int (iI nw), .int (iI rb)])), (bo, .inl (g_I (x_G X), 16, .inl (aI fb)))]) (Or.inr ⟨[0, 3, 4, 5], [0, 4, 5, 1, 2, 3], [(sc, .inr (5, [.ref tx, .ref b, .ref so, .ref pr, .ref b2])), (b, .inr (0, [.ref t, .int (iI tl), .int (iI bd), .int (iI cm), .long (jL sk)])), (so, .inr (2, [.ref bo, .ref ca, .ref ss, .int (iI nw), .int (iI rb)])), (bo, .inl (g_I (x_G X), 16, .inl (aI fb)))], rfl, by decide, by decide, by decide, fun _ => rfl⟩) (fun u4 => [.int (iI u4.1)]) (fun _ => rfl) 0 0 ⟨rfl, rfl⟩ (fun u4 hu4 => ?_)
  refine k_iconst C dX6_load_7 ?_
  refine k_icmp_eq C 21 (by rw [hu4.2, hu4.1]; exact flt_rng) (⟨by omega, by omega⟩) dX6_load_8 (by decide) (fun c8 => ?_) (fun c8 => ?_)
  · skip
    have hff : flt (tA f L) L.toNat 60 0 = -1 := by rw [← hu4.1, ← hu4.2]; exact c8
    refine k_aload_n C 0 rfl dX6_load_21 rfl ?_
    refine k_get C (Cn := RX6) (T := TX6) (N := 5) (ci := 5) (ref := "StruckCounts") in_X6_load_X6 0 rfl rfl 2 (by decide) 4 rfl rfl (v := .ref so) rfl dX6_load_22 ?_
    refine k_callV C (y := yX2_empty) [] 0 rfl (c_X2_empty (x_l X) (x_G X) so bo ca ss nw rb fb ) gX6_load_X2_empty rfl ⟨rfl, by decide +kernel, by decide +kernel, by decide +kernel⟩ ⟨by decide, by decide⟩ 4 (fs := [.ref bo, .ref ca, .ref ss, .int (iI nw), .int (iI rb)]) rfl rfl rfl [4, 5] (by decide) (wc := [(so, .inr (2, [.ref bo, .ref ca, .ref ss, .int (iI nw), .int (iI rb)])), (bo, .inl (g_I (x_G X), 16, .inl (aI fb)))]) rfl [] rfl (Nat.le_of_ble_eq_true rfl) ⟨Nat.le_of_ble_eq_true rfl, Nat.le_of_ble_eq_true rfl⟩ dX6_load_25 (fun u25 => [(sc, .inr (5, [.ref tx, .ref b, .ref so, .ref pr, .ref b2])), (tx, .inr (4, [.ref sg, .int (iI L), .int (iI u4.2.1), .int (iI u4.2.2.1), .int (iI u4.2.2.2.1), u4.2.2.2.2.1, .int (iI u4.2.2.2.2.2)])), (sg, .inl (g_C (x_G X), 60, .inl (aI f))), (b, .inr (0, [.ref t, .int (iI tl), .int (iI bd), .int (iI cm), .long (jL sk)])), (so, .inr (2, [.ref bo, .ref ca, .ref ss, .int (iI nw), .int (iI 0)])), (bo, .inl (g_I (x_G X), 16, .inl (aI u25)))]) (Or.inr ⟨[0, 1, 2, 3], [0, 1, 2, 3, 4, 5], [(sc, .inr (5, [.ref tx, .ref b, .ref so, .ref pr, .ref b2])), (tx, .inr (4, [.ref sg, .int (iI L), .int (iI u4.2.1), .int (iI u4.2.2.1), .int (iI u4.2.2.2.1), u4.2.2.2.2.1, .int (iI u4.2.2.2.2.2)])), (sg, .inl (g_C (x_G X), 60, .inl (aI f))), (b, .inr (0, [.ref t, .int (iI tl), .int (iI bd), .int (iI cm), .long (jL sk)]))], rfl, by decide, by decide, by decide, fun _ => rfl⟩) (fun u25 => []) (fun _ => rfl) 0 0 ⟨rfl, rfl⟩ (fun u25 hu25 => ?_)
    refine k_aload_n C 0 rfl dX6_load_28 rfl ?_
    refine k_get C (Cn := RX6) (T := TX6) (N := 5) (ci := 5) (ref := "StruckCounts") in_X6_load_X6 0 rfl rfl 1 (by decide) 5 rfl rfl (v := .ref b) rfl dX6_load_29 ?_
    refine k_bipush C dX6_load_32 (by decide) ?_
    refine k_callV C (y := yX0_begin) [.int (iI 100)] 1 rfl (c_X0_begin (x_l X) (x_G X) b t tl bd cm sk 100 ) gX6_load_X0_begin rfl ⟨rfl, by decide +kernel, by decide +kernel, by decide +kernel⟩ ⟨by decide, by decide⟩ 3 (fs := [.ref t, .int (iI tl), .int (iI bd), .int (iI cm), .long (jL sk)]) rfl rfl rfl [3] (by decide) (wc := [(b, .inr (0, [.ref t, .int (iI tl), .int (iI bd), .int (iI cm), .long (jL sk)]))]) rfl [] rfl (Nat.le_of_ble_eq_true rfl) ⟨Nat.le_of_ble_eq_true rfl, Nat.le_of_ble_eq_true rfl⟩ dX6_load_34 (fun u34 => [(sc, .inr (5, [.ref tx, .ref b, .ref so, .ref pr, .ref b2])), (tx, .inr (4, [.ref sg, .int (iI L), .int (iI u4.2.1), .int (iI u4.2.2.1), .int (iI u4.2.2.2.1), u4.2.2.2.2.1, .int (iI u4.2.2.2.2.2)])), (sg, .inl (g_C (x_G X), 60, .inl (aI f))), (b, .inr (0, [.ref t, .int (iI (-1)), .int (iI 100), .int (iI 0), .long (jL 0)])), (so, .inr (2, [.ref bo, .ref ca, .ref ss, .int (iI nw), .int (iI 0)])), (bo, .inl (g_I (x_G X), 16, .inl (aI u25)))]) (Or.inr ⟨[0, 1, 2, 4, 5], [0, 1, 2, 5, 3, 4], [(sc, .inr (5, [.ref tx, .ref b, .ref so, .ref pr, .ref b2])), (tx, .inr (4, [.ref sg, .int (iI L), .int (iI u4.2.1), .int (iI u4.2.2.1), .int (iI u4.2.2.2.1), u4.2.2.2.2.1, .int (iI u4.2.2.2.2.2)])), (sg, .inl (g_C (x_G X), 60, .inl (aI f))), (so, .inr (2, [.ref bo, .ref ca, .ref ss, .int (iI nw), .int (iI 0)])), (bo, .inl (g_I (x_G X), 16, .inl (aI u25)))], rfl, by decide, by decide, by decide, fun _ => rfl⟩) (fun u34 => []) (fun _ => rfl) 0 0 ⟨rfl, rfl⟩ (fun u34 hu34 => ?_)
    refine k_iconst C dX6_load_37 ?_
    refine k_istore_n C (lo' := [(1, .int (iI 0)), (0, .ref sc)]) dX6_load_38 rfl (by decide) rfl ?_
    refine k_aload_n C 1 rfl dX6_load_39 rfl ?_
    refine k_get C (Cn := RX6) (T := TX6) (N := 5) (ci := 5) (ref := "StruckCounts") in_X6_load_X6 0 rfl rfl 0 (by decide) 3 rfl rfl (v := .ref tx) rfl dX6_load_40 ?_
    refine k_callV C (y := yX4_rewind) [] 0 rfl (c_X4_rewind (x_l X) (x_G X) tx sg L u4.2.1 u4.2.2.1 u4.2.2.2.1 u4.2.2.2.2.1 u4.2.2.2.2.2 f ) gX6_load_X4_rewind rfl ⟨rfl, by decide +kernel, by decide +kernel, by decide +kernel⟩ ⟨by decide, by decide⟩ 1 (fs := [.ref sg, .int (iI L), .int (iI u4.2.1), .int (iI u4.2.2.1), .int (iI u4.2.2.2.1), u4.2.2.2.2.1, .int (iI u4.2.2.2.2.2)]) rfl rfl rfl [1, 2] (by decide) (wc := [(tx, .inr (4, [.ref sg, .int (iI L), .int (iI u4.2.1), .int (iI u4.2.2.1), .int (iI u4.2.2.2.1), u4.2.2.2.2.1, .int (iI u4.2.2.2.2.2)])), (sg, .inl (g_C (x_G X), 60, .inl (aI f)))]) rfl [] rfl (Nat.le_of_ble_eq_true rfl) ⟨Nat.le_of_ble_eq_true rfl, Nat.le_of_ble_eq_true rfl⟩ dX6_load_43 (fun u43 => [(sc, .inr (5, [.ref tx, .ref b, .ref so, .ref pr, .ref b2])), (tx, .inr (4, [.ref sg, .int (iI L), .int (iI 0), .int (iI 1), .int (iI (-1)), u4.2.2.2.2.1, .int (iI u4.2.2.2.2.2)])), (sg, .inl (g_C (x_G X), 60, .inl (aI f))), (b, .inr (0, [.ref t, .int (iI (-1)), .int (iI 100), .int (iI 0), .long (jL 0)])), (so, .inr (2, [.ref bo, .ref ca, .ref ss, .int (iI nw), .int (iI 0)])), (bo, .inl (g_I (x_G X), 16, .inl (aI u25)))]) (Or.inr ⟨[0, 3, 4, 5], [0, 4, 5, 1, 2, 3], [(sc, .inr (5, [.ref tx, .ref b, .ref so, .ref pr, .ref b2])), (b, .inr (0, [.ref t, .int (iI (-1)), .int (iI 100), .int (iI 0), .long (jL 0)])), (so, .inr (2, [.ref bo, .ref ca, .ref ss, .int (iI nw), .int (iI 0)])), (bo, .inl (g_I (x_G X), 16, .inl (aI u25)))], rfl, by decide, by decide, by decide, fun _ => rfl⟩) (fun u43 => []) (fun _ => rfl) 0 0 ⟨rfl, rfl⟩ (fun u43 hu43 => ?_)
    refine k_iconst C dX6_load_46 ?_
    refine k_istore_n C (lo' := [(2, .int (iI 0)), (1, .int (iI 0)), (0, .ref sc)]) dX6_load_47 rfl (by decide) rfl ?_
    have L48 : ∀ (nf : Nat) (nq : Nat) (kq : Nat) (mq : Nat) (sq : Nat) (sm : Int) (i : Int) (a1 : Int) (d1 : Int) (f1 : Int) (w1 : Value) (n1 : Int) (b1 : Int) (c1 : Int) (s1 : Int), (0 ≤ i ∧ i ≤ 60 ∧ (0 ≤ a1 ∧ a1 ≤ 60) ∧ (d1 = 0 ∨ d1 = 1) ∧ sm = (sq : Int) ∧ BdS nq kq mq b1 c1 s1 ∧ LdI (tA f L) L.toNat d1 i a1 nq kq mq sq) → (60 - i).toNat < nf → K_ X 0 0 [(sc, .inr (5, [.ref tx, .ref b, .ref so, .ref pr, .ref b2])), (tx, .inr (4, [.ref sg, .int (iI L), .int (iI a1), .int (iI d1), .int (iI f1), w1, .int (iI n1)])), (sg, .inl (g_C (x_G X), 60, .inl (aI f))), (b, .inr (0, [.ref t, .int (iI (-1)), .int (iI b1), .int (iI c1), .long (jL s1)])), (so, .inr (2, [.ref bo, .ref ca, .ref ss, .int (iI nw), .int (iI 0)])), (bo, .inl (g_I (x_G X), 16, .inl (aI u25)))] 48 [(2, .int (iI i)), (1, .int (iI sm)), (0, .ref sc)] [] := by
      intro nf
      induction nf with
      | zero => intro nq kq mq sq sm i a1 d1 f1 w1 n1 b1 c1 s1 hI hm; exact absurd hm (Nat.not_lt_zero _)
      | succ nf ih48 =>
        intro nq kq mq sq sm i a1 d1 f1 w1 n1 b1 c1 s1 hI48 hm48
        obtain ⟨j1, j2, j3, j4, j5, j6, j7⟩ := hI48
        refine k_iload_n C 0 rfl dX6_load_48 rfl ?_
        refine k_bipush C dX6_load_49 (by decide) ?_
        refine k_icmp_ge C 91 (⟨by omega, by omega⟩) (⟨by omega, by omega⟩) dX6_load_51 (by decide) (fun c51 => ?_) (fun c51 => ?_)
        · skip
          have hE := LdI_60 j7 (by omega)
          refine k_iload_n C 1 rfl dX6_load_91 rfl ?_
          exact k_iret C hR (u := (sm, (a1, d1, f1, (w1), n1), b1, c1, s1, u25)) rfl (by (try dsimp only) <;> exact (⟨hff, by rw [← hE]; exact j5, by rw [← hE]; exact j6, hu25.1, hu25.2⟩)) rfl (Nat.le_of_ble_eq_true rfl) (Nat.le_of_ble_eq_true rfl) dX6_load_92
        · skip
          refine k_aload_n C 2 rfl dX6_load_54 rfl ?_
          refine k_get C (Cn := RX6) (T := TX6) (N := 5) (ci := 5) (ref := "StruckCounts") in_X6_load_X6 0 rfl rfl 0 (by decide) 3 rfl rfl (v := .ref tx) rfl dX6_load_55 ?_
          refine k_callV C (y := yX4_readWord) [] 0 rfl (c_X4_readWord (x_l X) (x_G X) tx sg L a1 d1 f1 w1 n1 f (by first | assumption | omega) (by first | assumption | omega) (by first | assumption | omega) (by first | assumption | omega)) gX6_load_X4_readWord rfl ⟨rfl, by decide +kernel, by decide +kernel, by decide +kernel⟩ ⟨by decide, by decide⟩ 1 (fs := [.ref sg, .int (iI L), .int (iI a1), .int (iI d1), .int (iI f1), w1, .int (iI n1)]) rfl rfl rfl [1, 2] (by decide) (wc := [(tx, .inr (4, [.ref sg, .int (iI L), .int (iI a1), .int (iI d1), .int (iI f1), w1, .int (iI n1)])), (sg, .inl (g_C (x_G X), 60, .inl (aI f)))]) rfl [] rfl (Nat.le_of_ble_eq_true rfl) ⟨Nat.le_of_ble_eq_true rfl, Nat.le_of_ble_eq_true rfl⟩ dX6_load_58 (fun u58 => [(sc, .inr (5, [.ref tx, .ref b, .ref so, .ref pr, .ref b2])), (tx, .inr (4, [.ref sg, .int (iI L), .int (iI u58.2.1), .int (iI u58.2.2.1), .int (iI u58.2.2.2.1), u58.2.2.2.2.1, .int (iI u58.2.2.2.2.2)])), (sg, .inl (g_C (x_G X), 60, .inl (aI f))), (b, .inr (0, [.ref t, .int (iI (-1)), .int (iI b1), .int (iI c1), .long (jL s1)])), (so, .inr (2, [.ref bo, .ref ca, .ref ss, .int (iI nw), .int (iI 0)])), (bo, .inl (g_I (x_G X), 16, .inl (aI u25)))]) (Or.inr ⟨[0, 3, 4, 5], [0, 4, 5, 1, 2, 3], [(sc, .inr (5, [.ref tx, .ref b, .ref so, .ref pr, .ref b2])), (b, .inr (0, [.ref t, .int (iI (-1)), .int (iI b1), .int (iI c1), .long (jL s1)])), (so, .inr (2, [.ref bo, .ref ca, .ref ss, .int (iI nw), .int (iI 0)])), (bo, .inl (g_I (x_G X), 16, .inl (aI u25)))], rfl, by decide, by decide, by decide, fun _ => rfl⟩) (fun u58 => [.int (iI u58.1)]) (fun _ => rfl) 0 0 ⟨rfl, rfl⟩ (fun u58 hu58 => ?_)
          refine k_if_eq C 91 (by have := hu58.1.1; omega) dX6_load_61 (by decide) (fun c61 => ?_) (fun c61 => ?_)
          · skip
            have hE := LdI_end j7 (by omega) hu58.1 (by omega)
            refine k_iload_n C 1 rfl dX6_load_91 rfl ?_
            exact k_iret C hR (u := (sm, (u58.2.1, u58.2.2.1, u58.2.2.2.1, (u58.2.2.2.2.1), u58.2.2.2.2.2), b1, c1, s1, u25)) rfl (by (try dsimp only) <;> exact (⟨hff, by rw [← hE]; exact j5, by rw [← hE]; exact j6, hu25.1, hu25.2⟩)) rfl (Nat.le_of_ble_eq_true rfl) (Nat.le_of_ble_eq_true rfl) dX6_load_92
          · skip
            obtain ⟨w1, w2, w3, w4, w5, w6, w7, w8⟩ := RW_word hu58.1 j4 (by omega)
            rw [show u58.2.2.2.2.1 = .ref (g_ad (x_G X) (sW (tA f L) a1.toNat)) from w5]
            refine k_iload_n C 1 rfl dX6_load_64 rfl ?_
            refine k_aload_n C 2 rfl dX6_load_65 rfl ?_
            refine k_aload_n C 2 rfl dX6_load_66 rfl ?_
            refine k_get C (Cn := RX6) (T := TX6) (N := 5) (ci := 5) (ref := "StruckCounts") in_X6_load_X6 0 rfl rfl 0 (by decide) 3 rfl rfl (v := .ref tx) rfl dX6_load_67 ?_
            refine k_getN C (Cn := RX4) (T := TX4) (N := 7) (ci := 4) (ref := "StruckCounts$Text") in_X6_load_X4 1 rfl rfl 5 (by decide) 1 rfl rfl (v := .ref (g_ad (x_G X) (sW (tA f L) a1.toNat))) rfl dX6_load_70 ?_
            refine k_aload_n C 2 rfl dX6_load_73 rfl ?_
            refine k_get C (Cn := RX6) (T := TX6) (N := 5) (ci := 5) (ref := "StruckCounts") in_X6_load_X6 0 rfl rfl 0 (by decide) 3 rfl rfl (v := .ref tx) rfl dX6_load_74 ?_
            refine k_getN C (Cn := RX4) (T := TX4) (N := 7) (ci := 4) (ref := "StruckCounts$Text") in_X6_load_X4 1 rfl rfl 6 (by decide) 2 rfl rfl (v := .int (iI u58.2.2.2.2.2)) rfl dX6_load_77 ?_
            refine k_callV C (y := yX6_obeyWord) [.ref (g_ad (x_G X) (sW (tA f L) a1.toNat)), .int (iI u58.2.2.2.2.2)] 2 rfl (c_X6_obeyWord (x_l X) (x_G X) sc tx so pr b2 b t b1 c1 s1 u58.2.2.2.2.2 (sW (tA f L) a1.toNat) nq kq mq (w4) (j6) (by rw [w6]; exact w7) (by rw [w6]; exact w8)) gX6_load_X6_obeyWord rfl ⟨rfl, by decide +kernel, by decide +kernel, by decide +kernel⟩ ⟨by decide, by decide⟩ 0 (fs := [.ref tx, .ref b, .ref so, .ref pr, .ref b2]) rfl rfl rfl [0, 3] (by decide) (wc := [(sc, .inr (5, [.ref tx, .ref b, .ref so, .ref pr, .ref b2])), (b, .inr (0, [.ref t, .int (iI (-1)), .int (iI b1), .int (iI c1), .long (jL s1)]))]) rfl [.int (iI sm)] rfl (Nat.le_of_ble_eq_true rfl) ⟨Nat.le_of_ble_eq_true rfl, Nat.le_of_ble_eq_true rfl⟩ dX6_load_80 (fun u80 => [(sc, .inr (5, [.ref tx, .ref b, .ref so, .ref pr, .ref b2])), (tx, .inr (4, [.ref sg, .int (iI L), .int (iI u58.2.1), .int (iI u58.2.2.1), .int (iI u58.2.2.2.1), .ref (g_ad (x_G X) (sW (tA f L) a1.toNat)), .int (iI u58.2.2.2.2.2)])), (sg, .inl (g_C (x_G X), 60, .inl (aI f))), (b, .inr (0, [.ref t, .int (iI (-1)), .int (iI u80.2.1), .int (iI u80.2.2.1), .long (jL u80.2.2.2)])), (so, .inr (2, [.ref bo, .ref ca, .ref ss, .int (iI nw), .int (iI 0)])), (bo, .inl (g_I (x_G X), 16, .inl (aI u25)))]) (Or.inr ⟨[1, 2, 4, 5], [4, 0, 1, 5, 2, 3], [(tx, .inr (4, [.ref sg, .int (iI L), .int (iI u58.2.1), .int (iI u58.2.2.1), .int (iI u58.2.2.2.1), .ref (g_ad (x_G X) (sW (tA f L) a1.toNat)), .int (iI u58.2.2.2.2.2)])), (sg, .inl (g_C (x_G X), 60, .inl (aI f))), (so, .inr (2, [.ref bo, .ref ca, .ref ss, .int (iI nw), .int (iI 0)])), (bo, .inl (g_I (x_G X), 16, .inl (aI u25)))], rfl, by decide, by decide, by decide, fun _ => rfl⟩) (fun u80 => [.int (iI u80.1), .int (iI sm)]) (fun _ => rfl) 0 0 ⟨rfl, rfl⟩ (fun u80 hu80 => ?_)
            rw [w6] at hu80
            refine k_iadd C dX6_load_83 ?_
            refine k_nmI (fun v83 e83 => ?_)
            refine k_istore_n C (lo' := [(1, .int (iI v83)), (2, .int (iI i)), (0, .ref sc)]) dX6_load_84 rfl (by decide) rfl ?_
            obtain ⟨v85, e85⟩ : ∃ y : Int, y = i + 1 := ⟨_, rfl⟩
            refine k_iinc C (lo' := [(2, .int (iI v85)), (1, .int (iI v83)), (0, .ref sc)]) 1 rfl dX6_load_85 (by decide) v85 e85 rfl ?_
            refine k_goto C 48 dX6_load_88 (by decide) ?_
            exact ih48 _ _ _ _ v83 v85 u58.2.1 u58.2.2.1 u58.2.2.2.1 (.ref (g_ad (x_G X) (sW (tA f L) a1.toNat))) u58.2.2.2.2.2 u80.2.1 u80.2.2.1 u80.2.2.2 (⟨by omega, by omega, hu58.2.1, hu58.2.2, by rw [e83, hu80.1, j5, ← Int.natCast_add], hu80.2, by rw [e85]; exact LdI_go j7 (by omega) hu58.1 j4 (by omega) rfl⟩) (by omega)
    exact L48 _ 100 0 0 0 0 0 0 1 (-1) u4.2.2.2.2.1 u4.2.2.2.2.2 100 0 0 (⟨by omega, by omega, by omega, Or.inr rfl, rfl, ⟨rfl, rfl, rfl, by decide, by decide, by decide, by decide⟩, LdI_0 hff⟩) (Nat.lt_succ_self _)
  · skip
    exact k_throw C hTh htab hfl rfl 2 rfl 1 rfl 1 2 rfl rfl (by decide +kernel) (by decide +kernel) (by decide +kernel) (by decide +kernel) (by decide +kernel) dX6_load_11 dX6_load_14 dX6_load_15 dX6_load_17 dX6_load_20 (Nat.le_of_ble_eq_true rfl) (Nat.le_of_ble_eq_true rfl) (Nat.le_of_ble_eq_true rfl) (Nat.le_of_ble_eq_true rfl) (u4.2.1, u4.2.2.1, u4.2.2.2.1, @u4.2.2.2.2.1, u4.2.2.2.2.2) rfl (by (try dsimp only) <;> exact (by rw [← hu4.1, ← hu4.2]; exact c8)) rfl
