def IsI (m : Nat) (x : Int) (i : Nat) (b : Int) : Prop := (b = 1 ∧ ∃ j, j < i ∧ (sp j : Int) = x ∧ m.testBit j = true) ∨ (b = 0 ∧ ¬ ∃ j, j < i ∧ (sp j : Int) = x ∧ m.testBit j = true)
theorem IsI_0 {m : Nat} {x : Int} : IsI m x 0 0 := Or.inr ⟨rfl, fun ⟨j, h, _⟩ => absurd h (Nat.not_lt_zero j)⟩
theorem IsI_b {m i : Nat} {x b : Int} (h : IsI m x i b) : b = 0 ∨ b = 1 := by rcases h with h | h <;> omega
theorem IsI_1 {m i : Nat} {x b : Int} (h : IsI m x i b) (hb : ¬ b = 0) : IsI m x (i + 1) 1 := by
  rcases h with ⟨_, j, h1, h2⟩ | ⟨h1, _⟩
  · exact Or.inl ⟨rfl, j, by omega, h2⟩
  · exact absurd h1 hb
theorem IsI_y {m i : Nat} {x v : Int} (h1 : (sp i : Int) = x) (hv : v = if m.testBit i = true then 1 else 0) (h2 : v = 1) : IsI m x (i + 1) 1 := Or.inl ⟨rfl, i, by omega, h1, by
  by_cases e : m.testBit i = true
  · exact e
  · rw [if_neg e] at hv; omega⟩
theorem IsI_n {m i : Nat} {x b : Int} (h : IsI m x i b) (hb : b = 0) (hn : ¬ ((sp i : Int) = x ∧ m.testBit i = true)) : IsI m x (i + 1) 0 := by
  rcases h with ⟨h1, _⟩ | ⟨_, h2⟩
  · omega
  · refine Or.inr ⟨rfl, fun ⟨j, y1, y2⟩ => ?_⟩
    by_cases e : j = i
    · subst e; exact hn y2
    · exact h2 ⟨j, by omega, y2⟩
def TrM (c : Bool × Nat × Nat × Nat) (r : Int) (fs gs : Nat → Int) : Prop := MO_ 17 fs gs ∧ ((r = 1 ∧ c.1 = true ∧ MS gs 17 c.2.1 c.2.2.1 c.2.2.2) ∨ (r = 0 ∧ c.1 = false))
theorem TrM_t {c : Bool × Nat × Nat × Nat} {n k m : Nat} {fs gs : Nat → Int} (h : c = (true, n, k, m)) (hm : MO_ 17 fs gs) (hs : MS gs 17 n k m) : TrM c 1 fs gs := by rw [h]; exact ⟨hm, Or.inl ⟨rfl, rfl, hs⟩⟩
theorem TrM_t2 {c : Bool × Nat × Nat × Nat} {n k m : Nat} {fs gs : Nat → Int} (h1 : c.1 = true) (h : c.2 = (n, k, m)) (hm : MO_ 17 fs gs) (hs : MS gs 17 n k m) : TrM c 1 fs gs := by
  unfold TrM; rw [h]; exact ⟨hm, Or.inl ⟨rfl, h1, hs⟩⟩
theorem TrM_f {c : Bool × Nat × Nat × Nat} {fs gs : Nat → Int} (h : c.1 = false) (hm : MO_ 17 fs gs) : TrM c 0 fs gs := ⟨hm, Or.inr ⟨rfl, h⟩⟩
theorem gpN {N : Int} (h : 1 ≤ N ∧ N ≤ 3) : (N = 1 ∧ gpA N.toNat = 1000000) ∨ (N = 2 ∧ gpA N.toNat = 1000000000000) ∨ (N = 3 ∧ gpA N.toNat = 1000000000000000000) := by
  rcases (show N = 1 ∨ N = 2 ∨ N = 3 by omega) with rfl | rfl | rfl
  · exact Or.inl ⟨rfl, by decide⟩
  · exact Or.inr (Or.inl ⟨rfl, by decide⟩)
  · exact Or.inr (Or.inr ⟨rfl, by decide⟩)
theorem gpA_s {q : Nat} (h : q < 3) : gpA (q + 1) = gpA q * 1000000 := of_decide_eq_true (all_lt (N := 3) (P := fun q => decide (gpA (q + 1) = gpA q * 1000000)) (by decide +kernel) h)
theorem gpA_d {x : Int} {q : Nat} (h : q < 3) : x / gpA q / 1000000 = x / gpA (q + 1) := by
  rw [gpA_s h, Int.ediv_ediv_of_nonneg (by have := gpA_rng (j := q) (by omega); omega)]

theorem in_X7_isStruck_X7 : ∀ w ∈ wsX70, w ∈ wsX7_isStruck := by decide +kernel
set_option maxHeartbeats 4000000 in
set_option maxRecDepth 100000 in
theorem c_X7_isStruck (l : Launch) (G : KG) (mo s sv tx fa ea go qu : Nat) (st ty th un om : Int) (n k m : Nat) (x : Int) (fs fe : Nat → Int) (hM : MS fs 17 n k m) (hE : ∀ i : Nat, i < 40 → fe i = (sp i : Int)) (hx : -2147483648 ≤ x ∧ x < 2147483648) : Ct l G yX7_isStruck wsX7_isStruck (rmD 0 0 0) [.ref mo, .int (iI x)] [(mo, .inr (6, [.ref s, .int (iI st), .ref sv, .ref tx, .int (iI ty), .int (iI th), .ref fa, .ref ea, .ref go, .ref qu, .int (iI un), .int (iI om)])), (s, .inl (g_I G, 756, .inl (aI fs))), (ea, .inl (g_I G, 40, .inl (aI fe)))] (fun u : Int => IsI m x k u) (fun u : Int => some (.int (iI u))) (fun u : Int => [(mo, .inr (6, [.ref s, .int (iI st), .ref sv, .ref tx, .int (iI ty), .int (iI th), .ref fa, .ref ea, .ref go, .ref qu, .int (iI un), .int (iI om)])), (s, .inl (g_I G, 756, .inl (aI fs))), (ea, .inl (g_I G, 40, .inl (aI fe)))]) := by
  refine Ct.of (cc := cX7_isStruck) (maxL := 4) (ret := (some .boolean)) (by decide +kernel) rfl (Nat.le_of_ble_eq_true rfl) ?_
  intro X C hG hL hnm hR
  subst hG
  subst hL
  have C : Cx X cX7_isStruck RX7 wsX7_isStruck (some .boolean) 4 (rmD 0 0 0) := C
  obtain ⟨m1, m2, m3, m4⟩ := id hM
  have mk : k ≤ 40 := m4.2.2.1
  have mn1 : 1 ≤ n := m4.1
  have mn2 : n ≤ 99999 := m4.2.1
  have hz2 := SZ_631 mn2
  have hz1 := SZ_pos mn1
  show K_ X 0 0 [(mo, .inr (6, [.ref s, .int (iI st), .ref sv, .ref tx, .int (iI ty), .int (iI th), .ref fa, .ref ea, .ref go, .ref qu, .int (iI un), .int (iI om)])), (s, .inl (g_I (x_G X), 756, .inl (aI fs))), (ea, .inl (g_I (x_G X), 40, .inl (aI fe)))] 0 [(0, .ref mo), (1, .int (iI x))] []
  refine k_iconst C dX7_isStruck_0 ?_
  refine k_istore_n C (lo' := [(2, .int (iI 0)), (0, .ref mo), (1, .int (iI x))]) dX7_isStruck_1 rfl (by decide) rfl ?_
  refine k_iconst C dX7_isStruck_2 ?_
  refine k_istore_n C (lo' := [(3, .int (iI 0)), (2, .int (iI 0)), (0, .ref mo), (1, .int (iI x))]) dX7_isStruck_3 rfl (by decide) rfl ?_
  have L4 : ∀ (nf : Nat) (b : Int) (i : Int), (0 ≤ i ∧ i ≤ (k : Int) ∧ IsI m x i.toNat b) → ((k : Int) - i).toNat < nf → K_ X 0 0 [(mo, .inr (6, [.ref s, .int (iI st), .ref sv, .ref tx, .int (iI ty), .int (iI th), .ref fa, .ref ea, .ref go, .ref qu, .int (iI un), .int (iI om)])), (s, .inl (g_I (x_G X), 756, .inl (aI fs))), (ea, .inl (g_I (x_G X), 40, .inl (aI fe)))] 4 [(3, .int (iI i)), (2, .int (iI b)), (0, .ref mo), (1, .int (iI x))] [] := by
    intro nf
    induction nf with
    | zero => intro b i hI hm; exact absurd hm (Nat.not_lt_zero _)
    | succ nf ih4 =>
      intro b i hI4 hm4
      obtain ⟨i1, i2, i3⟩ := hI4
      have hb := IsI_b i3
      refine k_iload_n C 0 rfl dX7_isStruck_4 rfl ?_
      refine k_aload_n C 2 rfl dX7_isStruck_5 rfl ?_
      refine k_get C (Cn := RX7) (T := TX7) (N := 12) (ci := 6) (ref := "StruckCountsModel") in_X7_isStruck_X7 0 rfl rfl 0 (by decide) 1 rfl rfl (v := .ref s) rfl dX7_isStruck_6 ?_
      refine k_sipush C dX7_isStruck_9 (by decide) ?_
      refine k_iald C (f := fs) 1 rfl (⟨by omega, by omega⟩) (by decide) dX7_isStruck_12 ?_
      refine k_nmI (fun v12 e12 => ?_)
      have h12 : v12 = (k : Int) := by rw [e12]; exact m2
      refine k_icmp_ge C 56 (⟨by omega, by omega⟩) (⟨by omega, by omega⟩) dX7_isStruck_13 (by decide) (fun c13 => ?_) (fun c13 => ?_)
      · skip
        refine k_iload_n C 1 rfl dX7_isStruck_56 rfl ?_
        exact k_zret C hR (hb) (u := b) rfl (by rw [show k = i.toNat by omega]; exact i3) rfl (Nat.le_of_ble_eq_true rfl) (Nat.le_of_ble_eq_true rfl) dX7_isStruck_57
      · skip
        refine k_iload_n C 1 rfl dX7_isStruck_16 rfl ?_
        refine k_if_ne C 44 (⟨by omega, by omega⟩) dX7_isStruck_17 (by decide) (fun c17 => ?_) (fun c17 => ?_)
        · skip
          have hst := IsI_1 i3 c17
          refine k_iconst C dX7_isStruck_44 ?_
          refine k_goto C 49 dX7_isStruck_45 (by decide) ?_
          refine k_istore_n C (lo' := [(2, .int (iI 1)), (3, .int (iI i)), (0, .ref mo), (1, .int (iI x))]) dX7_isStruck_49 rfl (by decide) rfl ?_
          obtain ⟨v50, e50⟩ : ∃ y : Int, y = i + 1 := ⟨_, rfl⟩
          refine k_iinc C (lo' := [(3, .int (iI v50)), (2, .int (iI 1)), (0, .ref mo), (1, .int (iI x))]) 1 rfl dX7_isStruck_50 (by decide) v50 e50 rfl ?_
          refine k_goto C 4 dX7_isStruck_53 (by decide) ?_
          exact ih4 1 v50 (⟨by omega, by omega, by rw [show v50.toNat = i.toNat + 1 by omega]; exact hst⟩) (by omega)
        · skip
          refine k_aload_n C 2 rfl dX7_isStruck_20 rfl ?_
          refine k_get C (Cn := RX7) (T := TX7) (N := 12) (ci := 6) (ref := "StruckCountsModel") in_X7_isStruck_X7 0 rfl rfl 7 (by decide) 2 rfl rfl (v := .ref ea) rfl dX7_isStruck_21 ?_
          refine k_iload_n C 0 rfl dX7_isStruck_24 rfl ?_
          refine k_iald C (f := fe) 2 rfl (⟨by omega, by omega⟩) (by decide) dX7_isStruck_25 ?_
          refine k_nmI (fun v25 e25 => ?_)
          have h25 : v25 = (sp i.toNat : Int) := by rw [e25]; exact hE _ (by omega)
          have hs1 := sp_le (show i.toNat < 65 by omega)
          refine k_iload_n C 3 rfl dX7_isStruck_26 rfl ?_
          refine k_icmp_ne C 48 (⟨by omega, by omega⟩) (⟨by omega, by omega⟩) dX7_isStruck_27 (by decide) (fun c27 => ?_) (fun c27 => ?_)
          · skip
            have hst := IsI_n i3 (by omega) (fun z => by have := z.1; omega)
            refine k_iconst C dX7_isStruck_48 ?_
            refine k_istore_n C (lo' := [(2, .int (iI 0)), (3, .int (iI i)), (0, .ref mo), (1, .int (iI x))]) dX7_isStruck_49 rfl (by decide) rfl ?_
            obtain ⟨v50, e50⟩ : ∃ y : Int, y = i + 1 := ⟨_, rfl⟩
            refine k_iinc C (lo' := [(3, .int (iI v50)), (2, .int (iI 0)), (0, .ref mo), (1, .int (iI x))]) 1 rfl dX7_isStruck_50 (by decide) v50 e50 rfl ?_
            refine k_goto C 4 dX7_isStruck_53 (by decide) ?_
            exact ih4 0 v50 (⟨by omega, by omega, by rw [show v50.toNat = i.toNat + 1 by omega]; exact hst⟩) (by omega)
          · skip
            refine k_aload_n C 2 rfl dX7_isStruck_30 rfl ?_
            refine k_get C (Cn := RX7) (T := TX7) (N := 12) (ci := 6) (ref := "StruckCountsModel") in_X7_isStruck_X7 0 rfl rfl 0 (by decide) 1 rfl rfl (v := .ref s) rfl dX7_isStruck_31 ?_
            refine k_sipush C dX7_isStruck_34 (by decide) ?_
            refine k_iload_n C 0 rfl dX7_isStruck_37 rfl ?_
            refine k_iadd C dX7_isStruck_38 ?_
            refine k_nmI (fun v38 e38 => ?_)
            refine k_iald C (f := fs) 1 rfl (⟨by omega, by omega⟩) (by decide) dX7_isStruck_39 ?_
            refine k_nmI (fun v39 e39 => ?_)
            have h39 : v39 = if m.testBit i.toNat = true then 1 else 0 := by rw [e39, show v38.toNat = 42 * 17 + 2 + i.toNat by omega]; exact m3 _ (by omega)
            have h39b : 0 ≤ v39 ∧ v39 ≤ 1 := by rw [h39]; split <;> omega
            refine k_iconst C dX7_isStruck_40 ?_
            refine k_icmp_ne C 48 (⟨by omega, by omega⟩) (⟨by omega, by omega⟩) dX7_isStruck_41 (by decide) (fun c41 => ?_) (fun c41 => ?_)
            · skip
              have hst := IsI_n i3 (by omega) (fun z => by have := z.2; rw [if_pos this] at h39; omega)
              refine k_iconst C dX7_isStruck_48 ?_
              refine k_istore_n C (lo' := [(2, .int (iI 0)), (3, .int (iI i)), (0, .ref mo), (1, .int (iI x))]) dX7_isStruck_49 rfl (by decide) rfl ?_
              obtain ⟨v50, e50⟩ : ∃ y : Int, y = i + 1 := ⟨_, rfl⟩
              refine k_iinc C (lo' := [(3, .int (iI v50)), (2, .int (iI 0)), (0, .ref mo), (1, .int (iI x))]) 1 rfl dX7_isStruck_50 (by decide) v50 e50 rfl ?_
              refine k_goto C 4 dX7_isStruck_53 (by decide) ?_
              exact ih4 0 v50 (⟨by omega, by omega, by rw [show v50.toNat = i.toNat + 1 by omega]; exact hst⟩) (by omega)
            · skip
              have hst := IsI_y (m := m) (x := x) (i := i.toNat) (by omega) h39 (by omega)
              refine k_iconst C dX7_isStruck_44 ?_
              refine k_goto C 49 dX7_isStruck_45 (by decide) ?_
              refine k_istore_n C (lo' := [(2, .int (iI 1)), (3, .int (iI i)), (0, .ref mo), (1, .int (iI x))]) dX7_isStruck_49 rfl (by decide) rfl ?_
              obtain ⟨v50, e50⟩ : ∃ y : Int, y = i + 1 := ⟨_, rfl⟩
              refine k_iinc C (lo' := [(3, .int (iI v50)), (2, .int (iI 1)), (0, .ref mo), (1, .int (iI x))]) 1 rfl dX7_isStruck_50 (by decide) v50 e50 rfl ?_
              refine k_goto C 4 dX7_isStruck_53 (by decide) ?_
              exact ih4 1 v50 (⟨by omega, by omega, by rw [show v50.toNat = i.toNat + 1 by omega]; exact hst⟩) (by omega)
  exact L4 _ 0 0 (⟨by omega, by omega, IsI_0⟩) (Nat.lt_succ_self _)
theorem in_X7_tries_X7 : ∀ w ∈ wsX70, w ∈ wsX7_tries := by decide +kernel
set_option maxHeartbeats 4000000 in
set_option maxRecDepth 100000 in
theorem c_X7_tries (l : Launch) (G : KG) (mo s sv tx fa ea go qu : Nat) (st ty th un om : Int) (n k m : Nat) (g : Int) (fs fe fg fq : Nat → Int) (hM : MS fs 17 n k m) (hE : ∀ i : Nat, i < 40 → fe i = (sp i : Int)) (hg : 0 ≤ g ∧ g < 1000000) : Ct l G yX7_tries wsX7_tries (rmD 2 0 0) [.ref mo, .int (iI g)] [(mo, .inr (6, [.ref s, .int (iI st), .ref sv, .ref tx, .int (iI ty), .int (iI th), .ref fa, .ref ea, .ref go, .ref qu, .int (iI un), .int (iI om)])), (s, .inl (g_I G, 756, .inl (aI fs))), (ea, .inl (g_I G, 40, .inl (aI fe))), (go, .inl (g_Z G, 100000, .inl (aI fg))), (qu, .inl (g_I G, 700, .inl (aI fq)))] (fun u : Int × (Nat → Int) × Int × (Nat → Int) × (Nat → Int) => TrM (cmd (g / 100000) (g % 100000) n k m) u.1 fs u.2.1) (fun u : Int × (Nat → Int) × Int × (Nat → Int) × (Nat → Int) => some (.int (iI u.1))) (fun u : Int × (Nat → Int) × Int × (Nat → Int) × (Nat → Int) => [(mo, .inr (6, [.ref s, .int (iI st), .ref sv, .ref tx, .int (iI ty), .int (iI th), .ref fa, .ref ea, .ref go, .ref qu, .int (iI u.2.2.1), .int (iI om)])), (s, .inl (g_I G, 756, .inl (aI u.2.1))), (ea, .inl (g_I G, 40, .inl (aI fe))), (go, .inl (g_Z G, 100000, .inl (aI u.2.2.2.1))), (qu, .inl (g_I G, 700, .inl (aI u.2.2.2.2)))]) := by
  refine Ct.of (cc := cX7_tries) (maxL := 4) (ret := (some .boolean)) (by decide +kernel) rfl (Nat.le_of_ble_eq_true rfl) ?_
  intro X C hG hL hnm hR
  subst hG
  subst hL
  have C : Cx X cX7_tries RX7 wsX7_tries (some .boolean) 4 (rmD 2 0 0) := C
  obtain ⟨m1, m2, m3, m4⟩ := id hM
  have mk : k ≤ 40 := m4.2.2.1
  have mn1 : 1 ≤ n := m4.1
  have mn2 : n ≤ 99999 := m4.2.1
  have hz2 := SZ_631 mn2
  have hz1 := SZ_pos mn1
  have hrn := nxI_or n k
  have hcm := cA_rng m k n
  show K_ X 0 0 [(mo, .inr (6, [.ref s, .int (iI st), .ref sv, .ref tx, .int (iI ty), .int (iI th), .ref fa, .ref ea, .ref go, .ref qu, .int (iI un), .int (iI om)])), (s, .inl (g_I (x_G X), 756, .inl (aI fs))), (ea, .inl (g_I (x_G X), 40, .inl (aI fe))), (go, .inl (g_Z (x_G X), 100000, .inl (aI fg))), (qu, .inl (g_I (x_G X), 700, .inl (aI fq)))] 0 [(0, .ref mo), (1, .int (iI g))] []
  refine k_iload_n C 1 rfl dX7_tries_0 rfl ?_
  refine k_ldc C 100000 1 rfl (by decide) dX7_tries_1 ?_
  refine k_irem C ⟨by omega, by omega⟩ ⟨by omega, by omega⟩ dX7_tries_3 ?_
  refine k_nmI (fun v3 e3 => ?_)
  refine k_istore_n C (lo' := [(2, .int (iI v3)), (0, .ref mo), (1, .int (iI g))]) dX7_tries_4 rfl (by decide) rfl ?_
  refine k_iload_n C 0 rfl dX7_tries_5 rfl ?_
  refine k_if_ne C 13 (⟨by omega, by omega⟩) dX7_tries_6 (by decide) (fun c6 => ?_) (fun c6 => ?_)
  · skip
    refine k_iconst C dX7_tries_13 ?_
    refine k_istore_n C (lo' := [(3, .int (iI 0)), (2, .int (iI v3)), (0, .ref mo), (1, .int (iI g))]) dX7_tries_14 rfl (by decide) rfl ?_
    refine k_iload_n C 3 rfl dX7_tries_15 rfl ?_
    refine k_ldc C 100000 1 rfl (by decide) dX7_tries_16 ?_
    refine k_idiv C ⟨by omega, by omega⟩ ⟨by omega, by omega⟩ dX7_tries_18 ?_
    refine k_nmI (fun v18 e18 => ?_)
    have hc : cmd (g / 100000) (g % 100000) n k m = cmd v18 v3 n k m := by rw [e18, e3]
    rcases (show (v18 < 1 ∨ 9 < v18) ∨ (v18 = 1) ∨ (v18 = 2) ∨ (v18 = 3) ∨ (v18 = 4) ∨ (v18 = 5) ∨ (v18 = 6) ∨ (v18 = 7) ∨ (v18 = 8) ∨ (v18 = 9) by omega) with c19 | c19 | c19 | c19 | c19 | c19 | c19 | c19 | c19 | c19
    · refine k_tabOut C 225 (⟨by omega, by omega⟩) dX7_tries_19 c19 (by decide) ?_
      refine k_iconst C dX7_tries_225 ?_
      exact k_zret C hR (by omega) (u := (0, fs, un, fg, fq)) rfl (by (try dsimp only) <;> exact (TrM_f (by rw [hc]; exact cmd_0 (by omega)) MO_r)) rfl (Nat.le_of_ble_eq_true rfl) (Nat.le_of_ble_eq_true rfl) dX7_tries_226
    · refine k_tabIn C 68 (⟨by omega, by omega⟩) dX7_tries_19 (by omega) (by omega) (by rw [c19]; rfl) (by decide) ?_
      refine k_iload_n C 1 rfl dX7_tries_68 rfl ?_
      refine k_if_le C 76 (⟨by omega, by omega⟩) dX7_tries_69 (by decide) (fun c69 => ?_) (fun c69 => ?_)
      · skip
        refine k_iconst C dX7_tries_76 ?_
        refine k_istore_n C (lo' := [(3, .int (iI 0)), (2, .int (iI v3)), (0, .ref mo), (1, .int (iI g))]) dX7_tries_77 rfl (by decide) rfl ?_
        refine k_iload_n C 0 rfl dX7_tries_78 rfl ?_
        refine k_if_eq C 89 (⟨by omega, by omega⟩) dX7_tries_79 (by decide) (fun c79 => ?_) (fun c79 => ?_)
        · skip
          refine k_iload_n C 0 rfl dX7_tries_89 rfl ?_
          exact k_zret C hR (by omega) (u := (0, fs, un, fg, fq)) rfl (by (try dsimp only) <;> exact (by first | exact TrM_t (by rw [hc, c19]; exact cmd_1 (by omega)) (hu86.2) (hu86.1) | exact TrM_f (by rw [hc, c19]; exact cmd_1f (by omega)) (MO_r))) rfl (Nat.le_of_ble_eq_true rfl) (Nat.le_of_ble_eq_true rfl) dX7_tries_90
        · exfalso; omega
      · skip
        refine k_iconst C dX7_tries_72 ?_
        refine k_goto C 77 dX7_tries_73 (by decide) ?_
        refine k_istore_n C (lo' := [(3, .int (iI 1)), (2, .int (iI v3)), (0, .ref mo), (1, .int (iI g))]) dX7_tries_77 rfl (by decide) rfl ?_
        refine k_iload_n C 0 rfl dX7_tries_78 rfl ?_
        refine k_if_eq C 89 (⟨by omega, by omega⟩) dX7_tries_79 (by decide) (fun c79 => ?_) (fun c79 => ?_)
        · exfalso; omega
        · skip
          refine k_aload_n C 2 rfl dX7_tries_82 rfl ?_
          refine k_bipush C dX7_tries_83 (by decide) ?_
          refine k_iload_n C 1 rfl dX7_tries_85 rfl ?_
          refine k_callV C (y := yX7_bounds) [.int (iI 17), .int (iI v3)] 2 rfl (c_X7_bounds (x_l X) (x_G X) mo s sv tx fa ea go qu st ty th un om 17 v3 17 v3.toNat fs (rfl) (by decide) (by omega) (by omega)) gX7_tries_X7_bounds rfl ⟨rfl, by decide +kernel, by decide +kernel, by decide +kernel⟩ ⟨by decide, by decide⟩ 0 (fs := [.ref s, .int (iI st), .ref sv, .ref tx, .int (iI ty), .int (iI th), .ref fa, .ref ea, .ref go, .ref qu, .int (iI un), .int (iI om)]) rfl rfl rfl [0, 1] (by decide) (wc := [(mo, .inr (6, [.ref s, .int (iI st), .ref sv, .ref tx, .int (iI ty), .int (iI th), .ref fa, .ref ea, .ref go, .ref qu, .int (iI un), .int (iI om)])), (s, .inl (g_I (x_G X), 756, .inl (aI fs)))]) rfl [] rfl (Nat.le_of_ble_eq_true rfl) ⟨Nat.le_of_ble_eq_true rfl, Nat.le_of_ble_eq_true rfl⟩ dX7_tries_86 (fun u86 => [(mo, .inr (6, [.ref s, .int (iI st), .ref sv, .ref tx, .int (iI ty), .int (iI th), .ref fa, .ref ea, .ref go, .ref qu, .int (iI un), .int (iI om)])), (s, .inl (g_I (x_G X), 756, .inl (aI u86))), (ea, .inl (g_I (x_G X), 40, .inl (aI fe))), (go, .inl (g_Z (x_G X), 100000, .inl (aI fg))), (qu, .inl (g_I (x_G X), 700, .inl (aI fq)))]) (Or.inr ⟨[2, 3, 4], [3, 4, 0, 1, 2], [(ea, .inl (g_I (x_G X), 40, .inl (aI fe))), (go, .inl (g_Z (x_G X), 100000, .inl (aI fg))), (qu, .inl (g_I (x_G X), 700, .inl (aI fq)))], rfl, by decide, by decide, by decide, fun _ => rfl⟩) (fun u86 => []) (fun _ => rfl) 0 0 ⟨rfl, rfl⟩ (fun u86 hu86 => ?_)
          refine k_iload_n C 0 rfl dX7_tries_89 rfl ?_
          exact k_zret C hR (by omega) (u := (1, u86, un, fg, fq)) rfl (by (try dsimp only) <;> exact (by first | exact TrM_t (by rw [hc, c19]; exact cmd_1 (by omega)) (hu86.2) (hu86.1) | exact TrM_f (by rw [hc, c19]; exact cmd_1f (by omega)) (MO_r))) rfl (Nat.le_of_ble_eq_true rfl) (Nat.le_of_ble_eq_true rfl) dX7_tries_90
    · refine k_tabIn C 91 (⟨by omega, by omega⟩) dX7_tries_19 (by omega) (by omega) (by rw [c19]; rfl) (by decide) ?_
      refine k_iload_n C 0 rfl dX7_tries_91 rfl ?_
      refine k_if_eq C 108 (⟨by omega, by omega⟩) dX7_tries_92 (by decide) (fun c92 => ?_) (fun c92 => ?_)
      · skip
        refine k_iconst C dX7_tries_108 ?_
        refine k_istore_n C (lo' := [(3, .int (iI 0)), (2, .int (iI v3)), (0, .ref mo), (1, .int (iI g))]) dX7_tries_109 rfl (by decide) rfl ?_
        refine k_iload_n C 0 rfl dX7_tries_110 rfl ?_
        refine k_if_eq C 133 (⟨by omega, by omega⟩) dX7_tries_111 (by decide) (fun c111 => ?_) (fun c111 => ?_)
        · skip
          refine k_iload_n C 0 rfl dX7_tries_133 rfl ?_
          exact k_zret C hR (by omega) (u := (0, fs, un, fg, fq)) rfl (by (try dsimp only) <;> exact (by first | (exfalso; omega) | exact TrM_t (by rw [hc, c19]; exact cmd_2 ⟨by omega, by omega⟩) (hu130.2) (hu130.1) | exact TrM_t (by rw [hc, c19]; exact cmd_3 ⟨by omega, by omega⟩) (hu130.2) (hu130.1) | exact TrM_f (by rw [hc, c19]; exact cmd_2f (fun z => by omega)) (MO_r) | exact TrM_f (by rw [hc, c19]; exact cmd_3f (fun z => by omega)) (MO_r))) rfl (Nat.le_of_ble_eq_true rfl) (Nat.le_of_ble_eq_true rfl) dX7_tries_134
        · exfalso; omega
      · exfalso; omega
    · refine k_tabIn C 91 (⟨by omega, by omega⟩) dX7_tries_19 (by omega) (by omega) (by rw [c19]; rfl) (by decide) ?_
      refine k_iload_n C 0 rfl dX7_tries_91 rfl ?_
      refine k_if_eq C 108 (⟨by omega, by omega⟩) dX7_tries_92 (by decide) (fun c92 => ?_) (fun c92 => ?_)
      · skip
        refine k_iconst C dX7_tries_108 ?_
        refine k_istore_n C (lo' := [(3, .int (iI 0)), (2, .int (iI v3)), (0, .ref mo), (1, .int (iI g))]) dX7_tries_109 rfl (by decide) rfl ?_
        refine k_iload_n C 0 rfl dX7_tries_110 rfl ?_
        refine k_if_eq C 133 (⟨by omega, by omega⟩) dX7_tries_111 (by decide) (fun c111 => ?_) (fun c111 => ?_)
        · skip
          refine k_iload_n C 0 rfl dX7_tries_133 rfl ?_
          exact k_zret C hR (by omega) (u := (0, fs, un, fg, fq)) rfl (by (try dsimp only) <;> exact (by first | (exfalso; omega) | exact TrM_t (by rw [hc, c19]; exact cmd_2 ⟨by omega, by omega⟩) (hu130.2) (hu130.1) | exact TrM_t (by rw [hc, c19]; exact cmd_3 ⟨by omega, by omega⟩) (hu130.2) (hu130.1) | exact TrM_f (by rw [hc, c19]; exact cmd_2f (fun z => by omega)) (MO_r) | exact TrM_f (by rw [hc, c19]; exact cmd_3f (fun z => by omega)) (MO_r))) rfl (Nat.le_of_ble_eq_true rfl) (Nat.le_of_ble_eq_true rfl) dX7_tries_134
        · exfalso; omega
      · exfalso; omega
    · refine k_tabIn C 135 (⟨by omega, by omega⟩) dX7_tries_19 (by omega) (by omega) (by rw [c19]; rfl) (by decide) ?_
      refine k_aload_n C 2 rfl dX7_tries_135 rfl ?_
      refine k_bipush C dX7_tries_136 (by decide) ?_
      refine k_iload_n C 1 rfl dX7_tries_138 rfl ?_
      refine k_callV C (y := yX7_strikesTo) [.int (iI 17), .int (iI v3)] 2 rfl (c_X7_strikesTo (x_l X) (x_G X) mo s sv tx fa ea go qu st ty th un om 17 v3 17 n k m fs fe (rfl) (by decide) (by first | assumption | omega) (by first | assumption | omega) (by first | assumption | omega)) gX7_tries_X7_strikesTo rfl ⟨rfl, by decide +kernel, by decide +kernel, by decide +kernel⟩ ⟨by decide, by decide⟩ 0 (fs := [.ref s, .int (iI st), .ref sv, .ref tx, .int (iI ty), .int (iI th), .ref fa, .ref ea, .ref go, .ref qu, .int (iI un), .int (iI om)]) rfl rfl rfl [0, 1, 2] (by decide) (wc := [(mo, .inr (6, [.ref s, .int (iI st), .ref sv, .ref tx, .int (iI ty), .int (iI th), .ref fa, .ref ea, .ref go, .ref qu, .int (iI un), .int (iI om)])), (s, .inl (g_I (x_G X), 756, .inl (aI fs))), (ea, .inl (g_I (x_G X), 40, .inl (aI fe)))]) rfl [] rfl (Nat.le_of_ble_eq_true rfl) ⟨Nat.le_of_ble_eq_true rfl, Nat.le_of_ble_eq_true rfl⟩ dX7_tries_139 (fun u139 => [(mo, .inr (6, [.ref s, .int (iI st), .ref sv, .ref tx, .int (iI ty), .int (iI th), .ref fa, .ref ea, .ref go, .ref qu, .int (iI un), .int (iI om)])), (s, .inl (g_I (x_G X), 756, .inl (aI u139.2))), (ea, .inl (g_I (x_G X), 40, .inl (aI fe))), (go, .inl (g_Z (x_G X), 100000, .inl (aI fg))), (qu, .inl (g_I (x_G X), 700, .inl (aI fq)))]) (Or.inr ⟨[3, 4], [2, 3, 4, 0, 1], [(go, .inl (g_Z (x_G X), 100000, .inl (aI fg))), (qu, .inl (g_I (x_G X), 700, .inl (aI fq)))], rfl, by decide, by decide, by decide, fun _ => rfl⟩) (fun u139 => [.int (iI u139.1)]) (fun _ => rfl) 0 0 ⟨rfl, rfl⟩ (fun u139 hu139 => ?_)
      refine k_pop C dX7_tries_142 rfl ?_
      refine k_iconst C dX7_tries_143 ?_
      exact k_zret C hR (by omega) (u := (1, u139.2, un, fg, fq)) rfl (by (try dsimp only) <;> exact (TrM_t (by rw [hc, c19]; exact cmd_4) (hu139.2.2) (hu139.2.1))) rfl (Nat.le_of_ble_eq_true rfl) (Nat.le_of_ble_eq_true rfl) dX7_tries_144
    · refine k_tabIn C 145 (⟨by omega, by omega⟩) dX7_tries_19 (by omega) (by omega) (by rw [c19]; rfl) (by decide) ?_
      refine k_aload_n C 2 rfl dX7_tries_145 rfl ?_
      refine k_get C (Cn := RX7) (T := TX7) (N := 12) (ci := 6) (ref := "StruckCountsModel") in_X7_tries_X7 0 rfl rfl 0 (by decide) 2 rfl rfl (v := .ref s) rfl dX7_tries_146 ?_
      refine k_sipush C dX7_tries_149 (by decide) ?_
      refine k_iload_n C 0 rfl dX7_tries_152 rfl ?_
      refine k_if_eq C 160 (⟨by omega, by omega⟩) dX7_tries_153 (by decide) (fun c153 => ?_) (fun c153 => ?_)
      · skip
        refine k_aload_n C 2 rfl dX7_tries_160 rfl ?_
        refine k_get C (Cn := RX7) (T := TX7) (N := 12) (ci := 6) (ref := "StruckCountsModel") in_X7_tries_X7 0 rfl rfl 0 (by decide) 2 rfl rfl (v := .ref s) rfl dX7_tries_161 ?_
        refine k_sipush C dX7_tries_164 (by decide) ?_
        refine k_iald C (f := fs) 1 rfl (⟨by omega, by omega⟩) (by decide) dX7_tries_167 ?_
        refine k_nmI (fun v167 e167 => ?_)
        refine k_iast C (f := fs) 1 rfl (⟨by omega, by omega⟩) (by decide) (fun gg => [(mo, .inr (6, [.ref s, .int (iI st), .ref sv, .ref tx, .int (iI ty), .int (iI th), .ref fa, .ref ea, .ref go, .ref qu, .int (iI un), .int (iI om)])), (s, .inl (g_I (x_G X), 756, .inl (aI gg))), (ea, .inl (g_I (x_G X), 40, .inl (aI fe))), (go, .inl (g_Z (x_G X), 100000, .inl (aI fg))), (qu, .inl (g_I (x_G X), 700, .inl (aI fq)))]) (fun _ => rfl) dX7_tries_168 (fun g168 e168 => ?_)
        refine k_iload_n C 0 rfl dX7_tries_169 rfl ?_
        exact k_zret C hR (by omega) (u := (0, g168, un, fg, fq)) rfl (by (try dsimp only) <;> exact (by first | exact TrM_t (by rw [hc, c19]; exact cmd_5 (by omega)) ((MS_ag (J := 17) hM e168).2) ((MS_ag (J := 17) hM e168).1) | exact TrM_f (by rw [hc, c19]; exact cmd_5f (by omega)) (MO_u (J := 17) e168 (by decide)))) rfl (Nat.le_of_ble_eq_true rfl) (Nat.le_of_ble_eq_true rfl) dX7_tries_170
      · exfalso; omega
    · refine k_tabIn C 171 (⟨by omega, by omega⟩) dX7_tries_19 (by omega) (by omega) (by rw [c19]; rfl) (by decide) ?_
      refine k_aload_n C 2 rfl dX7_tries_171 rfl ?_
      refine k_bipush C dX7_tries_172 (by decide) ?_
      refine k_callV C (y := yX7_leftIn) [.int (iI 17)] 1 rfl (c_X7_leftIn (x_l X) (x_G X) mo s sv tx fa ea go qu st ty th un om 17 17 n k m fs fe fg (rfl) (by decide) (by first | assumption | omega) (by first | assumption | omega)) gX7_tries_X7_leftIn rfl ⟨rfl, by decide +kernel, by decide +kernel, by decide +kernel⟩ ⟨by decide, by decide⟩ 0 (fs := [.ref s, .int (iI st), .ref sv, .ref tx, .int (iI ty), .int (iI th), .ref fa, .ref ea, .ref go, .ref qu, .int (iI un), .int (iI om)]) rfl rfl rfl [0, 1, 2, 3] (by decide) (wc := [(mo, .inr (6, [.ref s, .int (iI st), .ref sv, .ref tx, .int (iI ty), .int (iI th), .ref fa, .ref ea, .ref go, .ref qu, .int (iI un), .int (iI om)])), (s, .inl (g_I (x_G X), 756, .inl (aI fs))), (ea, .inl (g_I (x_G X), 40, .inl (aI fe))), (go, .inl (g_Z (x_G X), 100000, .inl (aI fg)))]) rfl [] rfl (Nat.le_of_ble_eq_true rfl) ⟨Nat.le_of_ble_eq_true rfl, Nat.le_of_ble_eq_true rfl⟩ dX7_tries_174 (fun u174 => [(mo, .inr (6, [.ref s, .int (iI st), .ref sv, .ref tx, .int (iI ty), .int (iI th), .ref fa, .ref ea, .ref go, .ref qu, .int (iI un), .int (iI om)])), (s, .inl (g_I (x_G X), 756, .inl (aI fs))), (ea, .inl (g_I (x_G X), 40, .inl (aI fe))), (go, .inl (g_Z (x_G X), 100000, .inl (aI u174.2))), (qu, .inl (g_I (x_G X), 700, .inl (aI fq)))]) (Or.inr ⟨[4], [1, 2, 3, 4, 0], [(qu, .inl (g_I (x_G X), 700, .inl (aI fq)))], rfl, by decide, by decide, by decide, fun _ => rfl⟩) (fun u174 => [.int (iI u174.1)]) (fun _ => rfl) 0 0 ⟨rfl, rfl⟩ (fun u174 hu174 => ?_)
      refine k_iload_n C 1 rfl dX7_tries_177 rfl ?_
      refine k_icmp_lt C 185 (by rw [hu174.1]; omega) (⟨by omega, by omega⟩) dX7_tries_178 (by decide) (fun c178 => ?_) (fun c178 => ?_)
      · skip
        refine k_iconst C dX7_tries_185 ?_
        exact k_zret C hR (by omega) (u := (0, fs, un, u174.2, fq)) rfl (by (try dsimp only) <;> exact (TrM_f (by rw [hc, c19, cmd_6]; exact decide_eq_false (by have := hu174.1; omega)) MO_r)) rfl (Nat.le_of_ble_eq_true rfl) (Nat.le_of_ble_eq_true rfl) dX7_tries_186
      · skip
        refine k_iconst C dX7_tries_181 ?_
        refine k_goto C 186 dX7_tries_182 (by decide) ?_
        exact k_zret C hR (by omega) (u := (1, fs, un, u174.2, fq)) rfl (by (try dsimp only) <;> exact (TrM_t (by rw [hc, c19, cmd_6, decide_eq_true (by have := hu174.1; omega)]) MO_r hM)) rfl (Nat.le_of_ble_eq_true rfl) (Nat.le_of_ble_eq_true rfl) dX7_tries_186
    · refine k_tabIn C 187 (⟨by omega, by omega⟩) dX7_tries_19 (by omega) (by omega) (by rw [c19]; rfl) (by decide) ?_
      refine k_aload_n C 2 rfl dX7_tries_187 rfl ?_
      refine k_bipush C dX7_tries_188 (by decide) ?_
      refine k_callV C (y := yX7_leftIn) [.int (iI 17)] 1 rfl (c_X7_leftIn (x_l X) (x_G X) mo s sv tx fa ea go qu st ty th un om 17 17 n k m fs fe fg (rfl) (by decide) (by first | assumption | omega) (by first | assumption | omega)) gX7_tries_X7_leftIn rfl ⟨rfl, by decide +kernel, by decide +kernel, by decide +kernel⟩ ⟨by decide, by decide⟩ 0 (fs := [.ref s, .int (iI st), .ref sv, .ref tx, .int (iI ty), .int (iI th), .ref fa, .ref ea, .ref go, .ref qu, .int (iI un), .int (iI om)]) rfl rfl rfl [0, 1, 2, 3] (by decide) (wc := [(mo, .inr (6, [.ref s, .int (iI st), .ref sv, .ref tx, .int (iI ty), .int (iI th), .ref fa, .ref ea, .ref go, .ref qu, .int (iI un), .int (iI om)])), (s, .inl (g_I (x_G X), 756, .inl (aI fs))), (ea, .inl (g_I (x_G X), 40, .inl (aI fe))), (go, .inl (g_Z (x_G X), 100000, .inl (aI fg)))]) rfl [] rfl (Nat.le_of_ble_eq_true rfl) ⟨Nat.le_of_ble_eq_true rfl, Nat.le_of_ble_eq_true rfl⟩ dX7_tries_190 (fun u190 => [(mo, .inr (6, [.ref s, .int (iI st), .ref sv, .ref tx, .int (iI ty), .int (iI th), .ref fa, .ref ea, .ref go, .ref qu, .int (iI un), .int (iI om)])), (s, .inl (g_I (x_G X), 756, .inl (aI fs))), (ea, .inl (g_I (x_G X), 40, .inl (aI fe))), (go, .inl (g_Z (x_G X), 100000, .inl (aI u190.2))), (qu, .inl (g_I (x_G X), 700, .inl (aI fq)))]) (Or.inr ⟨[4], [1, 2, 3, 4, 0], [(qu, .inl (g_I (x_G X), 700, .inl (aI fq)))], rfl, by decide, by decide, by decide, fun _ => rfl⟩) (fun u190 => [.int (iI u190.1)]) (fun _ => rfl) 0 0 ⟨rfl, rfl⟩ (fun u190 hu190 => ?_)
      refine k_iload_n C 1 rfl dX7_tries_193 rfl ?_
      refine k_icmp_gt C 201 (by rw [hu190.1]; omega) (⟨by omega, by omega⟩) dX7_tries_194 (by decide) (fun c194 => ?_) (fun c194 => ?_)
      · skip
        refine k_iconst C dX7_tries_201 ?_
        exact k_zret C hR (by omega) (u := (0, fs, un, u190.2, fq)) rfl (by (try dsimp only) <;> exact (TrM_f (by rw [hc, c19, cmd_7]; exact decide_eq_false (by have := hu190.1; omega)) MO_r)) rfl (Nat.le_of_ble_eq_true rfl) (Nat.le_of_ble_eq_true rfl) dX7_tries_202
      · skip
        refine k_iconst C dX7_tries_197 ?_
        refine k_goto C 202 dX7_tries_198 (by decide) ?_
        exact k_zret C hR (by omega) (u := (1, fs, un, u190.2, fq)) rfl (by (try dsimp only) <;> exact (TrM_t (by rw [hc, c19, cmd_7, decide_eq_true (by have := hu190.1; omega)]) MO_r hM)) rfl (Nat.le_of_ble_eq_true rfl) (Nat.le_of_ble_eq_true rfl) dX7_tries_202
    · refine k_tabIn C 203 (⟨by omega, by omega⟩) dX7_tries_19 (by omega) (by omega) (by rw [c19]; rfl) (by decide) ?_
      refine k_aload_n C 2 rfl dX7_tries_203 rfl ?_
      refine k_bipush C dX7_tries_204 (by decide) ?_
      refine k_iload_n C 1 rfl dX7_tries_206 rfl ?_
      refine k_callV C (y := yX7_placeOf) [.int (iI 17), .int (iI v3)] 2 rfl (c_X7_placeOf (x_l X) (x_G X) mo s sv tx fa ea go qu st ty th un om 17 v3 17 n k m fs fq (rfl) (by decide) (by first | assumption | omega) (by first | assumption | omega)) gX7_tries_X7_placeOf rfl ⟨rfl, by decide +kernel, by decide +kernel, by decide +kernel⟩ ⟨by decide, by decide⟩ 0 (fs := [.ref s, .int (iI st), .ref sv, .ref tx, .int (iI ty), .int (iI th), .ref fa, .ref ea, .ref go, .ref qu, .int (iI un), .int (iI om)]) rfl rfl rfl [0, 1, 4] (by decide) (wc := [(mo, .inr (6, [.ref s, .int (iI st), .ref sv, .ref tx, .int (iI ty), .int (iI th), .ref fa, .ref ea, .ref go, .ref qu, .int (iI un), .int (iI om)])), (s, .inl (g_I (x_G X), 756, .inl (aI fs))), (qu, .inl (g_I (x_G X), 700, .inl (aI fq)))]) rfl [] rfl (Nat.le_of_ble_eq_true rfl) ⟨Nat.le_of_ble_eq_true rfl, Nat.le_of_ble_eq_true rfl⟩ dX7_tries_207 (fun u207 => [(mo, .inr (6, [.ref s, .int (iI st), .ref sv, .ref tx, .int (iI ty), .int (iI th), .ref fa, .ref ea, .ref go, .ref qu, .int (iI ((SZ n : Nat) : Int)), .int (iI om)])), (s, .inl (g_I (x_G X), 756, .inl (aI fs))), (ea, .inl (g_I (x_G X), 40, .inl (aI fe))), (go, .inl (g_Z (x_G X), 100000, .inl (aI fg))), (qu, .inl (g_I (x_G X), 700, .inl (aI u207.2)))]) (Or.inr ⟨[2, 3], [2, 3, 0, 1, 4], [(ea, .inl (g_I (x_G X), 40, .inl (aI fe))), (go, .inl (g_Z (x_G X), 100000, .inl (aI fg)))], rfl, by decide, by decide, by decide, fun _ => rfl⟩) (fun u207 => [.int (iI u207.1)]) (fun _ => rfl) 0 0 ⟨rfl, rfl⟩ (fun u207 hu207 => ?_)
      have hpr := pI_rng n v3
      have hpl := pI_lt (n := n) (v := v3) mn1
      refine k_if_lt C 217 (by rw [hu207.1]; omega) dX7_tries_210 (by decide) (fun c210 => ?_) (fun c210 => ?_)
      · skip
        refine k_iconst C dX7_tries_217 ?_
        exact k_zret C hR (by omega) (u := (0, fs, ((SZ n : Nat) : Int), fg, u207.2)) rfl (by (try dsimp only) <;> exact (TrM_f (by rw [hc, c19]; exact bfalse cmd_8.2 (by have := hu207.1; omega)) MO_r)) rfl (Nat.le_of_ble_eq_true rfl) (Nat.le_of_ble_eq_true rfl) dX7_tries_218
      · skip
        refine k_iconst C dX7_tries_213 ?_
        refine k_goto C 218 dX7_tries_214 (by decide) ?_
        exact k_zret C hR (by omega) (u := (1, fs, ((SZ n : Nat) : Int), fg, u207.2)) rfl (by (try dsimp only) <;> exact (TrM_t2 (by rw [hc, c19]; exact cmd_8.2.mpr (by have := hu207.1; omega)) (by rw [hc, c19]; exact cmd_8.1) MO_r hM)) rfl (Nat.le_of_ble_eq_true rfl) (Nat.le_of_ble_eq_true rfl) dX7_tries_218
    · refine k_tabIn C 219 (⟨by omega, by omega⟩) dX7_tries_19 (by omega) (by omega) (by rw [c19]; rfl) (by decide) ?_
      refine k_aload_n C 2 rfl dX7_tries_219 rfl ?_
      refine k_iload_n C 1 rfl dX7_tries_220 rfl ?_
      refine k_callV C (y := yX7_isStruck) [.int (iI v3)] 1 rfl (c_X7_isStruck (x_l X) (x_G X) mo s sv tx fa ea go qu st ty th un om n k m v3 fs fe (by first | assumption | omega) (by first | assumption | omega) (by first | assumption | omega)) gX7_tries_X7_isStruck rfl ⟨rfl, by decide +kernel, by decide +kernel, by decide +kernel⟩ ⟨by decide, by decide⟩ 0 (fs := [.ref s, .int (iI st), .ref sv, .ref tx, .int (iI ty), .int (iI th), .ref fa, .ref ea, .ref go, .ref qu, .int (iI un), .int (iI om)]) rfl rfl rfl [0, 1, 2] (by decide) (wc := [(mo, .inr (6, [.ref s, .int (iI st), .ref sv, .ref tx, .int (iI ty), .int (iI th), .ref fa, .ref ea, .ref go, .ref qu, .int (iI un), .int (iI om)])), (s, .inl (g_I (x_G X), 756, .inl (aI fs))), (ea, .inl (g_I (x_G X), 40, .inl (aI fe)))]) rfl [] rfl (Nat.le_of_ble_eq_true rfl) ⟨Nat.le_of_ble_eq_true rfl, Nat.le_of_ble_eq_true rfl⟩ dX7_tries_221 (fun _ => [(mo, .inr (6, [.ref s, .int (iI st), .ref sv, .ref tx, .int (iI ty), .int (iI th), .ref fa, .ref ea, .ref go, .ref qu, .int (iI un), .int (iI om)])), (s, .inl (g_I (x_G X), 756, .inl (aI fs))), (ea, .inl (g_I (x_G X), 40, .inl (aI fe))), (go, .inl (g_Z (x_G X), 100000, .inl (aI fg))), (qu, .inl (g_I (x_G X), 700, .inl (aI fq)))]) (Or.inl (fun _ => ⟨rfl, rfl⟩)) (fun u221 => [.int (iI u221)]) (fun _ => rfl) 0 0 ⟨rfl, rfl⟩ (fun u221 hu221 => ?_)
      exact k_zret C hR (IsI_b hu221) (u := (u221, fs, un, fg, fq)) rfl (by (try dsimp only) <;> exact (by rcases hu221 with ⟨z, y⟩ | ⟨z, y⟩; (rw [z]; exact TrM_t2 (by rw [hc, c19]; exact cmd_9.2.mpr y) (by rw [hc, c19]; exact cmd_9.1) MO_r hM); (rw [z]; exact TrM_f (by rw [hc, c19]; exact bfalse cmd_9.2 y) MO_r))) rfl (Nat.le_of_ble_eq_true rfl) (Nat.le_of_ble_eq_true rfl) dX7_tries_224
  · skip
    refine k_iconst C dX7_tries_9 ?_
    refine k_goto C 14 dX7_tries_10 (by decide) ?_
    refine k_istore_n C (lo' := [(3, .int (iI 1)), (2, .int (iI v3)), (0, .ref mo), (1, .int (iI g))]) dX7_tries_14 rfl (by decide) rfl ?_
    refine k_iload_n C 3 rfl dX7_tries_15 rfl ?_
    refine k_ldc C 100000 1 rfl (by decide) dX7_tries_16 ?_
    refine k_idiv C ⟨by omega, by omega⟩ ⟨by omega, by omega⟩ dX7_tries_18 ?_
    refine k_nmI (fun v18 e18 => ?_)
    have hc : cmd (g / 100000) (g % 100000) n k m = cmd v18 v3 n k m := by rw [e18, e3]
    rcases (show (v18 < 1 ∨ 9 < v18) ∨ (v18 = 1) ∨ (v18 = 2) ∨ (v18 = 3) ∨ (v18 = 4) ∨ (v18 = 5) ∨ (v18 = 6) ∨ (v18 = 7) ∨ (v18 = 8) ∨ (v18 = 9) by omega) with c19 | c19 | c19 | c19 | c19 | c19 | c19 | c19 | c19 | c19
    · refine k_tabOut C 225 (⟨by omega, by omega⟩) dX7_tries_19 c19 (by decide) ?_
      refine k_iconst C dX7_tries_225 ?_
      exact k_zret C hR (by omega) (u := (0, fs, un, fg, fq)) rfl (by (try dsimp only) <;> exact (TrM_f (by rw [hc]; exact cmd_0 (by omega)) MO_r)) rfl (Nat.le_of_ble_eq_true rfl) (Nat.le_of_ble_eq_true rfl) dX7_tries_226
    · refine k_tabIn C 68 (⟨by omega, by omega⟩) dX7_tries_19 (by omega) (by omega) (by rw [c19]; rfl) (by decide) ?_
      refine k_iload_n C 1 rfl dX7_tries_68 rfl ?_
      refine k_if_le C 76 (⟨by omega, by omega⟩) dX7_tries_69 (by decide) (fun c69 => ?_) (fun c69 => ?_)
      · skip
        refine k_iconst C dX7_tries_76 ?_
        refine k_istore_n C (lo' := [(3, .int (iI 0)), (2, .int (iI v3)), (0, .ref mo), (1, .int (iI g))]) dX7_tries_77 rfl (by decide) rfl ?_
        refine k_iload_n C 0 rfl dX7_tries_78 rfl ?_
        refine k_if_eq C 89 (⟨by omega, by omega⟩) dX7_tries_79 (by decide) (fun c79 => ?_) (fun c79 => ?_)
        · skip
          refine k_iload_n C 0 rfl dX7_tries_89 rfl ?_
          exact k_zret C hR (by omega) (u := (0, fs, un, fg, fq)) rfl (by (try dsimp only) <;> exact (by first | exact TrM_t (by rw [hc, c19]; exact cmd_1 (by omega)) (hu86.2) (hu86.1) | exact TrM_f (by rw [hc, c19]; exact cmd_1f (by omega)) (MO_r))) rfl (Nat.le_of_ble_eq_true rfl) (Nat.le_of_ble_eq_true rfl) dX7_tries_90
        · exfalso; omega
      · skip
        refine k_iconst C dX7_tries_72 ?_
        refine k_goto C 77 dX7_tries_73 (by decide) ?_
        refine k_istore_n C (lo' := [(3, .int (iI 1)), (2, .int (iI v3)), (0, .ref mo), (1, .int (iI g))]) dX7_tries_77 rfl (by decide) rfl ?_
        refine k_iload_n C 0 rfl dX7_tries_78 rfl ?_
        refine k_if_eq C 89 (⟨by omega, by omega⟩) dX7_tries_79 (by decide) (fun c79 => ?_) (fun c79 => ?_)
        · exfalso; omega
        · skip
          refine k_aload_n C 2 rfl dX7_tries_82 rfl ?_
          refine k_bipush C dX7_tries_83 (by decide) ?_
          refine k_iload_n C 1 rfl dX7_tries_85 rfl ?_
          refine k_callV C (y := yX7_bounds) [.int (iI 17), .int (iI v3)] 2 rfl (c_X7_bounds (x_l X) (x_G X) mo s sv tx fa ea go qu st ty th un om 17 v3 17 v3.toNat fs (rfl) (by decide) (by omega) (by omega)) gX7_tries_X7_bounds rfl ⟨rfl, by decide +kernel, by decide +kernel, by decide +kernel⟩ ⟨by decide, by decide⟩ 0 (fs := [.ref s, .int (iI st), .ref sv, .ref tx, .int (iI ty), .int (iI th), .ref fa, .ref ea, .ref go, .ref qu, .int (iI un), .int (iI om)]) rfl rfl rfl [0, 1] (by decide) (wc := [(mo, .inr (6, [.ref s, .int (iI st), .ref sv, .ref tx, .int (iI ty), .int (iI th), .ref fa, .ref ea, .ref go, .ref qu, .int (iI un), .int (iI om)])), (s, .inl (g_I (x_G X), 756, .inl (aI fs)))]) rfl [] rfl (Nat.le_of_ble_eq_true rfl) ⟨Nat.le_of_ble_eq_true rfl, Nat.le_of_ble_eq_true rfl⟩ dX7_tries_86 (fun u86 => [(mo, .inr (6, [.ref s, .int (iI st), .ref sv, .ref tx, .int (iI ty), .int (iI th), .ref fa, .ref ea, .ref go, .ref qu, .int (iI un), .int (iI om)])), (s, .inl (g_I (x_G X), 756, .inl (aI u86))), (ea, .inl (g_I (x_G X), 40, .inl (aI fe))), (go, .inl (g_Z (x_G X), 100000, .inl (aI fg))), (qu, .inl (g_I (x_G X), 700, .inl (aI fq)))]) (Or.inr ⟨[2, 3, 4], [3, 4, 0, 1, 2], [(ea, .inl (g_I (x_G X), 40, .inl (aI fe))), (go, .inl (g_Z (x_G X), 100000, .inl (aI fg))), (qu, .inl (g_I (x_G X), 700, .inl (aI fq)))], rfl, by decide, by decide, by decide, fun _ => rfl⟩) (fun u86 => []) (fun _ => rfl) 0 0 ⟨rfl, rfl⟩ (fun u86 hu86 => ?_)
          refine k_iload_n C 0 rfl dX7_tries_89 rfl ?_
          exact k_zret C hR (by omega) (u := (1, u86, un, fg, fq)) rfl (by (try dsimp only) <;> exact (by first | exact TrM_t (by rw [hc, c19]; exact cmd_1 (by omega)) (hu86.2) (hu86.1) | exact TrM_f (by rw [hc, c19]; exact cmd_1f (by omega)) (MO_r))) rfl (Nat.le_of_ble_eq_true rfl) (Nat.le_of_ble_eq_true rfl) dX7_tries_90
    · refine k_tabIn C 91 (⟨by omega, by omega⟩) dX7_tries_19 (by omega) (by omega) (by rw [c19]; rfl) (by decide) ?_
      refine k_iload_n C 0 rfl dX7_tries_91 rfl ?_
      refine k_if_eq C 108 (⟨by omega, by omega⟩) dX7_tries_92 (by decide) (fun c92 => ?_) (fun c92 => ?_)
      · exfalso; omega
      · skip
        refine k_aload_n C 2 rfl dX7_tries_95 rfl ?_
        refine k_bipush C dX7_tries_96 (by decide) ?_
        refine k_callV C (y := yX7_next) [.int (iI 17)] 1 rfl (c_X7_next (x_l X) (x_G X) mo s sv tx fa ea go qu st ty th un om 17 17 n k m fs fe (rfl) (by decide) (by first | assumption | omega) (by first | assumption | omega)) gX7_tries_X7_next rfl ⟨rfl, by decide +kernel, by decide +kernel, by decide +kernel⟩ ⟨by decide, by decide⟩ 0 (fs := [.ref s, .int (iI st), .ref sv, .ref tx, .int (iI ty), .int (iI th), .ref fa, .ref ea, .ref go, .ref qu, .int (iI un), .int (iI om)]) rfl rfl rfl [0, 1, 2] (by decide) (wc := [(mo, .inr (6, [.ref s, .int (iI st), .ref sv, .ref tx, .int (iI ty), .int (iI th), .ref fa, .ref ea, .ref go, .ref qu, .int (iI un), .int (iI om)])), (s, .inl (g_I (x_G X), 756, .inl (aI fs))), (ea, .inl (g_I (x_G X), 40, .inl (aI fe)))]) rfl [] rfl (Nat.le_of_ble_eq_true rfl) ⟨Nat.le_of_ble_eq_true rfl, Nat.le_of_ble_eq_true rfl⟩ dX7_tries_98 (fun _ => [(mo, .inr (6, [.ref s, .int (iI st), .ref sv, .ref tx, .int (iI ty), .int (iI th), .ref fa, .ref ea, .ref go, .ref qu, .int (iI un), .int (iI om)])), (s, .inl (g_I (x_G X), 756, .inl (aI fs))), (ea, .inl (g_I (x_G X), 40, .inl (aI fe))), (go, .inl (g_Z (x_G X), 100000, .inl (aI fg))), (qu, .inl (g_I (x_G X), 700, .inl (aI fq)))]) (Or.inl (fun _ => ⟨rfl, rfl⟩)) (fun u98 => [.int (iI u98)]) (fun _ => rfl) 0 0 ⟨rfl, rfl⟩ (fun u98 hu98 => ?_)
        refine k_if_le C 108 (by rw [hu98]; omega) dX7_tries_101 (by decide) (fun c101 => ?_) (fun c101 => ?_)
        · skip
          refine k_iconst C dX7_tries_108 ?_
          refine k_istore_n C (lo' := [(3, .int (iI 0)), (2, .int (iI v3)), (0, .ref mo), (1, .int (iI g))]) dX7_tries_109 rfl (by decide) rfl ?_
          refine k_iload_n C 0 rfl dX7_tries_110 rfl ?_
          refine k_if_eq C 133 (⟨by omega, by omega⟩) dX7_tries_111 (by decide) (fun c111 => ?_) (fun c111 => ?_)
          · skip
            refine k_iload_n C 0 rfl dX7_tries_133 rfl ?_
            exact k_zret C hR (by omega) (u := (0, fs, un, fg, fq)) rfl (by (try dsimp only) <;> exact (by first | (exfalso; omega) | exact TrM_t (by rw [hc, c19]; exact cmd_2 ⟨by omega, by omega⟩) (hu130.2) (hu130.1) | exact TrM_t (by rw [hc, c19]; exact cmd_3 ⟨by omega, by omega⟩) (hu130.2) (hu130.1) | exact TrM_f (by rw [hc, c19]; exact cmd_2f (fun z => by omega)) (MO_r) | exact TrM_f (by rw [hc, c19]; exact cmd_3f (fun z => by omega)) (MO_r))) rfl (Nat.le_of_ble_eq_true rfl) (Nat.le_of_ble_eq_true rfl) dX7_tries_134
          · exfalso; omega
        · skip
          refine k_iconst C dX7_tries_104 ?_
          refine k_goto C 109 dX7_tries_105 (by decide) ?_
          refine k_istore_n C (lo' := [(3, .int (iI 1)), (2, .int (iI v3)), (0, .ref mo), (1, .int (iI g))]) dX7_tries_109 rfl (by decide) rfl ?_
          refine k_iload_n C 0 rfl dX7_tries_110 rfl ?_
          refine k_if_eq C 133 (⟨by omega, by omega⟩) dX7_tries_111 (by decide) (fun c111 => ?_) (fun c111 => ?_)
          · exfalso; omega
          · skip
            refine k_aload_n C 2 rfl dX7_tries_114 rfl ?_
            refine k_bipush C dX7_tries_115 (by decide) ?_
            refine k_iload_n C 3 rfl dX7_tries_117 rfl ?_
            refine k_ldc C 100000 1 rfl (by decide) dX7_tries_118 ?_
            refine k_idiv C ⟨by omega, by omega⟩ ⟨by omega, by omega⟩ dX7_tries_120 ?_
            refine k_nmI (fun v120 e120 => ?_)
            refine k_iconst C dX7_tries_121 ?_
            refine k_icmp_ne C 129 (⟨by omega, by omega⟩) (⟨by omega, by omega⟩) dX7_tries_122 (by decide) (fun c122 => ?_) (fun c122 => ?_)
            · skip
              refine k_iconst C dX7_tries_129 ?_
              refine k_callV C (y := yX7_comes) [.int (iI 17), .int (iI 0)] 2 rfl (c_X7_comes (x_l X) (x_G X) mo s sv tx fa ea go qu st ty th un om 17 0 17 n k m fs (rfl) (by decide) (by first | assumption | omega) ((nxI_some (n := n) (k := k) (by omega)).1) (by first | exact Or.inl rfl | exact Or.inr rfl)) gX7_tries_X7_comes rfl ⟨rfl, by decide +kernel, by decide +kernel, by decide +kernel⟩ ⟨by decide, by decide⟩ 0 (fs := [.ref s, .int (iI st), .ref sv, .ref tx, .int (iI ty), .int (iI th), .ref fa, .ref ea, .ref go, .ref qu, .int (iI un), .int (iI om)]) rfl rfl rfl [0, 1] (by decide) (wc := [(mo, .inr (6, [.ref s, .int (iI st), .ref sv, .ref tx, .int (iI ty), .int (iI th), .ref fa, .ref ea, .ref go, .ref qu, .int (iI un), .int (iI om)])), (s, .inl (g_I (x_G X), 756, .inl (aI fs)))]) rfl [] rfl (Nat.le_of_ble_eq_true rfl) ⟨Nat.le_of_ble_eq_true rfl, Nat.le_of_ble_eq_true rfl⟩ dX7_tries_130 (fun u130 => [(mo, .inr (6, [.ref s, .int (iI st), .ref sv, .ref tx, .int (iI ty), .int (iI th), .ref fa, .ref ea, .ref go, .ref qu, .int (iI un), .int (iI om)])), (s, .inl (g_I (x_G X), 756, .inl (aI u130))), (ea, .inl (g_I (x_G X), 40, .inl (aI fe))), (go, .inl (g_Z (x_G X), 100000, .inl (aI fg))), (qu, .inl (g_I (x_G X), 700, .inl (aI fq)))]) (Or.inr ⟨[2, 3, 4], [3, 4, 0, 1, 2], [(ea, .inl (g_I (x_G X), 40, .inl (aI fe))), (go, .inl (g_Z (x_G X), 100000, .inl (aI fg))), (qu, .inl (g_I (x_G X), 700, .inl (aI fq)))], rfl, by decide, by decide, by decide, fun _ => rfl⟩) (fun u130 => []) (fun _ => rfl) 0 0 ⟨rfl, rfl⟩ (fun u130 hu130 => ?_)
              first | rw [if_pos rfl] at hu130 | rw [if_neg (by decide)] at hu130
              refine k_iload_n C 0 rfl dX7_tries_133 rfl ?_
              exact k_zret C hR (by omega) (u := (1, u130, un, fg, fq)) rfl (by (try dsimp only) <;> exact (by first | (exfalso; omega) | exact TrM_t (by rw [hc, c19]; exact cmd_2 ⟨by omega, by omega⟩) (hu130.2) (hu130.1) | exact TrM_t (by rw [hc, c19]; exact cmd_3 ⟨by omega, by omega⟩) (hu130.2) (hu130.1) | exact TrM_f (by rw [hc, c19]; exact cmd_2f (fun z => by omega)) (MO_r) | exact TrM_f (by rw [hc, c19]; exact cmd_3f (fun z => by omega)) (MO_r))) rfl (Nat.le_of_ble_eq_true rfl) (Nat.le_of_ble_eq_true rfl) dX7_tries_134
            · skip
              refine k_iconst C dX7_tries_125 ?_
              refine k_goto C 130 dX7_tries_126 (by decide) ?_
              refine k_callV C (y := yX7_comes) [.int (iI 17), .int (iI 1)] 2 rfl (c_X7_comes (x_l X) (x_G X) mo s sv tx fa ea go qu st ty th un om 17 1 17 n k m fs (rfl) (by decide) (by first | assumption | omega) ((nxI_some (n := n) (k := k) (by omega)).1) (by first | exact Or.inl rfl | exact Or.inr rfl)) gX7_tries_X7_comes rfl ⟨rfl, by decide +kernel, by decide +kernel, by decide +kernel⟩ ⟨by decide, by decide⟩ 0 (fs := [.ref s, .int (iI st), .ref sv, .ref tx, .int (iI ty), .int (iI th), .ref fa, .ref ea, .ref go, .ref qu, .int (iI un), .int (iI om)]) rfl rfl rfl [0, 1] (by decide) (wc := [(mo, .inr (6, [.ref s, .int (iI st), .ref sv, .ref tx, .int (iI ty), .int (iI th), .ref fa, .ref ea, .ref go, .ref qu, .int (iI un), .int (iI om)])), (s, .inl (g_I (x_G X), 756, .inl (aI fs)))]) rfl [] rfl (Nat.le_of_ble_eq_true rfl) ⟨Nat.le_of_ble_eq_true rfl, Nat.le_of_ble_eq_true rfl⟩ dX7_tries_130 (fun u130 => [(mo, .inr (6, [.ref s, .int (iI st), .ref sv, .ref tx, .int (iI ty), .int (iI th), .ref fa, .ref ea, .ref go, .ref qu, .int (iI un), .int (iI om)])), (s, .inl (g_I (x_G X), 756, .inl (aI u130))), (ea, .inl (g_I (x_G X), 40, .inl (aI fe))), (go, .inl (g_Z (x_G X), 100000, .inl (aI fg))), (qu, .inl (g_I (x_G X), 700, .inl (aI fq)))]) (Or.inr ⟨[2, 3, 4], [3, 4, 0, 1, 2], [(ea, .inl (g_I (x_G X), 40, .inl (aI fe))), (go, .inl (g_Z (x_G X), 100000, .inl (aI fg))), (qu, .inl (g_I (x_G X), 700, .inl (aI fq)))], rfl, by decide, by decide, by decide, fun _ => rfl⟩) (fun u130 => []) (fun _ => rfl) 0 0 ⟨rfl, rfl⟩ (fun u130 hu130 => ?_)
              first | rw [if_pos rfl] at hu130 | rw [if_neg (by decide)] at hu130
              refine k_iload_n C 0 rfl dX7_tries_133 rfl ?_
              exact k_zret C hR (by omega) (u := (1, u130, un, fg, fq)) rfl (by (try dsimp only) <;> exact (by first | (exfalso; omega) | exact TrM_t (by rw [hc, c19]; exact cmd_2 ⟨by omega, by omega⟩) (hu130.2) (hu130.1) | exact TrM_t (by rw [hc, c19]; exact cmd_3 ⟨by omega, by omega⟩) (hu130.2) (hu130.1) | exact TrM_f (by rw [hc, c19]; exact cmd_2f (fun z => by omega)) (MO_r) | exact TrM_f (by rw [hc, c19]; exact cmd_3f (fun z => by omega)) (MO_r))) rfl (Nat.le_of_ble_eq_true rfl) (Nat.le_of_ble_eq_true rfl) dX7_tries_134
    · refine k_tabIn C 91 (⟨by omega, by omega⟩) dX7_tries_19 (by omega) (by omega) (by rw [c19]; rfl) (by decide) ?_
      refine k_iload_n C 0 rfl dX7_tries_91 rfl ?_
      refine k_if_eq C 108 (⟨by omega, by omega⟩) dX7_tries_92 (by decide) (fun c92 => ?_) (fun c92 => ?_)
      · exfalso; omega
      · skip
        refine k_aload_n C 2 rfl dX7_tries_95 rfl ?_
        refine k_bipush C dX7_tries_96 (by decide) ?_
        refine k_callV C (y := yX7_next) [.int (iI 17)] 1 rfl (c_X7_next (x_l X) (x_G X) mo s sv tx fa ea go qu st ty th un om 17 17 n k m fs fe (rfl) (by decide) (by first | assumption | omega) (by first | assumption | omega)) gX7_tries_X7_next rfl ⟨rfl, by decide +kernel, by decide +kernel, by decide +kernel⟩ ⟨by decide, by decide⟩ 0 (fs := [.ref s, .int (iI st), .ref sv, .ref tx, .int (iI ty), .int (iI th), .ref fa, .ref ea, .ref go, .ref qu, .int (iI un), .int (iI om)]) rfl rfl rfl [0, 1, 2] (by decide) (wc := [(mo, .inr (6, [.ref s, .int (iI st), .ref sv, .ref tx, .int (iI ty), .int (iI th), .ref fa, .ref ea, .ref go, .ref qu, .int (iI un), .int (iI om)])), (s, .inl (g_I (x_G X), 756, .inl (aI fs))), (ea, .inl (g_I (x_G X), 40, .inl (aI fe)))]) rfl [] rfl (Nat.le_of_ble_eq_true rfl) ⟨Nat.le_of_ble_eq_true rfl, Nat.le_of_ble_eq_true rfl⟩ dX7_tries_98 (fun _ => [(mo, .inr (6, [.ref s, .int (iI st), .ref sv, .ref tx, .int (iI ty), .int (iI th), .ref fa, .ref ea, .ref go, .ref qu, .int (iI un), .int (iI om)])), (s, .inl (g_I (x_G X), 756, .inl (aI fs))), (ea, .inl (g_I (x_G X), 40, .inl (aI fe))), (go, .inl (g_Z (x_G X), 100000, .inl (aI fg))), (qu, .inl (g_I (x_G X), 700, .inl (aI fq)))]) (Or.inl (fun _ => ⟨rfl, rfl⟩)) (fun u98 => [.int (iI u98)]) (fun _ => rfl) 0 0 ⟨rfl, rfl⟩ (fun u98 hu98 => ?_)
        refine k_if_le C 108 (by rw [hu98]; omega) dX7_tries_101 (by decide) (fun c101 => ?_) (fun c101 => ?_)
        · skip
          refine k_iconst C dX7_tries_108 ?_
          refine k_istore_n C (lo' := [(3, .int (iI 0)), (2, .int (iI v3)), (0, .ref mo), (1, .int (iI g))]) dX7_tries_109 rfl (by decide) rfl ?_
          refine k_iload_n C 0 rfl dX7_tries_110 rfl ?_
          refine k_if_eq C 133 (⟨by omega, by omega⟩) dX7_tries_111 (by decide) (fun c111 => ?_) (fun c111 => ?_)
          · skip
            refine k_iload_n C 0 rfl dX7_tries_133 rfl ?_
            exact k_zret C hR (by omega) (u := (0, fs, un, fg, fq)) rfl (by (try dsimp only) <;> exact (by first | (exfalso; omega) | exact TrM_t (by rw [hc, c19]; exact cmd_2 ⟨by omega, by omega⟩) (hu130.2) (hu130.1) | exact TrM_t (by rw [hc, c19]; exact cmd_3 ⟨by omega, by omega⟩) (hu130.2) (hu130.1) | exact TrM_f (by rw [hc, c19]; exact cmd_2f (fun z => by omega)) (MO_r) | exact TrM_f (by rw [hc, c19]; exact cmd_3f (fun z => by omega)) (MO_r))) rfl (Nat.le_of_ble_eq_true rfl) (Nat.le_of_ble_eq_true rfl) dX7_tries_134
          · exfalso; omega
        · skip
          refine k_iconst C dX7_tries_104 ?_
          refine k_goto C 109 dX7_tries_105 (by decide) ?_
          refine k_istore_n C (lo' := [(3, .int (iI 1)), (2, .int (iI v3)), (0, .ref mo), (1, .int (iI g))]) dX7_tries_109 rfl (by decide) rfl ?_
          refine k_iload_n C 0 rfl dX7_tries_110 rfl ?_
          refine k_if_eq C 133 (⟨by omega, by omega⟩) dX7_tries_111 (by decide) (fun c111 => ?_) (fun c111 => ?_)
          · exfalso; omega
          · skip
            refine k_aload_n C 2 rfl dX7_tries_114 rfl ?_
            refine k_bipush C dX7_tries_115 (by decide) ?_
            refine k_iload_n C 3 rfl dX7_tries_117 rfl ?_
            refine k_ldc C 100000 1 rfl (by decide) dX7_tries_118 ?_
            refine k_idiv C ⟨by omega, by omega⟩ ⟨by omega, by omega⟩ dX7_tries_120 ?_
            refine k_nmI (fun v120 e120 => ?_)
            refine k_iconst C dX7_tries_121 ?_
            refine k_icmp_ne C 129 (⟨by omega, by omega⟩) (⟨by omega, by omega⟩) dX7_tries_122 (by decide) (fun c122 => ?_) (fun c122 => ?_)
            · skip
              refine k_iconst C dX7_tries_129 ?_
              refine k_callV C (y := yX7_comes) [.int (iI 17), .int (iI 0)] 2 rfl (c_X7_comes (x_l X) (x_G X) mo s sv tx fa ea go qu st ty th un om 17 0 17 n k m fs (rfl) (by decide) (by first | assumption | omega) ((nxI_some (n := n) (k := k) (by omega)).1) (by first | exact Or.inl rfl | exact Or.inr rfl)) gX7_tries_X7_comes rfl ⟨rfl, by decide +kernel, by decide +kernel, by decide +kernel⟩ ⟨by decide, by decide⟩ 0 (fs := [.ref s, .int (iI st), .ref sv, .ref tx, .int (iI ty), .int (iI th), .ref fa, .ref ea, .ref go, .ref qu, .int (iI un), .int (iI om)]) rfl rfl rfl [0, 1] (by decide) (wc := [(mo, .inr (6, [.ref s, .int (iI st), .ref sv, .ref tx, .int (iI ty), .int (iI th), .ref fa, .ref ea, .ref go, .ref qu, .int (iI un), .int (iI om)])), (s, .inl (g_I (x_G X), 756, .inl (aI fs)))]) rfl [] rfl (Nat.le_of_ble_eq_true rfl) ⟨Nat.le_of_ble_eq_true rfl, Nat.le_of_ble_eq_true rfl⟩ dX7_tries_130 (fun u130 => [(mo, .inr (6, [.ref s, .int (iI st), .ref sv, .ref tx, .int (iI ty), .int (iI th), .ref fa, .ref ea, .ref go, .ref qu, .int (iI un), .int (iI om)])), (s, .inl (g_I (x_G X), 756, .inl (aI u130))), (ea, .inl (g_I (x_G X), 40, .inl (aI fe))), (go, .inl (g_Z (x_G X), 100000, .inl (aI fg))), (qu, .inl (g_I (x_G X), 700, .inl (aI fq)))]) (Or.inr ⟨[2, 3, 4], [3, 4, 0, 1, 2], [(ea, .inl (g_I (x_G X), 40, .inl (aI fe))), (go, .inl (g_Z (x_G X), 100000, .inl (aI fg))), (qu, .inl (g_I (x_G X), 700, .inl (aI fq)))], rfl, by decide, by decide, by decide, fun _ => rfl⟩) (fun u130 => []) (fun _ => rfl) 0 0 ⟨rfl, rfl⟩ (fun u130 hu130 => ?_)
              first | rw [if_pos rfl] at hu130 | rw [if_neg (by decide)] at hu130
              refine k_iload_n C 0 rfl dX7_tries_133 rfl ?_
              exact k_zret C hR (by omega) (u := (1, u130, un, fg, fq)) rfl (by (try dsimp only) <;> exact (by first | (exfalso; omega) | exact TrM_t (by rw [hc, c19]; exact cmd_2 ⟨by omega, by omega⟩) (hu130.2) (hu130.1) | exact TrM_t (by rw [hc, c19]; exact cmd_3 ⟨by omega, by omega⟩) (hu130.2) (hu130.1) | exact TrM_f (by rw [hc, c19]; exact cmd_2f (fun z => by omega)) (MO_r) | exact TrM_f (by rw [hc, c19]; exact cmd_3f (fun z => by omega)) (MO_r))) rfl (Nat.le_of_ble_eq_true rfl) (Nat.le_of_ble_eq_true rfl) dX7_tries_134
            · skip
              refine k_iconst C dX7_tries_125 ?_
              refine k_goto C 130 dX7_tries_126 (by decide) ?_
              refine k_callV C (y := yX7_comes) [.int (iI 17), .int (iI 1)] 2 rfl (c_X7_comes (x_l X) (x_G X) mo s sv tx fa ea go qu st ty th un om 17 1 17 n k m fs (rfl) (by decide) (by first | assumption | omega) ((nxI_some (n := n) (k := k) (by omega)).1) (by first | exact Or.inl rfl | exact Or.inr rfl)) gX7_tries_X7_comes rfl ⟨rfl, by decide +kernel, by decide +kernel, by decide +kernel⟩ ⟨by decide, by decide⟩ 0 (fs := [.ref s, .int (iI st), .ref sv, .ref tx, .int (iI ty), .int (iI th), .ref fa, .ref ea, .ref go, .ref qu, .int (iI un), .int (iI om)]) rfl rfl rfl [0, 1] (by decide) (wc := [(mo, .inr (6, [.ref s, .int (iI st), .ref sv, .ref tx, .int (iI ty), .int (iI th), .ref fa, .ref ea, .ref go, .ref qu, .int (iI un), .int (iI om)])), (s, .inl (g_I (x_G X), 756, .inl (aI fs)))]) rfl [] rfl (Nat.le_of_ble_eq_true rfl) ⟨Nat.le_of_ble_eq_true rfl, Nat.le_of_ble_eq_true rfl⟩ dX7_tries_130 (fun u130 => [(mo, .inr (6, [.ref s, .int (iI st), .ref sv, .ref tx, .int (iI ty), .int (iI th), .ref fa, .ref ea, .ref go, .ref qu, .int (iI un), .int (iI om)])), (s, .inl (g_I (x_G X), 756, .inl (aI u130))), (ea, .inl (g_I (x_G X), 40, .inl (aI fe))), (go, .inl (g_Z (x_G X), 100000, .inl (aI fg))), (qu, .inl (g_I (x_G X), 700, .inl (aI fq)))]) (Or.inr ⟨[2, 3, 4], [3, 4, 0, 1, 2], [(ea, .inl (g_I (x_G X), 40, .inl (aI fe))), (go, .inl (g_Z (x_G X), 100000, .inl (aI fg))), (qu, .inl (g_I (x_G X), 700, .inl (aI fq)))], rfl, by decide, by decide, by decide, fun _ => rfl⟩) (fun u130 => []) (fun _ => rfl) 0 0 ⟨rfl, rfl⟩ (fun u130 hu130 => ?_)
              first | rw [if_pos rfl] at hu130 | rw [if_neg (by decide)] at hu130
              refine k_iload_n C 0 rfl dX7_tries_133 rfl ?_
              exact k_zret C hR (by omega) (u := (1, u130, un, fg, fq)) rfl (by (try dsimp only) <;> exact (by first | (exfalso; omega) | exact TrM_t (by rw [hc, c19]; exact cmd_2 ⟨by omega, by omega⟩) (hu130.2) (hu130.1) | exact TrM_t (by rw [hc, c19]; exact cmd_3 ⟨by omega, by omega⟩) (hu130.2) (hu130.1) | exact TrM_f (by rw [hc, c19]; exact cmd_2f (fun z => by omega)) (MO_r) | exact TrM_f (by rw [hc, c19]; exact cmd_3f (fun z => by omega)) (MO_r))) rfl (Nat.le_of_ble_eq_true rfl) (Nat.le_of_ble_eq_true rfl) dX7_tries_134
    · refine k_tabIn C 135 (⟨by omega, by omega⟩) dX7_tries_19 (by omega) (by omega) (by rw [c19]; rfl) (by decide) ?_
      refine k_aload_n C 2 rfl dX7_tries_135 rfl ?_
      refine k_bipush C dX7_tries_136 (by decide) ?_
      refine k_iload_n C 1 rfl dX7_tries_138 rfl ?_
      refine k_callV C (y := yX7_strikesTo) [.int (iI 17), .int (iI v3)] 2 rfl (c_X7_strikesTo (x_l X) (x_G X) mo s sv tx fa ea go qu st ty th un om 17 v3 17 n k m fs fe (rfl) (by decide) (by first | assumption | omega) (by first | assumption | omega) (by first | assumption | omega)) gX7_tries_X7_strikesTo rfl ⟨rfl, by decide +kernel, by decide +kernel, by decide +kernel⟩ ⟨by decide, by decide⟩ 0 (fs := [.ref s, .int (iI st), .ref sv, .ref tx, .int (iI ty), .int (iI th), .ref fa, .ref ea, .ref go, .ref qu, .int (iI un), .int (iI om)]) rfl rfl rfl [0, 1, 2] (by decide) (wc := [(mo, .inr (6, [.ref s, .int (iI st), .ref sv, .ref tx, .int (iI ty), .int (iI th), .ref fa, .ref ea, .ref go, .ref qu, .int (iI un), .int (iI om)])), (s, .inl (g_I (x_G X), 756, .inl (aI fs))), (ea, .inl (g_I (x_G X), 40, .inl (aI fe)))]) rfl [] rfl (Nat.le_of_ble_eq_true rfl) ⟨Nat.le_of_ble_eq_true rfl, Nat.le_of_ble_eq_true rfl⟩ dX7_tries_139 (fun u139 => [(mo, .inr (6, [.ref s, .int (iI st), .ref sv, .ref tx, .int (iI ty), .int (iI th), .ref fa, .ref ea, .ref go, .ref qu, .int (iI un), .int (iI om)])), (s, .inl (g_I (x_G X), 756, .inl (aI u139.2))), (ea, .inl (g_I (x_G X), 40, .inl (aI fe))), (go, .inl (g_Z (x_G X), 100000, .inl (aI fg))), (qu, .inl (g_I (x_G X), 700, .inl (aI fq)))]) (Or.inr ⟨[3, 4], [2, 3, 4, 0, 1], [(go, .inl (g_Z (x_G X), 100000, .inl (aI fg))), (qu, .inl (g_I (x_G X), 700, .inl (aI fq)))], rfl, by decide, by decide, by decide, fun _ => rfl⟩) (fun u139 => [.int (iI u139.1)]) (fun _ => rfl) 0 0 ⟨rfl, rfl⟩ (fun u139 hu139 => ?_)
      refine k_pop C dX7_tries_142 rfl ?_
      refine k_iconst C dX7_tries_143 ?_
      exact k_zret C hR (by omega) (u := (1, u139.2, un, fg, fq)) rfl (by (try dsimp only) <;> exact (TrM_t (by rw [hc, c19]; exact cmd_4) (hu139.2.2) (hu139.2.1))) rfl (Nat.le_of_ble_eq_true rfl) (Nat.le_of_ble_eq_true rfl) dX7_tries_144
    · refine k_tabIn C 145 (⟨by omega, by omega⟩) dX7_tries_19 (by omega) (by omega) (by rw [c19]; rfl) (by decide) ?_
      refine k_aload_n C 2 rfl dX7_tries_145 rfl ?_
      refine k_get C (Cn := RX7) (T := TX7) (N := 12) (ci := 6) (ref := "StruckCountsModel") in_X7_tries_X7 0 rfl rfl 0 (by decide) 2 rfl rfl (v := .ref s) rfl dX7_tries_146 ?_
      refine k_sipush C dX7_tries_149 (by decide) ?_
      refine k_iload_n C 0 rfl dX7_tries_152 rfl ?_
      refine k_if_eq C 160 (⟨by omega, by omega⟩) dX7_tries_153 (by decide) (fun c153 => ?_) (fun c153 => ?_)
      · exfalso; omega
      · skip
        refine k_iconst C dX7_tries_156 ?_
        refine k_goto C 168 dX7_tries_157 (by decide) ?_
        refine k_iast C (f := fs) 1 rfl (⟨by omega, by omega⟩) (by decide) (fun gg => [(mo, .inr (6, [.ref s, .int (iI st), .ref sv, .ref tx, .int (iI ty), .int (iI th), .ref fa, .ref ea, .ref go, .ref qu, .int (iI un), .int (iI om)])), (s, .inl (g_I (x_G X), 756, .inl (aI gg))), (ea, .inl (g_I (x_G X), 40, .inl (aI fe))), (go, .inl (g_Z (x_G X), 100000, .inl (aI fg))), (qu, .inl (g_I (x_G X), 700, .inl (aI fq)))]) (fun _ => rfl) dX7_tries_168 (fun g168 e168 => ?_)
        refine k_iload_n C 0 rfl dX7_tries_169 rfl ?_
        exact k_zret C hR (by omega) (u := (1, g168, un, fg, fq)) rfl (by (try dsimp only) <;> exact (by first | exact TrM_t (by rw [hc, c19]; exact cmd_5 (by omega)) ((MS_ag (J := 17) hM e168).2) ((MS_ag (J := 17) hM e168).1) | exact TrM_f (by rw [hc, c19]; exact cmd_5f (by omega)) (MO_u (J := 17) e168 (by decide)))) rfl (Nat.le_of_ble_eq_true rfl) (Nat.le_of_ble_eq_true rfl) dX7_tries_170
    · refine k_tabIn C 171 (⟨by omega, by omega⟩) dX7_tries_19 (by omega) (by omega) (by rw [c19]; rfl) (by decide) ?_
      refine k_aload_n C 2 rfl dX7_tries_171 rfl ?_
      refine k_bipush C dX7_tries_172 (by decide) ?_
      refine k_callV C (y := yX7_leftIn) [.int (iI 17)] 1 rfl (c_X7_leftIn (x_l X) (x_G X) mo s sv tx fa ea go qu st ty th un om 17 17 n k m fs fe fg (rfl) (by decide) (by first | assumption | omega) (by first | assumption | omega)) gX7_tries_X7_leftIn rfl ⟨rfl, by decide +kernel, by decide +kernel, by decide +kernel⟩ ⟨by decide, by decide⟩ 0 (fs := [.ref s, .int (iI st), .ref sv, .ref tx, .int (iI ty), .int (iI th), .ref fa, .ref ea, .ref go, .ref qu, .int (iI un), .int (iI om)]) rfl rfl rfl [0, 1, 2, 3] (by decide) (wc := [(mo, .inr (6, [.ref s, .int (iI st), .ref sv, .ref tx, .int (iI ty), .int (iI th), .ref fa, .ref ea, .ref go, .ref qu, .int (iI un), .int (iI om)])), (s, .inl (g_I (x_G X), 756, .inl (aI fs))), (ea, .inl (g_I (x_G X), 40, .inl (aI fe))), (go, .inl (g_Z (x_G X), 100000, .inl (aI fg)))]) rfl [] rfl (Nat.le_of_ble_eq_true rfl) ⟨Nat.le_of_ble_eq_true rfl, Nat.le_of_ble_eq_true rfl⟩ dX7_tries_174 (fun u174 => [(mo, .inr (6, [.ref s, .int (iI st), .ref sv, .ref tx, .int (iI ty), .int (iI th), .ref fa, .ref ea, .ref go, .ref qu, .int (iI un), .int (iI om)])), (s, .inl (g_I (x_G X), 756, .inl (aI fs))), (ea, .inl (g_I (x_G X), 40, .inl (aI fe))), (go, .inl (g_Z (x_G X), 100000, .inl (aI u174.2))), (qu, .inl (g_I (x_G X), 700, .inl (aI fq)))]) (Or.inr ⟨[4], [1, 2, 3, 4, 0], [(qu, .inl (g_I (x_G X), 700, .inl (aI fq)))], rfl, by decide, by decide, by decide, fun _ => rfl⟩) (fun u174 => [.int (iI u174.1)]) (fun _ => rfl) 0 0 ⟨rfl, rfl⟩ (fun u174 hu174 => ?_)
      refine k_iload_n C 1 rfl dX7_tries_177 rfl ?_
      refine k_icmp_lt C 185 (by rw [hu174.1]; omega) (⟨by omega, by omega⟩) dX7_tries_178 (by decide) (fun c178 => ?_) (fun c178 => ?_)
      · skip
        refine k_iconst C dX7_tries_185 ?_
        exact k_zret C hR (by omega) (u := (0, fs, un, u174.2, fq)) rfl (by (try dsimp only) <;> exact (TrM_f (by rw [hc, c19, cmd_6]; exact decide_eq_false (by have := hu174.1; omega)) MO_r)) rfl (Nat.le_of_ble_eq_true rfl) (Nat.le_of_ble_eq_true rfl) dX7_tries_186
      · skip
        refine k_iconst C dX7_tries_181 ?_
        refine k_goto C 186 dX7_tries_182 (by decide) ?_
        exact k_zret C hR (by omega) (u := (1, fs, un, u174.2, fq)) rfl (by (try dsimp only) <;> exact (TrM_t (by rw [hc, c19, cmd_6, decide_eq_true (by have := hu174.1; omega)]) MO_r hM)) rfl (Nat.le_of_ble_eq_true rfl) (Nat.le_of_ble_eq_true rfl) dX7_tries_186
    · refine k_tabIn C 187 (⟨by omega, by omega⟩) dX7_tries_19 (by omega) (by omega) (by rw [c19]; rfl) (by decide) ?_
      refine k_aload_n C 2 rfl dX7_tries_187 rfl ?_
      refine k_bipush C dX7_tries_188 (by decide) ?_
      refine k_callV C (y := yX7_leftIn) [.int (iI 17)] 1 rfl (c_X7_leftIn (x_l X) (x_G X) mo s sv tx fa ea go qu st ty th un om 17 17 n k m fs fe fg (rfl) (by decide) (by first | assumption | omega) (by first | assumption | omega)) gX7_tries_X7_leftIn rfl ⟨rfl, by decide +kernel, by decide +kernel, by decide +kernel⟩ ⟨by decide, by decide⟩ 0 (fs := [.ref s, .int (iI st), .ref sv, .ref tx, .int (iI ty), .int (iI th), .ref fa, .ref ea, .ref go, .ref qu, .int (iI un), .int (iI om)]) rfl rfl rfl [0, 1, 2, 3] (by decide) (wc := [(mo, .inr (6, [.ref s, .int (iI st), .ref sv, .ref tx, .int (iI ty), .int (iI th), .ref fa, .ref ea, .ref go, .ref qu, .int (iI un), .int (iI om)])), (s, .inl (g_I (x_G X), 756, .inl (aI fs))), (ea, .inl (g_I (x_G X), 40, .inl (aI fe))), (go, .inl (g_Z (x_G X), 100000, .inl (aI fg)))]) rfl [] rfl (Nat.le_of_ble_eq_true rfl) ⟨Nat.le_of_ble_eq_true rfl, Nat.le_of_ble_eq_true rfl⟩ dX7_tries_190 (fun u190 => [(mo, .inr (6, [.ref s, .int (iI st), .ref sv, .ref tx, .int (iI ty), .int (iI th), .ref fa, .ref ea, .ref go, .ref qu, .int (iI un), .int (iI om)])), (s, .inl (g_I (x_G X), 756, .inl (aI fs))), (ea, .inl (g_I (x_G X), 40, .inl (aI fe))), (go, .inl (g_Z (x_G X), 100000, .inl (aI u190.2))), (qu, .inl (g_I (x_G X), 700, .inl (aI fq)))]) (Or.inr ⟨[4], [1, 2, 3, 4, 0], [(qu, .inl (g_I (x_G X), 700, .inl (aI fq)))], rfl, by decide, by decide, by decide, fun _ => rfl⟩) (fun u190 => [.int (iI u190.1)]) (fun _ => rfl) 0 0 ⟨rfl, rfl⟩ (fun u190 hu190 => ?_)
      refine k_iload_n C 1 rfl dX7_tries_193 rfl ?_
      refine k_icmp_gt C 201 (by rw [hu190.1]; omega) (⟨by omega, by omega⟩) dX7_tries_194 (by decide) (fun c194 => ?_) (fun c194 => ?_)
      · skip
        refine k_iconst C dX7_tries_201 ?_
        exact k_zret C hR (by omega) (u := (0, fs, un, u190.2, fq)) rfl (by (try dsimp only) <;> exact (TrM_f (by rw [hc, c19, cmd_7]; exact decide_eq_false (by have := hu190.1; omega)) MO_r)) rfl (Nat.le_of_ble_eq_true rfl) (Nat.le_of_ble_eq_true rfl) dX7_tries_202
      · skip
        refine k_iconst C dX7_tries_197 ?_
        refine k_goto C 202 dX7_tries_198 (by decide) ?_
        exact k_zret C hR (by omega) (u := (1, fs, un, u190.2, fq)) rfl (by (try dsimp only) <;> exact (TrM_t (by rw [hc, c19, cmd_7, decide_eq_true (by have := hu190.1; omega)]) MO_r hM)) rfl (Nat.le_of_ble_eq_true rfl) (Nat.le_of_ble_eq_true rfl) dX7_tries_202
    · refine k_tabIn C 203 (⟨by omega, by omega⟩) dX7_tries_19 (by omega) (by omega) (by rw [c19]; rfl) (by decide) ?_
      refine k_aload_n C 2 rfl dX7_tries_203 rfl ?_
      refine k_bipush C dX7_tries_204 (by decide) ?_
      refine k_iload_n C 1 rfl dX7_tries_206 rfl ?_
      refine k_callV C (y := yX7_placeOf) [.int (iI 17), .int (iI v3)] 2 rfl (c_X7_placeOf (x_l X) (x_G X) mo s sv tx fa ea go qu st ty th un om 17 v3 17 n k m fs fq (rfl) (by decide) (by first | assumption | omega) (by first | assumption | omega)) gX7_tries_X7_placeOf rfl ⟨rfl, by decide +kernel, by decide +kernel, by decide +kernel⟩ ⟨by decide, by decide⟩ 0 (fs := [.ref s, .int (iI st), .ref sv, .ref tx, .int (iI ty), .int (iI th), .ref fa, .ref ea, .ref go, .ref qu, .int (iI un), .int (iI om)]) rfl rfl rfl [0, 1, 4] (by decide) (wc := [(mo, .inr (6, [.ref s, .int (iI st), .ref sv, .ref tx, .int (iI ty), .int (iI th), .ref fa, .ref ea, .ref go, .ref qu, .int (iI un), .int (iI om)])), (s, .inl (g_I (x_G X), 756, .inl (aI fs))), (qu, .inl (g_I (x_G X), 700, .inl (aI fq)))]) rfl [] rfl (Nat.le_of_ble_eq_true rfl) ⟨Nat.le_of_ble_eq_true rfl, Nat.le_of_ble_eq_true rfl⟩ dX7_tries_207 (fun u207 => [(mo, .inr (6, [.ref s, .int (iI st), .ref sv, .ref tx, .int (iI ty), .int (iI th), .ref fa, .ref ea, .ref go, .ref qu, .int (iI ((SZ n : Nat) : Int)), .int (iI om)])), (s, .inl (g_I (x_G X), 756, .inl (aI fs))), (ea, .inl (g_I (x_G X), 40, .inl (aI fe))), (go, .inl (g_Z (x_G X), 100000, .inl (aI fg))), (qu, .inl (g_I (x_G X), 700, .inl (aI u207.2)))]) (Or.inr ⟨[2, 3], [2, 3, 0, 1, 4], [(ea, .inl (g_I (x_G X), 40, .inl (aI fe))), (go, .inl (g_Z (x_G X), 100000, .inl (aI fg)))], rfl, by decide, by decide, by decide, fun _ => rfl⟩) (fun u207 => [.int (iI u207.1)]) (fun _ => rfl) 0 0 ⟨rfl, rfl⟩ (fun u207 hu207 => ?_)
      have hpr := pI_rng n v3
      have hpl := pI_lt (n := n) (v := v3) mn1
      refine k_if_lt C 217 (by rw [hu207.1]; omega) dX7_tries_210 (by decide) (fun c210 => ?_) (fun c210 => ?_)
      · skip
        refine k_iconst C dX7_tries_217 ?_
        exact k_zret C hR (by omega) (u := (0, fs, ((SZ n : Nat) : Int), fg, u207.2)) rfl (by (try dsimp only) <;> exact (TrM_f (by rw [hc, c19]; exact bfalse cmd_8.2 (by have := hu207.1; omega)) MO_r)) rfl (Nat.le_of_ble_eq_true rfl) (Nat.le_of_ble_eq_true rfl) dX7_tries_218
      · skip
        refine k_iconst C dX7_tries_213 ?_
        refine k_goto C 218 dX7_tries_214 (by decide) ?_
        exact k_zret C hR (by omega) (u := (1, fs, ((SZ n : Nat) : Int), fg, u207.2)) rfl (by (try dsimp only) <;> exact (TrM_t2 (by rw [hc, c19]; exact cmd_8.2.mpr (by have := hu207.1; omega)) (by rw [hc, c19]; exact cmd_8.1) MO_r hM)) rfl (Nat.le_of_ble_eq_true rfl) (Nat.le_of_ble_eq_true rfl) dX7_tries_218
    · refine k_tabIn C 219 (⟨by omega, by omega⟩) dX7_tries_19 (by omega) (by omega) (by rw [c19]; rfl) (by decide) ?_
      refine k_aload_n C 2 rfl dX7_tries_219 rfl ?_
      refine k_iload_n C 1 rfl dX7_tries_220 rfl ?_
      refine k_callV C (y := yX7_isStruck) [.int (iI v3)] 1 rfl (c_X7_isStruck (x_l X) (x_G X) mo s sv tx fa ea go qu st ty th un om n k m v3 fs fe (by first | assumption | omega) (by first | assumption | omega) (by first | assumption | omega)) gX7_tries_X7_isStruck rfl ⟨rfl, by decide +kernel, by decide +kernel, by decide +kernel⟩ ⟨by decide, by decide⟩ 0 (fs := [.ref s, .int (iI st), .ref sv, .ref tx, .int (iI ty), .int (iI th), .ref fa, .ref ea, .ref go, .ref qu, .int (iI un), .int (iI om)]) rfl rfl rfl [0, 1, 2] (by decide) (wc := [(mo, .inr (6, [.ref s, .int (iI st), .ref sv, .ref tx, .int (iI ty), .int (iI th), .ref fa, .ref ea, .ref go, .ref qu, .int (iI un), .int (iI om)])), (s, .inl (g_I (x_G X), 756, .inl (aI fs))), (ea, .inl (g_I (x_G X), 40, .inl (aI fe)))]) rfl [] rfl (Nat.le_of_ble_eq_true rfl) ⟨Nat.le_of_ble_eq_true rfl, Nat.le_of_ble_eq_true rfl⟩ dX7_tries_221 (fun _ => [(mo, .inr (6, [.ref s, .int (iI st), .ref sv, .ref tx, .int (iI ty), .int (iI th), .ref fa, .ref ea, .ref go, .ref qu, .int (iI un), .int (iI om)])), (s, .inl (g_I (x_G X), 756, .inl (aI fs))), (ea, .inl (g_I (x_G X), 40, .inl (aI fe))), (go, .inl (g_Z (x_G X), 100000, .inl (aI fg))), (qu, .inl (g_I (x_G X), 700, .inl (aI fq)))]) (Or.inl (fun _ => ⟨rfl, rfl⟩)) (fun u221 => [.int (iI u221)]) (fun _ => rfl) 0 0 ⟨rfl, rfl⟩ (fun u221 hu221 => ?_)
      exact k_zret C hR (IsI_b hu221) (u := (u221, fs, un, fg, fq)) rfl (by (try dsimp only) <;> exact (by rcases hu221 with ⟨z, y⟩ | ⟨z, y⟩; (rw [z]; exact TrM_t2 (by rw [hc, c19]; exact cmd_9.2.mpr y) (by rw [hc, c19]; exact cmd_9.1) MO_r hM); (rw [z]; exact TrM_f (by rw [hc, c19]; exact bfalse cmd_9.2 y) MO_r))) rfl (Nat.le_of_ble_eq_true rfl) (Nat.le_of_ble_eq_true rfl) dX7_tries_224
set_option maxHeartbeats 4000000 in
set_option maxRecDepth 100000 in
theorem c_X7_runScript (l : Launch) (G : KG) (mo s sv tx fa ea go qu : Nat) (st ty th un om : Int) (n k m : Nat) (N x : Int) (fs fe fg fq : Nat → Int) (hM : MS fs 0 n k m) (hE : ∀ i : Nat, i < 40 → fe i = (sp i : Int)) (hN : -2147483648 ≤ N ∧ N < 2147483648) (hx : -9223372036854775808 ≤ x ∧ x < 9223372036854775808) : Ct l G yX7_runScript wsX7_runScript (rmD 3 0 0) [.ref mo, .int (iI N), .long (jL x)] [(mo, .inr (6, [.ref s, .int (iI st), .ref sv, .ref tx, .int (iI ty), .int (iI th), .ref fa, .ref ea, .ref go, .ref qu, .int (iI un), .int (iI om)])), (s, .inl (g_I G, 756, .inl (aI fs))), (ea, .inl (g_I G, 40, .inl (aI fe))), (go, .inl (g_Z G, 100000, .inl (aI fg))), (qu, .inl (g_I G, 700, .inl (aI fq)))] (fun u : Int × Int × Int × (Nat → Int) × (Nat → Int) × (Nat → Int) => ((((1 ≤ N ∧ N ≤ 3) ∧ 0 ≤ x ∧ x < gpA N.toNat) ∧ u.1 = rsF x N N.toNat 0 n k m ∧ u.2.1 = 0) ∨ (¬ ((1 ≤ N ∧ N ≤ 3) ∧ 0 ≤ x ∧ x < gpA N.toNat) ∧ u.2.1 = 1)) ∧ MO_ 17 fs u.2.2.2.1) (fun u : Int × Int × Int × (Nat → Int) × (Nat → Int) × (Nat → Int) => some (.int (iI u.1))) (fun u : Int × Int × Int × (Nat → Int) × (Nat → Int) × (Nat → Int) => [(mo, .inr (6, [.ref s, .int (iI st), .ref sv, .ref tx, .int (iI ty), .int (iI u.2.1), .ref fa, .ref ea, .ref go, .ref qu, .int (iI u.2.2.1), .int (iI om)])), (s, .inl (g_I G, 756, .inl (aI u.2.2.2.1))), (ea, .inl (g_I G, 40, .inl (aI fe))), (go, .inl (g_Z G, 100000, .inl (aI u.2.2.2.2.1))), (qu, .inl (g_I G, 700, .inl (aI u.2.2.2.2.2)))]) := by
  refine Ct.of (cc := cX7_runScript) (maxL := 10) (ret := (some .int)) (by decide +kernel) rfl (Nat.le_of_ble_eq_true rfl) ?_
  intro X C hG hL hnm hR
  subst hG
  subst hL
  have C : Cx X cX7_runScript RX7 wsX7_runScript (some .int) 10 (rmD 3 0 0) := C
  obtain ⟨m1, m2, m3, m4⟩ := id hM
  have mk : k ≤ 40 := m4.2.2.1
  have mn1 : 1 ≤ n := m4.1
  have mn2 : n ≤ 99999 := m4.2.1
  have hz2 := SZ_631 mn2
  have hz1 := SZ_pos mn1
  show K_ X 0 0 [(mo, .inr (6, [.ref s, .int (iI st), .ref sv, .ref tx, .int (iI ty), .int (iI th), .ref fa, .ref ea, .ref go, .ref qu, .int (iI un), .int (iI om)])), (s, .inl (g_I (x_G X), 756, .inl (aI fs))), (ea, .inl (g_I (x_G X), 40, .inl (aI fe))), (go, .inl (g_Z (x_G X), 100000, .inl (aI fg))), (qu, .inl (g_I (x_G X), 700, .inl (aI fq)))] 0 [(0, .ref mo), (1, .int (iI N)), (2, .long (jL x))] []
  refine k_iload_n C 1 rfl dX7_runScript_0 rfl ?_
  refine k_iconst C dX7_runScript_1 ?_
  refine k_icmp_ne C 11 (⟨by omega, by omega⟩) (⟨by omega, by omega⟩) dX7_runScript_2 (by decide) (fun c2 => ?_) (fun c2 => ?_)
  · skip
    refine k_iload_n C 1 rfl dX7_runScript_11 rfl ?_
    refine k_iconst C dX7_runScript_12 ?_
    refine k_icmp_ne C 22 (⟨by omega, by omega⟩) (⟨by omega, by omega⟩) dX7_runScript_13 (by decide) (fun c13 => ?_) (fun c13 => ?_)
    · skip
      refine k_ldc2 C 1000000000000000000 3 rfl (by decide) dX7_runScript_22 ?_
      refine k_lstore C (lo' := [(4, .long (jL 1000000000000000000)), (0, .ref mo), (1, .int (iI N)), (2, .long (jL x))]) dX7_runScript_25 (by decide) rfl ?_
      refine k_aload_n C 1 rfl dX7_runScript_27 rfl ?_
      refine k_iload_n C 2 rfl dX7_runScript_28 rfl ?_
      refine k_iconst C dX7_runScript_29 ?_
      refine k_iconst C dX7_runScript_30 ?_
      refine k_callS C (y := yX7_in) [.int (iI N), .int (iI 1), .int (iI 3)] 3 rfl (c_X7_in (x_l X) (x_G X) N 1 3 (by omega) (by omega) (by omega)) gX7_runScript_X7_in rfl ⟨by decide +kernel, by decide +kernel, by decide +kernel⟩ ⟨by decide, by decide⟩ [] (by decide) (wc := []) rfl [.ref mo] rfl (Nat.le_of_ble_eq_true rfl) ⟨Nat.le_of_ble_eq_true rfl, Nat.le_of_ble_eq_true rfl⟩ dX7_runScript_31 (fun _ => [(mo, .inr (6, [.ref s, .int (iI st), .ref sv, .ref tx, .int (iI ty), .int (iI th), .ref fa, .ref ea, .ref go, .ref qu, .int (iI un), .int (iI om)])), (s, .inl (g_I (x_G X), 756, .inl (aI fs))), (ea, .inl (g_I (x_G X), 40, .inl (aI fe))), (go, .inl (g_Z (x_G X), 100000, .inl (aI fg))), (qu, .inl (g_I (x_G X), 700, .inl (aI fq)))]) (Or.inl (fun _ => ⟨rfl, rfl⟩)) (fun u31 => [.int (iI u31), .ref mo]) (fun _ => rfl) 0 0 ⟨rfl, rfl⟩ (fun u31 hu31 => ?_)
      refine k_if_eq C 54 (⟨by omega, by omega⟩) dX7_runScript_34 (by decide) (fun c34 => ?_) (fun c34 => ?_)
      · skip
        have hu31 := bo_f hu31 c34
        refine k_iconst C dX7_runScript_54 ?_
        refine k_iconst C dX7_runScript_55 ?_
        refine k_callV C (y := yX7_goes) [.int (iI 0), .int (iI 1)] 2 rfl (c_X7_goes (x_l X) (x_G X) mo s sv tx fa ea go qu st ty th un om 0 1 (by omega) (by omega)) gX7_runScript_X7_goes rfl ⟨rfl, by decide +kernel, by decide +kernel, by decide +kernel⟩ ⟨by decide, by decide⟩ 0 (fs := [.ref s, .int (iI st), .ref sv, .ref tx, .int (iI ty), .int (iI th), .ref fa, .ref ea, .ref go, .ref qu, .int (iI un), .int (iI om)]) rfl rfl rfl [0] (by decide) (wc := [(mo, .inr (6, [.ref s, .int (iI st), .ref sv, .ref tx, .int (iI ty), .int (iI th), .ref fa, .ref ea, .ref go, .ref qu, .int (iI un), .int (iI om)]))]) rfl [] rfl (Nat.le_of_ble_eq_true rfl) ⟨Nat.le_of_ble_eq_true rfl, Nat.le_of_ble_eq_true rfl⟩ dX7_runScript_56 (fun u56 => [(mo, .inr (6, [.ref s, .int (iI st), .ref sv, .ref tx, .int (iI ty), .int (iI u56.2), .ref fa, .ref ea, .ref go, .ref qu, .int (iI un), .int (iI om)])), (s, .inl (g_I (x_G X), 756, .inl (aI fs))), (ea, .inl (g_I (x_G X), 40, .inl (aI fe))), (go, .inl (g_Z (x_G X), 100000, .inl (aI fg))), (qu, .inl (g_I (x_G X), 700, .inl (aI fq)))]) (Or.inr ⟨[1, 2, 3, 4], [4, 0, 1, 2, 3], [(s, .inl (g_I (x_G X), 756, .inl (aI fs))), (ea, .inl (g_I (x_G X), 40, .inl (aI fe))), (go, .inl (g_Z (x_G X), 100000, .inl (aI fg))), (qu, .inl (g_I (x_G X), 700, .inl (aI fq)))], rfl, by decide, by decide, by decide, fun _ => rfl⟩) (fun u56 => [.int (iI u56.1)]) (fun _ => rfl) 0 0 ⟨rfl, rfl⟩ (fun u56 hu56 => ?_)
        refine k_if_ne C 64 (⟨by omega, by omega⟩) dX7_runScript_59 (by decide) (fun c59 => ?_) (fun c59 => ?_)
        · exfalso; omega
        · skip
          refine k_iconst C dX7_runScript_62 ?_
          exact k_iret C hR (u := (0, u56.2, un, fs, fg, fq)) rfl (by (try dsimp only) <;> exact (⟨Or.inr ⟨fun z => by rcases gpN z.1 with y | y | y <;> omega, by omega⟩, MO_r⟩)) rfl (Nat.le_of_ble_eq_true rfl) (Nat.le_of_ble_eq_true rfl) dX7_runScript_63
      · skip
        have hu31 := bo_t hu31 c34
        refine k_lload_n C 3 rfl dX7_runScript_37 rfl ?_
        refine k_lconst C dX7_runScript_38 0 (by decide) ?_
        refine k_lcmp C (⟨by omega, by omega⟩) (⟨by omega, by omega⟩) dX7_runScript_39 (fun v39 e39 b39 => ?_)
        clear e39
        refine k_if_lt C 54 (⟨by omega, by omega⟩) dX7_runScript_40 (by decide) (fun c40 => ?_) (fun c40 => ?_)
        · skip
          refine k_iconst C dX7_runScript_54 ?_
          refine k_iconst C dX7_runScript_55 ?_
          refine k_callV C (y := yX7_goes) [.int (iI 0), .int (iI 1)] 2 rfl (c_X7_goes (x_l X) (x_G X) mo s sv tx fa ea go qu st ty th un om 0 1 (by omega) (by omega)) gX7_runScript_X7_goes rfl ⟨rfl, by decide +kernel, by decide +kernel, by decide +kernel⟩ ⟨by decide, by decide⟩ 0 (fs := [.ref s, .int (iI st), .ref sv, .ref tx, .int (iI ty), .int (iI th), .ref fa, .ref ea, .ref go, .ref qu, .int (iI un), .int (iI om)]) rfl rfl rfl [0] (by decide) (wc := [(mo, .inr (6, [.ref s, .int (iI st), .ref sv, .ref tx, .int (iI ty), .int (iI th), .ref fa, .ref ea, .ref go, .ref qu, .int (iI un), .int (iI om)]))]) rfl [] rfl (Nat.le_of_ble_eq_true rfl) ⟨Nat.le_of_ble_eq_true rfl, Nat.le_of_ble_eq_true rfl⟩ dX7_runScript_56 (fun u56 => [(mo, .inr (6, [.ref s, .int (iI st), .ref sv, .ref tx, .int (iI ty), .int (iI u56.2), .ref fa, .ref ea, .ref go, .ref qu, .int (iI un), .int (iI om)])), (s, .inl (g_I (x_G X), 756, .inl (aI fs))), (ea, .inl (g_I (x_G X), 40, .inl (aI fe))), (go, .inl (g_Z (x_G X), 100000, .inl (aI fg))), (qu, .inl (g_I (x_G X), 700, .inl (aI fq)))]) (Or.inr ⟨[1, 2, 3, 4], [4, 0, 1, 2, 3], [(s, .inl (g_I (x_G X), 756, .inl (aI fs))), (ea, .inl (g_I (x_G X), 40, .inl (aI fe))), (go, .inl (g_Z (x_G X), 100000, .inl (aI fg))), (qu, .inl (g_I (x_G X), 700, .inl (aI fq)))], rfl, by decide, by decide, by decide, fun _ => rfl⟩) (fun u56 => [.int (iI u56.1)]) (fun _ => rfl) 0 0 ⟨rfl, rfl⟩ (fun u56 hu56 => ?_)
          refine k_if_ne C 64 (⟨by omega, by omega⟩) dX7_runScript_59 (by decide) (fun c59 => ?_) (fun c59 => ?_)
          · exfalso; omega
          · skip
            refine k_iconst C dX7_runScript_62 ?_
            exact k_iret C hR (u := (0, u56.2, un, fs, fg, fq)) rfl (by (try dsimp only) <;> exact (⟨Or.inr ⟨fun z => by rcases gpN z.1 with y | y | y <;> omega, by omega⟩, MO_r⟩)) rfl (Nat.le_of_ble_eq_true rfl) (Nat.le_of_ble_eq_true rfl) dX7_runScript_63
        · skip
          refine k_lload_n C 3 rfl dX7_runScript_43 rfl ?_
          refine k_lload C 0 rfl dX7_runScript_44 ?_
          refine k_lcmp C (⟨by omega, by omega⟩) (⟨by omega, by omega⟩) dX7_runScript_46 (fun v46 e46 b46 => ?_)
          clear e46
          refine k_if_ge C 54 (⟨by omega, by omega⟩) dX7_runScript_47 (by decide) (fun c47 => ?_) (fun c47 => ?_)
          · skip
            refine k_iconst C dX7_runScript_54 ?_
            refine k_iconst C dX7_runScript_55 ?_
            refine k_callV C (y := yX7_goes) [.int (iI 0), .int (iI 1)] 2 rfl (c_X7_goes (x_l X) (x_G X) mo s sv tx fa ea go qu st ty th un om 0 1 (by omega) (by omega)) gX7_runScript_X7_goes rfl ⟨rfl, by decide +kernel, by decide +kernel, by decide +kernel⟩ ⟨by decide, by decide⟩ 0 (fs := [.ref s, .int (iI st), .ref sv, .ref tx, .int (iI ty), .int (iI th), .ref fa, .ref ea, .ref go, .ref qu, .int (iI un), .int (iI om)]) rfl rfl rfl [0] (by decide) (wc := [(mo, .inr (6, [.ref s, .int (iI st), .ref sv, .ref tx, .int (iI ty), .int (iI th), .ref fa, .ref ea, .ref go, .ref qu, .int (iI un), .int (iI om)]))]) rfl [] rfl (Nat.le_of_ble_eq_true rfl) ⟨Nat.le_of_ble_eq_true rfl, Nat.le_of_ble_eq_true rfl⟩ dX7_runScript_56 (fun u56 => [(mo, .inr (6, [.ref s, .int (iI st), .ref sv, .ref tx, .int (iI ty), .int (iI u56.2), .ref fa, .ref ea, .ref go, .ref qu, .int (iI un), .int (iI om)])), (s, .inl (g_I (x_G X), 756, .inl (aI fs))), (ea, .inl (g_I (x_G X), 40, .inl (aI fe))), (go, .inl (g_Z (x_G X), 100000, .inl (aI fg))), (qu, .inl (g_I (x_G X), 700, .inl (aI fq)))]) (Or.inr ⟨[1, 2, 3, 4], [4, 0, 1, 2, 3], [(s, .inl (g_I (x_G X), 756, .inl (aI fs))), (ea, .inl (g_I (x_G X), 40, .inl (aI fe))), (go, .inl (g_Z (x_G X), 100000, .inl (aI fg))), (qu, .inl (g_I (x_G X), 700, .inl (aI fq)))], rfl, by decide, by decide, by decide, fun _ => rfl⟩) (fun u56 => [.int (iI u56.1)]) (fun _ => rfl) 0 0 ⟨rfl, rfl⟩ (fun u56 hu56 => ?_)
            refine k_if_ne C 64 (⟨by omega, by omega⟩) dX7_runScript_59 (by decide) (fun c59 => ?_) (fun c59 => ?_)
            · exfalso; omega
            · skip
              refine k_iconst C dX7_runScript_62 ?_
              exact k_iret C hR (u := (0, u56.2, un, fs, fg, fq)) rfl (by (try dsimp only) <;> exact (⟨Or.inr ⟨fun z => by rcases gpN z.1 with y | y | y <;> omega, by omega⟩, MO_r⟩)) rfl (Nat.le_of_ble_eq_true rfl) (Nat.le_of_ble_eq_true rfl) dX7_runScript_63
          · skip
            refine k_iconst C dX7_runScript_50 ?_
            refine k_goto C 55 dX7_runScript_51 (by decide) ?_
            refine k_iconst C dX7_runScript_55 ?_
            refine k_callV C (y := yX7_goes) [.int (iI 1), .int (iI 1)] 2 rfl (c_X7_goes (x_l X) (x_G X) mo s sv tx fa ea go qu st ty th un om 1 1 (by omega) (by omega)) gX7_runScript_X7_goes rfl ⟨rfl, by decide +kernel, by decide +kernel, by decide +kernel⟩ ⟨by decide, by decide⟩ 0 (fs := [.ref s, .int (iI st), .ref sv, .ref tx, .int (iI ty), .int (iI th), .ref fa, .ref ea, .ref go, .ref qu, .int (iI un), .int (iI om)]) rfl rfl rfl [0] (by decide) (wc := [(mo, .inr (6, [.ref s, .int (iI st), .ref sv, .ref tx, .int (iI ty), .int (iI th), .ref fa, .ref ea, .ref go, .ref qu, .int (iI un), .int (iI om)]))]) rfl [] rfl (Nat.le_of_ble_eq_true rfl) ⟨Nat.le_of_ble_eq_true rfl, Nat.le_of_ble_eq_true rfl⟩ dX7_runScript_56 (fun u56 => [(mo, .inr (6, [.ref s, .int (iI st), .ref sv, .ref tx, .int (iI ty), .int (iI u56.2), .ref fa, .ref ea, .ref go, .ref qu, .int (iI un), .int (iI om)])), (s, .inl (g_I (x_G X), 756, .inl (aI fs))), (ea, .inl (g_I (x_G X), 40, .inl (aI fe))), (go, .inl (g_Z (x_G X), 100000, .inl (aI fg))), (qu, .inl (g_I (x_G X), 700, .inl (aI fq)))]) (Or.inr ⟨[1, 2, 3, 4], [4, 0, 1, 2, 3], [(s, .inl (g_I (x_G X), 756, .inl (aI fs))), (ea, .inl (g_I (x_G X), 40, .inl (aI fe))), (go, .inl (g_Z (x_G X), 100000, .inl (aI fg))), (qu, .inl (g_I (x_G X), 700, .inl (aI fq)))], rfl, by decide, by decide, by decide, fun _ => rfl⟩) (fun u56 => [.int (iI u56.1)]) (fun _ => rfl) 0 0 ⟨rfl, rfl⟩ (fun u56 hu56 => ?_)
            refine k_if_ne C 64 (⟨by omega, by omega⟩) dX7_runScript_59 (by decide) (fun c59 => ?_) (fun c59 => ?_)
            · skip
              have hX : ((1 ≤ N ∧ N ≤ 3) ∧ 0 ≤ x ∧ x < gpA N.toNat) := by (rcases gpN (N := N) (by omega) with z | z | z <;> exact ⟨by omega, by omega, by omega⟩)
              refine k_aload_n C 1 rfl dX7_runScript_64 rfl ?_
              refine k_iconst C dX7_runScript_65 ?_
              refine k_bipush C dX7_runScript_66 (by decide) ?_
              refine k_callV C (y := yX7_copies) [.int (iI 0), .int (iI 17)] 2 rfl (c_X7_copies (x_l X) (x_G X) mo s sv tx fa ea go qu st ty u56.2 un om 0 17 0 17 fs (rfl) (rfl) (by decide) (by decide) (by decide)) gX7_runScript_X7_copies rfl ⟨rfl, by decide +kernel, by decide +kernel, by decide +kernel⟩ ⟨by decide, by decide⟩ 0 (fs := [.ref s, .int (iI st), .ref sv, .ref tx, .int (iI ty), .int (iI u56.2), .ref fa, .ref ea, .ref go, .ref qu, .int (iI un), .int (iI om)]) rfl rfl rfl [0, 1] (by decide) (wc := [(mo, .inr (6, [.ref s, .int (iI st), .ref sv, .ref tx, .int (iI ty), .int (iI u56.2), .ref fa, .ref ea, .ref go, .ref qu, .int (iI un), .int (iI om)])), (s, .inl (g_I (x_G X), 756, .inl (aI fs)))]) rfl [] rfl (Nat.le_of_ble_eq_true rfl) ⟨Nat.le_of_ble_eq_true rfl, Nat.le_of_ble_eq_true rfl⟩ dX7_runScript_68 (fun u68 => [(mo, .inr (6, [.ref s, .int (iI st), .ref sv, .ref tx, .int (iI ty), .int (iI u56.2), .ref fa, .ref ea, .ref go, .ref qu, .int (iI un), .int (iI om)])), (s, .inl (g_I (x_G X), 756, .inl (aI u68))), (ea, .inl (g_I (x_G X), 40, .inl (aI fe))), (go, .inl (g_Z (x_G X), 100000, .inl (aI fg))), (qu, .inl (g_I (x_G X), 700, .inl (aI fq)))]) (Or.inr ⟨[2, 3, 4], [3, 4, 0, 1, 2], [(ea, .inl (g_I (x_G X), 40, .inl (aI fe))), (go, .inl (g_Z (x_G X), 100000, .inl (aI fg))), (qu, .inl (g_I (x_G X), 700, .inl (aI fq)))], rfl, by decide, by decide, by decide, fun _ => rfl⟩) (fun u68 => []) (fun _ => rfl) 0 0 ⟨rfl, rfl⟩ (fun u68 hu68 => ?_)
              have hM2 : MS u68 17 n k m := MS_cp hu68 hM
              refine k_iconst C dX7_runScript_71 ?_
              refine k_istore C (lo' := [(6, .int (iI 0)), (4, .long (jL 1000000000000000000)), (0, .ref mo), (1, .int (iI N)), (2, .long (jL x))]) dX7_runScript_72 (by decide) rfl ?_
              have L74 : ∀ (nf : Nat) (nq : Nat) (kq : Nat) (mq : Nat) (i : Int) (un1 : Int) (s1 : Nat → Int) (g1 : Nat → Int) (q1 : Nat → Int), (0 ≤ i ∧ i ≤ N ∧ MS s1 17 nq kq mq ∧ MO_ 17 fs s1 ∧ rsF x N (N - i).toNat i nq kq mq = rsF x N N.toNat 0 n k m) → (N - i).toNat < nf → K_ X 0 0 [(mo, .inr (6, [.ref s, .int (iI st), .ref sv, .ref tx, .int (iI ty), .int (iI u56.2), .ref fa, .ref ea, .ref go, .ref qu, .int (iI un1), .int (iI om)])), (s, .inl (g_I (x_G X), 756, .inl (aI s1))), (ea, .inl (g_I (x_G X), 40, .inl (aI fe))), (go, .inl (g_Z (x_G X), 100000, .inl (aI g1))), (qu, .inl (g_I (x_G X), 700, .inl (aI q1)))] 74 [(6, .int (iI i)), (4, .long (jL 1000000000000000000)), (0, .ref mo), (1, .int (iI N)), (2, .long (jL x))] [] := by
                intro nf
                induction nf with
                | zero => intro nq kq mq i un1 s1 g1 q1 hI hm; exact absurd hm (Nat.not_lt_zero _)
                | succ nf ih74 =>
                  intro nq kq mq i un1 s1 g1 q1 hI74 hm74
                  obtain ⟨i1, i2, i3, i4, i5⟩ := hI74
                  refine k_iload C 0 rfl dX7_runScript_74 ?_
                  refine k_iload_n C 3 rfl dX7_runScript_76 rfl ?_
                  refine k_icmp_ge C 132 (⟨by omega, by omega⟩) (⟨by omega, by omega⟩) dX7_runScript_77 (by decide) (fun c77 => ?_) (fun c77 => ?_)
                  · skip
                    have hEE : rsF x N N.toNat 0 n k m = -1 := by rw [← i5, show (N - i).toNat = 0 by omega]; rfl
                    refine k_iconst C dX7_runScript_132 ?_
                    exact k_iret C hR (u := ((-1), u56.2, un1, s1, g1, q1)) rfl (by (try dsimp only) <;> exact (⟨Or.inl ⟨hX, hEE.symm, by omega⟩, i4⟩)) rfl (Nat.le_of_ble_eq_true rfl) (Nat.le_of_ble_eq_true rfl) dX7_runScript_133
                  · skip
                    refine k_lload_n C 4 rfl dX7_runScript_80 rfl ?_
                    refine k_lstore C (lo' := [(7, .long (jL x)), (6, .int (iI i)), (4, .long (jL 1000000000000000000)), (0, .ref mo), (1, .int (iI N)), (2, .long (jL x))]) dX7_runScript_81 (by decide) rfl ?_
                    refine k_iload C 1 rfl dX7_runScript_83 ?_
                    refine k_iconst C dX7_runScript_85 ?_
                    refine k_iadd C dX7_runScript_86 ?_
                    refine k_nmI (fun v86 e86 => ?_)
                    refine k_istore C (lo' := [(9, .int (iI v86)), (7, .long (jL x)), (6, .int (iI i)), (4, .long (jL 1000000000000000000)), (0, .ref mo), (1, .int (iI N)), (2, .long (jL x))]) dX7_runScript_87 (by decide) rfl ?_
                    have L89 : ∀ (nf : Nat) (j : Int) (gq : Int), (i + 1 ≤ j ∧ j ≤ N ∧ gq = x / gpA (j - i - 1).toNat ∧ 0 ≤ gq ∧ gq ≤ x) → (N - j).toNat < nf → K_ X 0 0 [(mo, .inr (6, [.ref s, .int (iI st), .ref sv, .ref tx, .int (iI ty), .int (iI u56.2), .ref fa, .ref ea, .ref go, .ref qu, .int (iI un1), .int (iI om)])), (s, .inl (g_I (x_G X), 756, .inl (aI s1))), (ea, .inl (g_I (x_G X), 40, .inl (aI fe))), (go, .inl (g_Z (x_G X), 100000, .inl (aI g1))), (qu, .inl (g_I (x_G X), 700, .inl (aI q1)))] 89 [(9, .int (iI j)), (7, .long (jL gq)), (6, .int (iI i)), (4, .long (jL 1000000000000000000)), (0, .ref mo), (1, .int (iI N)), (2, .long (jL x))] [] := by
                      intro nf
                      induction nf with
                      | zero => intro j gq hI hm; exact absurd hm (Nat.not_lt_zero _)
                      | succ nf ih89 =>
                        intro j gq hI89 hm89
                        obtain ⟨k1, k2, k3, k4, k5⟩ := hI89
                        refine k_iload C 0 rfl dX7_runScript_89 ?_
                        refine k_iload_n C 5 rfl dX7_runScript_91 rfl ?_
                        refine k_icmp_ge C 109 (⟨by omega, by omega⟩) (⟨by omega, by omega⟩) dX7_runScript_92 (by decide) (fun c92 => ?_) (fun c92 => ?_)
                        · skip
                          have hjN : (N - 1 - i).toNat = (j - i - 1).toNat := by omega
                          refine k_aload_n C 4 rfl dX7_runScript_109 rfl ?_
                          refine k_lload C 1 rfl dX7_runScript_110 ?_
                          refine k_ldc2 C 1000000 1 rfl (by decide) dX7_runScript_112 ?_
                          refine k_lrem C ⟨by omega, by omega⟩ ⟨by omega, by omega⟩ dX7_runScript_115 ?_
                          refine k_nmL (fun v115 e115 => ?_)
                          have hgr : v115 = grp x N i := by unfold grp; rw [hjN, ← k3]; omega
                          refine k_l2i C dX7_runScript_116 ?_
                          refine k_callV C (y := yX7_tries) [.int (iI v115)] 1 rfl (c_X7_tries (x_l X) (x_G X) mo s sv tx fa ea go qu st ty u56.2 un1 om nq kq mq v115 s1 fe g1 q1 (i3) (hE) (by omega)) gX7_runScript_X7_tries rfl ⟨rfl, by decide +kernel, by decide +kernel, by decide +kernel⟩ ⟨by decide, by decide⟩ 0 (fs := [.ref s, .int (iI st), .ref sv, .ref tx, .int (iI ty), .int (iI u56.2), .ref fa, .ref ea, .ref go, .ref qu, .int (iI un1), .int (iI om)]) rfl rfl rfl [0, 1, 2, 3, 4] (by decide) (wc := [(mo, .inr (6, [.ref s, .int (iI st), .ref sv, .ref tx, .int (iI ty), .int (iI u56.2), .ref fa, .ref ea, .ref go, .ref qu, .int (iI un1), .int (iI om)])), (s, .inl (g_I (x_G X), 756, .inl (aI s1))), (ea, .inl (g_I (x_G X), 40, .inl (aI fe))), (go, .inl (g_Z (x_G X), 100000, .inl (aI g1))), (qu, .inl (g_I (x_G X), 700, .inl (aI q1)))]) rfl [] rfl (Nat.le_of_ble_eq_true rfl) ⟨Nat.le_of_ble_eq_true rfl, Nat.le_of_ble_eq_true rfl⟩ dX7_runScript_117 (fun u117 => [(mo, .inr (6, [.ref s, .int (iI st), .ref sv, .ref tx, .int (iI ty), .int (iI u56.2), .ref fa, .ref ea, .ref go, .ref qu, .int (iI u117.2.2.1), .int (iI om)])), (s, .inl (g_I (x_G X), 756, .inl (aI u117.2.1))), (ea, .inl (g_I (x_G X), 40, .inl (aI fe))), (go, .inl (g_Z (x_G X), 100000, .inl (aI u117.2.2.2.1))), (qu, .inl (g_I (x_G X), 700, .inl (aI u117.2.2.2.2)))]) (Or.inr ⟨[], [0, 1, 2, 3, 4], [], rfl, by decide, by decide, by decide, fun _ => rfl⟩) (fun u117 => [.int (iI u117.1)]) (fun _ => rfl) 0 0 ⟨rfl, rfl⟩ (fun u117 hu117 => ?_)
                          rw [hgr] at hu117
                          refine k_if_ne C 126 (by rcases hu117.2 with z | z <;> (have := z.1; omega)) dX7_runScript_120 (by decide) (fun c120 => ?_) (fun c120 => ?_)
                          · skip
                            obtain ⟨z1, z2, z3⟩ := hu117.2.resolve_right (fun z => c120 z.1)
                            obtain ⟨v126, e126⟩ : ∃ y : Int, y = i + 1 := ⟨_, rfl⟩
                            refine k_iinc C (lo' := [(6, .int (iI v126)), (9, .int (iI j)), (7, .long (jL gq)), (4, .long (jL 1000000000000000000)), (0, .ref mo), (1, .int (iI N)), (2, .long (jL x))]) 2 rfl dX7_runScript_126 (by decide) v126 e126 rfl ?_
                            refine k_goto C 74 dX7_runScript_129 (by decide) ?_
                            refine k_lo (lo' := [(6, .int (iI v126)), (4, .long (jL 1000000000000000000)), (0, .ref mo), (1, .int (iI N)), (2, .long (jL x))]) [0, 3, 4, 5, 6] rfl ?_
                            exact ih74 _ _ _ v126 u117.2.2.1 u117.2.1 u117.2.2.2.1 u117.2.2.2.2 (⟨by omega, by omega, z3, MO_t i4 hu117.1, by rw [← i5, show (N - i).toNat = (N - v126).toNat + 1 by omega, rsF_go z2, e126]⟩) (by omega)
                          · skip
                            have hEE : rsF x N N.toNat 0 n k m = i := by rw [← i5, show (N - i).toNat = (N - i).toNat - 1 + 1 by omega]; exact rsF_no (by rcases hu117.2 with z | z; (have := z.1; omega); exact z.2)
                            refine k_iload C 2 rfl dX7_runScript_123 ?_
                            exact k_iret C hR (u := (i, u56.2, u117.2.2.1, u117.2.1, u117.2.2.2.1, u117.2.2.2.2)) rfl (by (try dsimp only) <;> exact (⟨Or.inl ⟨hX, hEE.symm, by omega⟩, MO_t i4 hu117.1⟩)) rfl (Nat.le_of_ble_eq_true rfl) (Nat.le_of_ble_eq_true rfl) dX7_runScript_125
                        · skip
                          refine k_lload C 1 rfl dX7_runScript_95 ?_
                          refine k_ldc2 C 1000000 1 rfl (by decide) dX7_runScript_97 ?_
                          refine k_ldiv C ⟨by omega, by omega⟩ ⟨by omega, by omega⟩ dX7_runScript_100 ?_
                          refine k_nmL (fun v100 e100 => ?_)
                          refine k_lstore C (lo' := [(7, .long (jL v100)), (9, .int (iI j)), (6, .int (iI i)), (4, .long (jL 1000000000000000000)), (0, .ref mo), (1, .int (iI N)), (2, .long (jL x))]) dX7_runScript_101 (by decide) rfl ?_
                          obtain ⟨v103, e103⟩ : ∃ y : Int, y = j + 1 := ⟨_, rfl⟩
                          refine k_iinc C (lo' := [(9, .int (iI v103)), (7, .long (jL v100)), (6, .int (iI i)), (4, .long (jL 1000000000000000000)), (0, .ref mo), (1, .int (iI N)), (2, .long (jL x))]) 1 rfl dX7_runScript_103 (by decide) v103 e103 rfl ?_
                          refine k_goto C 89 dX7_runScript_106 (by decide) ?_
                          exact ih89 v103 v100 (⟨by omega, by omega, by rw [show (v103 - i - 1).toNat = (j - i - 1).toNat + 1 by omega, ← gpA_d (by omega), ← k3]; omega, by omega, by omega⟩) (by omega)
                    exact L89 _ v86 x (⟨by omega, by omega, by rw [show (v86 - i - 1).toNat = 0 by omega]; show x = x / 1; rw [Int.ediv_one], by omega, by omega⟩) (Nat.lt_succ_self _)
              exact L74 _ n k m 0 un u68 fg fq (⟨by omega, by omega, hM2, hu68.2, by rw [Int.sub_zero]⟩) (Nat.lt_succ_self _)
            · exfalso; omega
    · skip
      refine k_ldc2 C 1000000000000 2 rfl (by decide) dX7_runScript_16 ?_
      refine k_goto C 25 dX7_runScript_19 (by decide) ?_
      refine k_lstore C (lo' := [(4, .long (jL 1000000000000)), (0, .ref mo), (1, .int (iI N)), (2, .long (jL x))]) dX7_runScript_25 (by decide) rfl ?_
      refine k_aload_n C 1 rfl dX7_runScript_27 rfl ?_
      refine k_iload_n C 2 rfl dX7_runScript_28 rfl ?_
      refine k_iconst C dX7_runScript_29 ?_
      refine k_iconst C dX7_runScript_30 ?_
      refine k_callS C (y := yX7_in) [.int (iI N), .int (iI 1), .int (iI 3)] 3 rfl (c_X7_in (x_l X) (x_G X) N 1 3 (by omega) (by omega) (by omega)) gX7_runScript_X7_in rfl ⟨by decide +kernel, by decide +kernel, by decide +kernel⟩ ⟨by decide, by decide⟩ [] (by decide) (wc := []) rfl [.ref mo] rfl (Nat.le_of_ble_eq_true rfl) ⟨Nat.le_of_ble_eq_true rfl, Nat.le_of_ble_eq_true rfl⟩ dX7_runScript_31 (fun _ => [(mo, .inr (6, [.ref s, .int (iI st), .ref sv, .ref tx, .int (iI ty), .int (iI th), .ref fa, .ref ea, .ref go, .ref qu, .int (iI un), .int (iI om)])), (s, .inl (g_I (x_G X), 756, .inl (aI fs))), (ea, .inl (g_I (x_G X), 40, .inl (aI fe))), (go, .inl (g_Z (x_G X), 100000, .inl (aI fg))), (qu, .inl (g_I (x_G X), 700, .inl (aI fq)))]) (Or.inl (fun _ => ⟨rfl, rfl⟩)) (fun u31 => [.int (iI u31), .ref mo]) (fun _ => rfl) 0 0 ⟨rfl, rfl⟩ (fun u31 hu31 => ?_)
      refine k_if_eq C 54 (⟨by omega, by omega⟩) dX7_runScript_34 (by decide) (fun c34 => ?_) (fun c34 => ?_)
      · skip
        have hu31 := bo_f hu31 c34
        refine k_iconst C dX7_runScript_54 ?_
        refine k_iconst C dX7_runScript_55 ?_
        refine k_callV C (y := yX7_goes) [.int (iI 0), .int (iI 1)] 2 rfl (c_X7_goes (x_l X) (x_G X) mo s sv tx fa ea go qu st ty th un om 0 1 (by omega) (by omega)) gX7_runScript_X7_goes rfl ⟨rfl, by decide +kernel, by decide +kernel, by decide +kernel⟩ ⟨by decide, by decide⟩ 0 (fs := [.ref s, .int (iI st), .ref sv, .ref tx, .int (iI ty), .int (iI th), .ref fa, .ref ea, .ref go, .ref qu, .int (iI un), .int (iI om)]) rfl rfl rfl [0] (by decide) (wc := [(mo, .inr (6, [.ref s, .int (iI st), .ref sv, .ref tx, .int (iI ty), .int (iI th), .ref fa, .ref ea, .ref go, .ref qu, .int (iI un), .int (iI om)]))]) rfl [] rfl (Nat.le_of_ble_eq_true rfl) ⟨Nat.le_of_ble_eq_true rfl, Nat.le_of_ble_eq_true rfl⟩ dX7_runScript_56 (fun u56 => [(mo, .inr (6, [.ref s, .int (iI st), .ref sv, .ref tx, .int (iI ty), .int (iI u56.2), .ref fa, .ref ea, .ref go, .ref qu, .int (iI un), .int (iI om)])), (s, .inl (g_I (x_G X), 756, .inl (aI fs))), (ea, .inl (g_I (x_G X), 40, .inl (aI fe))), (go, .inl (g_Z (x_G X), 100000, .inl (aI fg))), (qu, .inl (g_I (x_G X), 700, .inl (aI fq)))]) (Or.inr ⟨[1, 2, 3, 4], [4, 0, 1, 2, 3], [(s, .inl (g_I (x_G X), 756, .inl (aI fs))), (ea, .inl (g_I (x_G X), 40, .inl (aI fe))), (go, .inl (g_Z (x_G X), 100000, .inl (aI fg))), (qu, .inl (g_I (x_G X), 700, .inl (aI fq)))], rfl, by decide, by decide, by decide, fun _ => rfl⟩) (fun u56 => [.int (iI u56.1)]) (fun _ => rfl) 0 0 ⟨rfl, rfl⟩ (fun u56 hu56 => ?_)
        refine k_if_ne C 64 (⟨by omega, by omega⟩) dX7_runScript_59 (by decide) (fun c59 => ?_) (fun c59 => ?_)
        · exfalso; omega
        · skip
          refine k_iconst C dX7_runScript_62 ?_
          exact k_iret C hR (u := (0, u56.2, un, fs, fg, fq)) rfl (by (try dsimp only) <;> exact (⟨Or.inr ⟨fun z => by rcases gpN z.1 with y | y | y <;> omega, by omega⟩, MO_r⟩)) rfl (Nat.le_of_ble_eq_true rfl) (Nat.le_of_ble_eq_true rfl) dX7_runScript_63
      · skip
        have hu31 := bo_t hu31 c34
        refine k_lload_n C 3 rfl dX7_runScript_37 rfl ?_
        refine k_lconst C dX7_runScript_38 0 (by decide) ?_
        refine k_lcmp C (⟨by omega, by omega⟩) (⟨by omega, by omega⟩) dX7_runScript_39 (fun v39 e39 b39 => ?_)
        clear e39
        refine k_if_lt C 54 (⟨by omega, by omega⟩) dX7_runScript_40 (by decide) (fun c40 => ?_) (fun c40 => ?_)
        · skip
          refine k_iconst C dX7_runScript_54 ?_
          refine k_iconst C dX7_runScript_55 ?_
          refine k_callV C (y := yX7_goes) [.int (iI 0), .int (iI 1)] 2 rfl (c_X7_goes (x_l X) (x_G X) mo s sv tx fa ea go qu st ty th un om 0 1 (by omega) (by omega)) gX7_runScript_X7_goes rfl ⟨rfl, by decide +kernel, by decide +kernel, by decide +kernel⟩ ⟨by decide, by decide⟩ 0 (fs := [.ref s, .int (iI st), .ref sv, .ref tx, .int (iI ty), .int (iI th), .ref fa, .ref ea, .ref go, .ref qu, .int (iI un), .int (iI om)]) rfl rfl rfl [0] (by decide) (wc := [(mo, .inr (6, [.ref s, .int (iI st), .ref sv, .ref tx, .int (iI ty), .int (iI th), .ref fa, .ref ea, .ref go, .ref qu, .int (iI un), .int (iI om)]))]) rfl [] rfl (Nat.le_of_ble_eq_true rfl) ⟨Nat.le_of_ble_eq_true rfl, Nat.le_of_ble_eq_true rfl⟩ dX7_runScript_56 (fun u56 => [(mo, .inr (6, [.ref s, .int (iI st), .ref sv, .ref tx, .int (iI ty), .int (iI u56.2), .ref fa, .ref ea, .ref go, .ref qu, .int (iI un), .int (iI om)])), (s, .inl (g_I (x_G X), 756, .inl (aI fs))), (ea, .inl (g_I (x_G X), 40, .inl (aI fe))), (go, .inl (g_Z (x_G X), 100000, .inl (aI fg))), (qu, .inl (g_I (x_G X), 700, .inl (aI fq)))]) (Or.inr ⟨[1, 2, 3, 4], [4, 0, 1, 2, 3], [(s, .inl (g_I (x_G X), 756, .inl (aI fs))), (ea, .inl (g_I (x_G X), 40, .inl (aI fe))), (go, .inl (g_Z (x_G X), 100000, .inl (aI fg))), (qu, .inl (g_I (x_G X), 700, .inl (aI fq)))], rfl, by decide, by decide, by decide, fun _ => rfl⟩) (fun u56 => [.int (iI u56.1)]) (fun _ => rfl) 0 0 ⟨rfl, rfl⟩ (fun u56 hu56 => ?_)
          refine k_if_ne C 64 (⟨by omega, by omega⟩) dX7_runScript_59 (by decide) (fun c59 => ?_) (fun c59 => ?_)
          · exfalso; omega
          · skip
            refine k_iconst C dX7_runScript_62 ?_
            exact k_iret C hR (u := (0, u56.2, un, fs, fg, fq)) rfl (by (try dsimp only) <;> exact (⟨Or.inr ⟨fun z => by rcases gpN z.1 with y | y | y <;> omega, by omega⟩, MO_r⟩)) rfl (Nat.le_of_ble_eq_true rfl) (Nat.le_of_ble_eq_true rfl) dX7_runScript_63
        · skip
          refine k_lload_n C 3 rfl dX7_runScript_43 rfl ?_
          refine k_lload C 0 rfl dX7_runScript_44 ?_
          refine k_lcmp C (⟨by omega, by omega⟩) (⟨by omega, by omega⟩) dX7_runScript_46 (fun v46 e46 b46 => ?_)
          clear e46
          refine k_if_ge C 54 (⟨by omega, by omega⟩) dX7_runScript_47 (by decide) (fun c47 => ?_) (fun c47 => ?_)
          · skip
            refine k_iconst C dX7_runScript_54 ?_
            refine k_iconst C dX7_runScript_55 ?_
            refine k_callV C (y := yX7_goes) [.int (iI 0), .int (iI 1)] 2 rfl (c_X7_goes (x_l X) (x_G X) mo s sv tx fa ea go qu st ty th un om 0 1 (by omega) (by omega)) gX7_runScript_X7_goes rfl ⟨rfl, by decide +kernel, by decide +kernel, by decide +kernel⟩ ⟨by decide, by decide⟩ 0 (fs := [.ref s, .int (iI st), .ref sv, .ref tx, .int (iI ty), .int (iI th), .ref fa, .ref ea, .ref go, .ref qu, .int (iI un), .int (iI om)]) rfl rfl rfl [0] (by decide) (wc := [(mo, .inr (6, [.ref s, .int (iI st), .ref sv, .ref tx, .int (iI ty), .int (iI th), .ref fa, .ref ea, .ref go, .ref qu, .int (iI un), .int (iI om)]))]) rfl [] rfl (Nat.le_of_ble_eq_true rfl) ⟨Nat.le_of_ble_eq_true rfl, Nat.le_of_ble_eq_true rfl⟩ dX7_runScript_56 (fun u56 => [(mo, .inr (6, [.ref s, .int (iI st), .ref sv, .ref tx, .int (iI ty), .int (iI u56.2), .ref fa, .ref ea, .ref go, .ref qu, .int (iI un), .int (iI om)])), (s, .inl (g_I (x_G X), 756, .inl (aI fs))), (ea, .inl (g_I (x_G X), 40, .inl (aI fe))), (go, .inl (g_Z (x_G X), 100000, .inl (aI fg))), (qu, .inl (g_I (x_G X), 700, .inl (aI fq)))]) (Or.inr ⟨[1, 2, 3, 4], [4, 0, 1, 2, 3], [(s, .inl (g_I (x_G X), 756, .inl (aI fs))), (ea, .inl (g_I (x_G X), 40, .inl (aI fe))), (go, .inl (g_Z (x_G X), 100000, .inl (aI fg))), (qu, .inl (g_I (x_G X), 700, .inl (aI fq)))], rfl, by decide, by decide, by decide, fun _ => rfl⟩) (fun u56 => [.int (iI u56.1)]) (fun _ => rfl) 0 0 ⟨rfl, rfl⟩ (fun u56 hu56 => ?_)
            refine k_if_ne C 64 (⟨by omega, by omega⟩) dX7_runScript_59 (by decide) (fun c59 => ?_) (fun c59 => ?_)
            · exfalso; omega
            · skip
              refine k_iconst C dX7_runScript_62 ?_
              exact k_iret C hR (u := (0, u56.2, un, fs, fg, fq)) rfl (by (try dsimp only) <;> exact (⟨Or.inr ⟨fun z => by rcases gpN z.1 with y | y | y <;> omega, by omega⟩, MO_r⟩)) rfl (Nat.le_of_ble_eq_true rfl) (Nat.le_of_ble_eq_true rfl) dX7_runScript_63
          · skip
            refine k_iconst C dX7_runScript_50 ?_
            refine k_goto C 55 dX7_runScript_51 (by decide) ?_
            refine k_iconst C dX7_runScript_55 ?_
            refine k_callV C (y := yX7_goes) [.int (iI 1), .int (iI 1)] 2 rfl (c_X7_goes (x_l X) (x_G X) mo s sv tx fa ea go qu st ty th un om 1 1 (by omega) (by omega)) gX7_runScript_X7_goes rfl ⟨rfl, by decide +kernel, by decide +kernel, by decide +kernel⟩ ⟨by decide, by decide⟩ 0 (fs := [.ref s, .int (iI st), .ref sv, .ref tx, .int (iI ty), .int (iI th), .ref fa, .ref ea, .ref go, .ref qu, .int (iI un), .int (iI om)]) rfl rfl rfl [0] (by decide) (wc := [(mo, .inr (6, [.ref s, .int (iI st), .ref sv, .ref tx, .int (iI ty), .int (iI th), .ref fa, .ref ea, .ref go, .ref qu, .int (iI un), .int (iI om)]))]) rfl [] rfl (Nat.le_of_ble_eq_true rfl) ⟨Nat.le_of_ble_eq_true rfl, Nat.le_of_ble_eq_true rfl⟩ dX7_runScript_56 (fun u56 => [(mo, .inr (6, [.ref s, .int (iI st), .ref sv, .ref tx, .int (iI ty), .int (iI u56.2), .ref fa, .ref ea, .ref go, .ref qu, .int (iI un), .int (iI om)])), (s, .inl (g_I (x_G X), 756, .inl (aI fs))), (ea, .inl (g_I (x_G X), 40, .inl (aI fe))), (go, .inl (g_Z (x_G X), 100000, .inl (aI fg))), (qu, .inl (g_I (x_G X), 700, .inl (aI fq)))]) (Or.inr ⟨[1, 2, 3, 4], [4, 0, 1, 2, 3], [(s, .inl (g_I (x_G X), 756, .inl (aI fs))), (ea, .inl (g_I (x_G X), 40, .inl (aI fe))), (go, .inl (g_Z (x_G X), 100000, .inl (aI fg))), (qu, .inl (g_I (x_G X), 700, .inl (aI fq)))], rfl, by decide, by decide, by decide, fun _ => rfl⟩) (fun u56 => [.int (iI u56.1)]) (fun _ => rfl) 0 0 ⟨rfl, rfl⟩ (fun u56 hu56 => ?_)
            refine k_if_ne C 64 (⟨by omega, by omega⟩) dX7_runScript_59 (by decide) (fun c59 => ?_) (fun c59 => ?_)
            · skip
              have hX : ((1 ≤ N ∧ N ≤ 3) ∧ 0 ≤ x ∧ x < gpA N.toNat) := by (rcases gpN (N := N) (by omega) with z | z | z <;> exact ⟨by omega, by omega, by omega⟩)
              refine k_aload_n C 1 rfl dX7_runScript_64 rfl ?_
              refine k_iconst C dX7_runScript_65 ?_
              refine k_bipush C dX7_runScript_66 (by decide) ?_
              refine k_callV C (y := yX7_copies) [.int (iI 0), .int (iI 17)] 2 rfl (c_X7_copies (x_l X) (x_G X) mo s sv tx fa ea go qu st ty u56.2 un om 0 17 0 17 fs (rfl) (rfl) (by decide) (by decide) (by decide)) gX7_runScript_X7_copies rfl ⟨rfl, by decide +kernel, by decide +kernel, by decide +kernel⟩ ⟨by decide, by decide⟩ 0 (fs := [.ref s, .int (iI st), .ref sv, .ref tx, .int (iI ty), .int (iI u56.2), .ref fa, .ref ea, .ref go, .ref qu, .int (iI un), .int (iI om)]) rfl rfl rfl [0, 1] (by decide) (wc := [(mo, .inr (6, [.ref s, .int (iI st), .ref sv, .ref tx, .int (iI ty), .int (iI u56.2), .ref fa, .ref ea, .ref go, .ref qu, .int (iI un), .int (iI om)])), (s, .inl (g_I (x_G X), 756, .inl (aI fs)))]) rfl [] rfl (Nat.le_of_ble_eq_true rfl) ⟨Nat.le_of_ble_eq_true rfl, Nat.le_of_ble_eq_true rfl⟩ dX7_runScript_68 (fun u68 => [(mo, .inr (6, [.ref s, .int (iI st), .ref sv, .ref tx, .int (iI ty), .int (iI u56.2), .ref fa, .ref ea, .ref go, .ref qu, .int (iI un), .int (iI om)])), (s, .inl (g_I (x_G X), 756, .inl (aI u68))), (ea, .inl (g_I (x_G X), 40, .inl (aI fe))), (go, .inl (g_Z (x_G X), 100000, .inl (aI fg))), (qu, .inl (g_I (x_G X), 700, .inl (aI fq)))]) (Or.inr ⟨[2, 3, 4], [3, 4, 0, 1, 2], [(ea, .inl (g_I (x_G X), 40, .inl (aI fe))), (go, .inl (g_Z (x_G X), 100000, .inl (aI fg))), (qu, .inl (g_I (x_G X), 700, .inl (aI fq)))], rfl, by decide, by decide, by decide, fun _ => rfl⟩) (fun u68 => []) (fun _ => rfl) 0 0 ⟨rfl, rfl⟩ (fun u68 hu68 => ?_)
              have hM2 : MS u68 17 n k m := MS_cp hu68 hM
              refine k_iconst C dX7_runScript_71 ?_
              refine k_istore C (lo' := [(6, .int (iI 0)), (4, .long (jL 1000000000000)), (0, .ref mo), (1, .int (iI N)), (2, .long (jL x))]) dX7_runScript_72 (by decide) rfl ?_
              have L74 : ∀ (nf : Nat) (nq : Nat) (kq : Nat) (mq : Nat) (i : Int) (un1 : Int) (s1 : Nat → Int) (g1 : Nat → Int) (q1 : Nat → Int), (0 ≤ i ∧ i ≤ N ∧ MS s1 17 nq kq mq ∧ MO_ 17 fs s1 ∧ rsF x N (N - i).toNat i nq kq mq = rsF x N N.toNat 0 n k m) → (N - i).toNat < nf → K_ X 0 0 [(mo, .inr (6, [.ref s, .int (iI st), .ref sv, .ref tx, .int (iI ty), .int (iI u56.2), .ref fa, .ref ea, .ref go, .ref qu, .int (iI un1), .int (iI om)])), (s, .inl (g_I (x_G X), 756, .inl (aI s1))), (ea, .inl (g_I (x_G X), 40, .inl (aI fe))), (go, .inl (g_Z (x_G X), 100000, .inl (aI g1))), (qu, .inl (g_I (x_G X), 700, .inl (aI q1)))] 74 [(6, .int (iI i)), (4, .long (jL 1000000000000)), (0, .ref mo), (1, .int (iI N)), (2, .long (jL x))] [] := by
                intro nf
                induction nf with
                | zero => intro nq kq mq i un1 s1 g1 q1 hI hm; exact absurd hm (Nat.not_lt_zero _)
                | succ nf ih74 =>
                  intro nq kq mq i un1 s1 g1 q1 hI74 hm74
                  obtain ⟨i1, i2, i3, i4, i5⟩ := hI74
                  refine k_iload C 0 rfl dX7_runScript_74 ?_
                  refine k_iload_n C 3 rfl dX7_runScript_76 rfl ?_
                  refine k_icmp_ge C 132 (⟨by omega, by omega⟩) (⟨by omega, by omega⟩) dX7_runScript_77 (by decide) (fun c77 => ?_) (fun c77 => ?_)
                  · skip
                    have hEE : rsF x N N.toNat 0 n k m = -1 := by rw [← i5, show (N - i).toNat = 0 by omega]; rfl
                    refine k_iconst C dX7_runScript_132 ?_
                    exact k_iret C hR (u := ((-1), u56.2, un1, s1, g1, q1)) rfl (by (try dsimp only) <;> exact (⟨Or.inl ⟨hX, hEE.symm, by omega⟩, i4⟩)) rfl (Nat.le_of_ble_eq_true rfl) (Nat.le_of_ble_eq_true rfl) dX7_runScript_133
                  · skip
                    refine k_lload_n C 4 rfl dX7_runScript_80 rfl ?_
                    refine k_lstore C (lo' := [(7, .long (jL x)), (6, .int (iI i)), (4, .long (jL 1000000000000)), (0, .ref mo), (1, .int (iI N)), (2, .long (jL x))]) dX7_runScript_81 (by decide) rfl ?_
                    refine k_iload C 1 rfl dX7_runScript_83 ?_
                    refine k_iconst C dX7_runScript_85 ?_
                    refine k_iadd C dX7_runScript_86 ?_
                    refine k_nmI (fun v86 e86 => ?_)
                    refine k_istore C (lo' := [(9, .int (iI v86)), (7, .long (jL x)), (6, .int (iI i)), (4, .long (jL 1000000000000)), (0, .ref mo), (1, .int (iI N)), (2, .long (jL x))]) dX7_runScript_87 (by decide) rfl ?_
                    have L89 : ∀ (nf : Nat) (j : Int) (gq : Int), (i + 1 ≤ j ∧ j ≤ N ∧ gq = x / gpA (j - i - 1).toNat ∧ 0 ≤ gq ∧ gq ≤ x) → (N - j).toNat < nf → K_ X 0 0 [(mo, .inr (6, [.ref s, .int (iI st), .ref sv, .ref tx, .int (iI ty), .int (iI u56.2), .ref fa, .ref ea, .ref go, .ref qu, .int (iI un1), .int (iI om)])), (s, .inl (g_I (x_G X), 756, .inl (aI s1))), (ea, .inl (g_I (x_G X), 40, .inl (aI fe))), (go, .inl (g_Z (x_G X), 100000, .inl (aI g1))), (qu, .inl (g_I (x_G X), 700, .inl (aI q1)))] 89 [(9, .int (iI j)), (7, .long (jL gq)), (6, .int (iI i)), (4, .long (jL 1000000000000)), (0, .ref mo), (1, .int (iI N)), (2, .long (jL x))] [] := by
                      intro nf
                      induction nf with
                      | zero => intro j gq hI hm; exact absurd hm (Nat.not_lt_zero _)
                      | succ nf ih89 =>
                        intro j gq hI89 hm89
                        obtain ⟨k1, k2, k3, k4, k5⟩ := hI89
                        refine k_iload C 0 rfl dX7_runScript_89 ?_
                        refine k_iload_n C 5 rfl dX7_runScript_91 rfl ?_
                        refine k_icmp_ge C 109 (⟨by omega, by omega⟩) (⟨by omega, by omega⟩) dX7_runScript_92 (by decide) (fun c92 => ?_) (fun c92 => ?_)
                        · skip
                          have hjN : (N - 1 - i).toNat = (j - i - 1).toNat := by omega
                          refine k_aload_n C 4 rfl dX7_runScript_109 rfl ?_
                          refine k_lload C 1 rfl dX7_runScript_110 ?_
                          refine k_ldc2 C 1000000 1 rfl (by decide) dX7_runScript_112 ?_
                          refine k_lrem C ⟨by omega, by omega⟩ ⟨by omega, by omega⟩ dX7_runScript_115 ?_
                          refine k_nmL (fun v115 e115 => ?_)
                          have hgr : v115 = grp x N i := by unfold grp; rw [hjN, ← k3]; omega
                          refine k_l2i C dX7_runScript_116 ?_
                          refine k_callV C (y := yX7_tries) [.int (iI v115)] 1 rfl (c_X7_tries (x_l X) (x_G X) mo s sv tx fa ea go qu st ty u56.2 un1 om nq kq mq v115 s1 fe g1 q1 (i3) (hE) (by omega)) gX7_runScript_X7_tries rfl ⟨rfl, by decide +kernel, by decide +kernel, by decide +kernel⟩ ⟨by decide, by decide⟩ 0 (fs := [.ref s, .int (iI st), .ref sv, .ref tx, .int (iI ty), .int (iI u56.2), .ref fa, .ref ea, .ref go, .ref qu, .int (iI un1), .int (iI om)]) rfl rfl rfl [0, 1, 2, 3, 4] (by decide) (wc := [(mo, .inr (6, [.ref s, .int (iI st), .ref sv, .ref tx, .int (iI ty), .int (iI u56.2), .ref fa, .ref ea, .ref go, .ref qu, .int (iI un1), .int (iI om)])), (s, .inl (g_I (x_G X), 756, .inl (aI s1))), (ea, .inl (g_I (x_G X), 40, .inl (aI fe))), (go, .inl (g_Z (x_G X), 100000, .inl (aI g1))), (qu, .inl (g_I (x_G X), 700, .inl (aI q1)))]) rfl [] rfl (Nat.le_of_ble_eq_true rfl) ⟨Nat.le_of_ble_eq_true rfl, Nat.le_of_ble_eq_true rfl⟩ dX7_runScript_117 (fun u117 => [(mo, .inr (6, [.ref s, .int (iI st), .ref sv, .ref tx, .int (iI ty), .int (iI u56.2), .ref fa, .ref ea, .ref go, .ref qu, .int (iI u117.2.2.1), .int (iI om)])), (s, .inl (g_I (x_G X), 756, .inl (aI u117.2.1))), (ea, .inl (g_I (x_G X), 40, .inl (aI fe))), (go, .inl (g_Z (x_G X), 100000, .inl (aI u117.2.2.2.1))), (qu, .inl (g_I (x_G X), 700, .inl (aI u117.2.2.2.2)))]) (Or.inr ⟨[], [0, 1, 2, 3, 4], [], rfl, by decide, by decide, by decide, fun _ => rfl⟩) (fun u117 => [.int (iI u117.1)]) (fun _ => rfl) 0 0 ⟨rfl, rfl⟩ (fun u117 hu117 => ?_)
                          rw [hgr] at hu117
                          refine k_if_ne C 126 (by rcases hu117.2 with z | z <;> (have := z.1; omega)) dX7_runScript_120 (by decide) (fun c120 => ?_) (fun c120 => ?_)
                          · skip
                            obtain ⟨z1, z2, z3⟩ := hu117.2.resolve_right (fun z => c120 z.1)
                            obtain ⟨v126, e126⟩ : ∃ y : Int, y = i + 1 := ⟨_, rfl⟩
                            refine k_iinc C (lo' := [(6, .int (iI v126)), (9, .int (iI j)), (7, .long (jL gq)), (4, .long (jL 1000000000000)), (0, .ref mo), (1, .int (iI N)), (2, .long (jL x))]) 2 rfl dX7_runScript_126 (by decide) v126 e126 rfl ?_
                            refine k_goto C 74 dX7_runScript_129 (by decide) ?_
                            refine k_lo (lo' := [(6, .int (iI v126)), (4, .long (jL 1000000000000)), (0, .ref mo), (1, .int (iI N)), (2, .long (jL x))]) [0, 3, 4, 5, 6] rfl ?_
                            exact ih74 _ _ _ v126 u117.2.2.1 u117.2.1 u117.2.2.2.1 u117.2.2.2.2 (⟨by omega, by omega, z3, MO_t i4 hu117.1, by rw [← i5, show (N - i).toNat = (N - v126).toNat + 1 by omega, rsF_go z2, e126]⟩) (by omega)
                          · skip
                            have hEE : rsF x N N.toNat 0 n k m = i := by rw [← i5, show (N - i).toNat = (N - i).toNat - 1 + 1 by omega]; exact rsF_no (by rcases hu117.2 with z | z; (have := z.1; omega); exact z.2)
                            refine k_iload C 2 rfl dX7_runScript_123 ?_
                            exact k_iret C hR (u := (i, u56.2, u117.2.2.1, u117.2.1, u117.2.2.2.1, u117.2.2.2.2)) rfl (by (try dsimp only) <;> exact (⟨Or.inl ⟨hX, hEE.symm, by omega⟩, MO_t i4 hu117.1⟩)) rfl (Nat.le_of_ble_eq_true rfl) (Nat.le_of_ble_eq_true rfl) dX7_runScript_125
                        · skip
                          refine k_lload C 1 rfl dX7_runScript_95 ?_
                          refine k_ldc2 C 1000000 1 rfl (by decide) dX7_runScript_97 ?_
                          refine k_ldiv C ⟨by omega, by omega⟩ ⟨by omega, by omega⟩ dX7_runScript_100 ?_
                          refine k_nmL (fun v100 e100 => ?_)
                          refine k_lstore C (lo' := [(7, .long (jL v100)), (9, .int (iI j)), (6, .int (iI i)), (4, .long (jL 1000000000000)), (0, .ref mo), (1, .int (iI N)), (2, .long (jL x))]) dX7_runScript_101 (by decide) rfl ?_
                          obtain ⟨v103, e103⟩ : ∃ y : Int, y = j + 1 := ⟨_, rfl⟩
                          refine k_iinc C (lo' := [(9, .int (iI v103)), (7, .long (jL v100)), (6, .int (iI i)), (4, .long (jL 1000000000000)), (0, .ref mo), (1, .int (iI N)), (2, .long (jL x))]) 1 rfl dX7_runScript_103 (by decide) v103 e103 rfl ?_
                          refine k_goto C 89 dX7_runScript_106 (by decide) ?_
                          exact ih89 v103 v100 (⟨by omega, by omega, by rw [show (v103 - i - 1).toNat = (j - i - 1).toNat + 1 by omega, ← gpA_d (by omega), ← k3]; omega, by omega, by omega⟩) (by omega)
                    exact L89 _ v86 x (⟨by omega, by omega, by rw [show (v86 - i - 1).toNat = 0 by omega]; show x = x / 1; rw [Int.ediv_one], by omega, by omega⟩) (Nat.lt_succ_self _)
              exact L74 _ n k m 0 un u68 fg fq (⟨by omega, by omega, hM2, hu68.2, by rw [Int.sub_zero]⟩) (Nat.lt_succ_self _)
            · exfalso; omega
  · skip
    refine k_ldc2 C 1000000 1 rfl (by decide) dX7_runScript_5 ?_
    refine k_goto C 25 dX7_runScript_8 (by decide) ?_
    refine k_lstore C (lo' := [(4, .long (jL 1000000)), (0, .ref mo), (1, .int (iI N)), (2, .long (jL x))]) dX7_runScript_25 (by decide) rfl ?_
    refine k_aload_n C 1 rfl dX7_runScript_27 rfl ?_
    refine k_iload_n C 2 rfl dX7_runScript_28 rfl ?_
    refine k_iconst C dX7_runScript_29 ?_
    refine k_iconst C dX7_runScript_30 ?_
    refine k_callS C (y := yX7_in) [.int (iI N), .int (iI 1), .int (iI 3)] 3 rfl (c_X7_in (x_l X) (x_G X) N 1 3 (by omega) (by omega) (by omega)) gX7_runScript_X7_in rfl ⟨by decide +kernel, by decide +kernel, by decide +kernel⟩ ⟨by decide, by decide⟩ [] (by decide) (wc := []) rfl [.ref mo] rfl (Nat.le_of_ble_eq_true rfl) ⟨Nat.le_of_ble_eq_true rfl, Nat.le_of_ble_eq_true rfl⟩ dX7_runScript_31 (fun _ => [(mo, .inr (6, [.ref s, .int (iI st), .ref sv, .ref tx, .int (iI ty), .int (iI th), .ref fa, .ref ea, .ref go, .ref qu, .int (iI un), .int (iI om)])), (s, .inl (g_I (x_G X), 756, .inl (aI fs))), (ea, .inl (g_I (x_G X), 40, .inl (aI fe))), (go, .inl (g_Z (x_G X), 100000, .inl (aI fg))), (qu, .inl (g_I (x_G X), 700, .inl (aI fq)))]) (Or.inl (fun _ => ⟨rfl, rfl⟩)) (fun u31 => [.int (iI u31), .ref mo]) (fun _ => rfl) 0 0 ⟨rfl, rfl⟩ (fun u31 hu31 => ?_)
    refine k_if_eq C 54 (⟨by omega, by omega⟩) dX7_runScript_34 (by decide) (fun c34 => ?_) (fun c34 => ?_)
    · skip
      have hu31 := bo_f hu31 c34
      refine k_iconst C dX7_runScript_54 ?_
      refine k_iconst C dX7_runScript_55 ?_
      refine k_callV C (y := yX7_goes) [.int (iI 0), .int (iI 1)] 2 rfl (c_X7_goes (x_l X) (x_G X) mo s sv tx fa ea go qu st ty th un om 0 1 (by omega) (by omega)) gX7_runScript_X7_goes rfl ⟨rfl, by decide +kernel, by decide +kernel, by decide +kernel⟩ ⟨by decide, by decide⟩ 0 (fs := [.ref s, .int (iI st), .ref sv, .ref tx, .int (iI ty), .int (iI th), .ref fa, .ref ea, .ref go, .ref qu, .int (iI un), .int (iI om)]) rfl rfl rfl [0] (by decide) (wc := [(mo, .inr (6, [.ref s, .int (iI st), .ref sv, .ref tx, .int (iI ty), .int (iI th), .ref fa, .ref ea, .ref go, .ref qu, .int (iI un), .int (iI om)]))]) rfl [] rfl (Nat.le_of_ble_eq_true rfl) ⟨Nat.le_of_ble_eq_true rfl, Nat.le_of_ble_eq_true rfl⟩ dX7_runScript_56 (fun u56 => [(mo, .inr (6, [.ref s, .int (iI st), .ref sv, .ref tx, .int (iI ty), .int (iI u56.2), .ref fa, .ref ea, .ref go, .ref qu, .int (iI un), .int (iI om)])), (s, .inl (g_I (x_G X), 756, .inl (aI fs))), (ea, .inl (g_I (x_G X), 40, .inl (aI fe))), (go, .inl (g_Z (x_G X), 100000, .inl (aI fg))), (qu, .inl (g_I (x_G X), 700, .inl (aI fq)))]) (Or.inr ⟨[1, 2, 3, 4], [4, 0, 1, 2, 3], [(s, .inl (g_I (x_G X), 756, .inl (aI fs))), (ea, .inl (g_I (x_G X), 40, .inl (aI fe))), (go, .inl (g_Z (x_G X), 100000, .inl (aI fg))), (qu, .inl (g_I (x_G X), 700, .inl (aI fq)))], rfl, by decide, by decide, by decide, fun _ => rfl⟩) (fun u56 => [.int (iI u56.1)]) (fun _ => rfl) 0 0 ⟨rfl, rfl⟩ (fun u56 hu56 => ?_)
      refine k_if_ne C 64 (⟨by omega, by omega⟩) dX7_runScript_59 (by decide) (fun c59 => ?_) (fun c59 => ?_)
      · exfalso; omega
      · skip
        refine k_iconst C dX7_runScript_62 ?_
        exact k_iret C hR (u := (0, u56.2, un, fs, fg, fq)) rfl (by (try dsimp only) <;> exact (⟨Or.inr ⟨fun z => by rcases gpN z.1 with y | y | y <;> omega, by omega⟩, MO_r⟩)) rfl (Nat.le_of_ble_eq_true rfl) (Nat.le_of_ble_eq_true rfl) dX7_runScript_63
    · skip
      have hu31 := bo_t hu31 c34
      refine k_lload_n C 3 rfl dX7_runScript_37 rfl ?_
      refine k_lconst C dX7_runScript_38 0 (by decide) ?_
      refine k_lcmp C (⟨by omega, by omega⟩) (⟨by omega, by omega⟩) dX7_runScript_39 (fun v39 e39 b39 => ?_)
      clear e39
      refine k_if_lt C 54 (⟨by omega, by omega⟩) dX7_runScript_40 (by decide) (fun c40 => ?_) (fun c40 => ?_)
      · skip
        refine k_iconst C dX7_runScript_54 ?_
        refine k_iconst C dX7_runScript_55 ?_
        refine k_callV C (y := yX7_goes) [.int (iI 0), .int (iI 1)] 2 rfl (c_X7_goes (x_l X) (x_G X) mo s sv tx fa ea go qu st ty th un om 0 1 (by omega) (by omega)) gX7_runScript_X7_goes rfl ⟨rfl, by decide +kernel, by decide +kernel, by decide +kernel⟩ ⟨by decide, by decide⟩ 0 (fs := [.ref s, .int (iI st), .ref sv, .ref tx, .int (iI ty), .int (iI th), .ref fa, .ref ea, .ref go, .ref qu, .int (iI un), .int (iI om)]) rfl rfl rfl [0] (by decide) (wc := [(mo, .inr (6, [.ref s, .int (iI st), .ref sv, .ref tx, .int (iI ty), .int (iI th), .ref fa, .ref ea, .ref go, .ref qu, .int (iI un), .int (iI om)]))]) rfl [] rfl (Nat.le_of_ble_eq_true rfl) ⟨Nat.le_of_ble_eq_true rfl, Nat.le_of_ble_eq_true rfl⟩ dX7_runScript_56 (fun u56 => [(mo, .inr (6, [.ref s, .int (iI st), .ref sv, .ref tx, .int (iI ty), .int (iI u56.2), .ref fa, .ref ea, .ref go, .ref qu, .int (iI un), .int (iI om)])), (s, .inl (g_I (x_G X), 756, .inl (aI fs))), (ea, .inl (g_I (x_G X), 40, .inl (aI fe))), (go, .inl (g_Z (x_G X), 100000, .inl (aI fg))), (qu, .inl (g_I (x_G X), 700, .inl (aI fq)))]) (Or.inr ⟨[1, 2, 3, 4], [4, 0, 1, 2, 3], [(s, .inl (g_I (x_G X), 756, .inl (aI fs))), (ea, .inl (g_I (x_G X), 40, .inl (aI fe))), (go, .inl (g_Z (x_G X), 100000, .inl (aI fg))), (qu, .inl (g_I (x_G X), 700, .inl (aI fq)))], rfl, by decide, by decide, by decide, fun _ => rfl⟩) (fun u56 => [.int (iI u56.1)]) (fun _ => rfl) 0 0 ⟨rfl, rfl⟩ (fun u56 hu56 => ?_)
        refine k_if_ne C 64 (⟨by omega, by omega⟩) dX7_runScript_59 (by decide) (fun c59 => ?_) (fun c59 => ?_)
        · exfalso; omega
        · skip
          refine k_iconst C dX7_runScript_62 ?_
          exact k_iret C hR (u := (0, u56.2, un, fs, fg, fq)) rfl (by (try dsimp only) <;> exact (⟨Or.inr ⟨fun z => by rcases gpN z.1 with y | y | y <;> omega, by omega⟩, MO_r⟩)) rfl (Nat.le_of_ble_eq_true rfl) (Nat.le_of_ble_eq_true rfl) dX7_runScript_63
      · skip
        refine k_lload_n C 3 rfl dX7_runScript_43 rfl ?_
        refine k_lload C 0 rfl dX7_runScript_44 ?_
        refine k_lcmp C (⟨by omega, by omega⟩) (⟨by omega, by omega⟩) dX7_runScript_46 (fun v46 e46 b46 => ?_)
        clear e46
        refine k_if_ge C 54 (⟨by omega, by omega⟩) dX7_runScript_47 (by decide) (fun c47 => ?_) (fun c47 => ?_)
        · skip
          refine k_iconst C dX7_runScript_54 ?_
          refine k_iconst C dX7_runScript_55 ?_
          refine k_callV C (y := yX7_goes) [.int (iI 0), .int (iI 1)] 2 rfl (c_X7_goes (x_l X) (x_G X) mo s sv tx fa ea go qu st ty th un om 0 1 (by omega) (by omega)) gX7_runScript_X7_goes rfl ⟨rfl, by decide +kernel, by decide +kernel, by decide +kernel⟩ ⟨by decide, by decide⟩ 0 (fs := [.ref s, .int (iI st), .ref sv, .ref tx, .int (iI ty), .int (iI th), .ref fa, .ref ea, .ref go, .ref qu, .int (iI un), .int (iI om)]) rfl rfl rfl [0] (by decide) (wc := [(mo, .inr (6, [.ref s, .int (iI st), .ref sv, .ref tx, .int (iI ty), .int (iI th), .ref fa, .ref ea, .ref go, .ref qu, .int (iI un), .int (iI om)]))]) rfl [] rfl (Nat.le_of_ble_eq_true rfl) ⟨Nat.le_of_ble_eq_true rfl, Nat.le_of_ble_eq_true rfl⟩ dX7_runScript_56 (fun u56 => [(mo, .inr (6, [.ref s, .int (iI st), .ref sv, .ref tx, .int (iI ty), .int (iI u56.2), .ref fa, .ref ea, .ref go, .ref qu, .int (iI un), .int (iI om)])), (s, .inl (g_I (x_G X), 756, .inl (aI fs))), (ea, .inl (g_I (x_G X), 40, .inl (aI fe))), (go, .inl (g_Z (x_G X), 100000, .inl (aI fg))), (qu, .inl (g_I (x_G X), 700, .inl (aI fq)))]) (Or.inr ⟨[1, 2, 3, 4], [4, 0, 1, 2, 3], [(s, .inl (g_I (x_G X), 756, .inl (aI fs))), (ea, .inl (g_I (x_G X), 40, .inl (aI fe))), (go, .inl (g_Z (x_G X), 100000, .inl (aI fg))), (qu, .inl (g_I (x_G X), 700, .inl (aI fq)))], rfl, by decide, by decide, by decide, fun _ => rfl⟩) (fun u56 => [.int (iI u56.1)]) (fun _ => rfl) 0 0 ⟨rfl, rfl⟩ (fun u56 hu56 => ?_)
          refine k_if_ne C 64 (⟨by omega, by omega⟩) dX7_runScript_59 (by decide) (fun c59 => ?_) (fun c59 => ?_)
          · exfalso; omega
          · skip
            refine k_iconst C dX7_runScript_62 ?_
            exact k_iret C hR (u := (0, u56.2, un, fs, fg, fq)) rfl (by (try dsimp only) <;> exact (⟨Or.inr ⟨fun z => by rcases gpN z.1 with y | y | y <;> omega, by omega⟩, MO_r⟩)) rfl (Nat.le_of_ble_eq_true rfl) (Nat.le_of_ble_eq_true rfl) dX7_runScript_63
        · skip
          refine k_iconst C dX7_runScript_50 ?_
          refine k_goto C 55 dX7_runScript_51 (by decide) ?_
          refine k_iconst C dX7_runScript_55 ?_
          refine k_callV C (y := yX7_goes) [.int (iI 1), .int (iI 1)] 2 rfl (c_X7_goes (x_l X) (x_G X) mo s sv tx fa ea go qu st ty th un om 1 1 (by omega) (by omega)) gX7_runScript_X7_goes rfl ⟨rfl, by decide +kernel, by decide +kernel, by decide +kernel⟩ ⟨by decide, by decide⟩ 0 (fs := [.ref s, .int (iI st), .ref sv, .ref tx, .int (iI ty), .int (iI th), .ref fa, .ref ea, .ref go, .ref qu, .int (iI un), .int (iI om)]) rfl rfl rfl [0] (by decide) (wc := [(mo, .inr (6, [.ref s, .int (iI st), .ref sv, .ref tx, .int (iI ty), .int (iI th), .ref fa, .ref ea, .ref go, .ref qu, .int (iI un), .int (iI om)]))]) rfl [] rfl (Nat.le_of_ble_eq_true rfl) ⟨Nat.le_of_ble_eq_true rfl, Nat.le_of_ble_eq_true rfl⟩ dX7_runScript_56 (fun u56 => [(mo, .inr (6, [.ref s, .int (iI st), .ref sv, .ref tx, .int (iI ty), .int (iI u56.2), .ref fa, .ref ea, .ref go, .ref qu, .int (iI un), .int (iI om)])), (s, .inl (g_I (x_G X), 756, .inl (aI fs))), (ea, .inl (g_I (x_G X), 40, .inl (aI fe))), (go, .inl (g_Z (x_G X), 100000, .inl (aI fg))), (qu, .inl (g_I (x_G X), 700, .inl (aI fq)))]) (Or.inr ⟨[1, 2, 3, 4], [4, 0, 1, 2, 3], [(s, .inl (g_I (x_G X), 756, .inl (aI fs))), (ea, .inl (g_I (x_G X), 40, .inl (aI fe))), (go, .inl (g_Z (x_G X), 100000, .inl (aI fg))), (qu, .inl (g_I (x_G X), 700, .inl (aI fq)))], rfl, by decide, by decide, by decide, fun _ => rfl⟩) (fun u56 => [.int (iI u56.1)]) (fun _ => rfl) 0 0 ⟨rfl, rfl⟩ (fun u56 hu56 => ?_)
          refine k_if_ne C 64 (⟨by omega, by omega⟩) dX7_runScript_59 (by decide) (fun c59 => ?_) (fun c59 => ?_)
          · skip
            have hX : ((1 ≤ N ∧ N ≤ 3) ∧ 0 ≤ x ∧ x < gpA N.toNat) := by (rcases gpN (N := N) (by omega) with z | z | z <;> exact ⟨by omega, by omega, by omega⟩)
            refine k_aload_n C 1 rfl dX7_runScript_64 rfl ?_
            refine k_iconst C dX7_runScript_65 ?_
            refine k_bipush C dX7_runScript_66 (by decide) ?_
            refine k_callV C (y := yX7_copies) [.int (iI 0), .int (iI 17)] 2 rfl (c_X7_copies (x_l X) (x_G X) mo s sv tx fa ea go qu st ty u56.2 un om 0 17 0 17 fs (rfl) (rfl) (by decide) (by decide) (by decide)) gX7_runScript_X7_copies rfl ⟨rfl, by decide +kernel, by decide +kernel, by decide +kernel⟩ ⟨by decide, by decide⟩ 0 (fs := [.ref s, .int (iI st), .ref sv, .ref tx, .int (iI ty), .int (iI u56.2), .ref fa, .ref ea, .ref go, .ref qu, .int (iI un), .int (iI om)]) rfl rfl rfl [0, 1] (by decide) (wc := [(mo, .inr (6, [.ref s, .int (iI st), .ref sv, .ref tx, .int (iI ty), .int (iI u56.2), .ref fa, .ref ea, .ref go, .ref qu, .int (iI un), .int (iI om)])), (s, .inl (g_I (x_G X), 756, .inl (aI fs)))]) rfl [] rfl (Nat.le_of_ble_eq_true rfl) ⟨Nat.le_of_ble_eq_true rfl, Nat.le_of_ble_eq_true rfl⟩ dX7_runScript_68 (fun u68 => [(mo, .inr (6, [.ref s, .int (iI st), .ref sv, .ref tx, .int (iI ty), .int (iI u56.2), .ref fa, .ref ea, .ref go, .ref qu, .int (iI un), .int (iI om)])), (s, .inl (g_I (x_G X), 756, .inl (aI u68))), (ea, .inl (g_I (x_G X), 40, .inl (aI fe))), (go, .inl (g_Z (x_G X), 100000, .inl (aI fg))), (qu, .inl (g_I (x_G X), 700, .inl (aI fq)))]) (Or.inr ⟨[2, 3, 4], [3, 4, 0, 1, 2], [(ea, .inl (g_I (x_G X), 40, .inl (aI fe))), (go, .inl (g_Z (x_G X), 100000, .inl (aI fg))), (qu, .inl (g_I (x_G X), 700, .inl (aI fq)))], rfl, by decide, by decide, by decide, fun _ => rfl⟩) (fun u68 => []) (fun _ => rfl) 0 0 ⟨rfl, rfl⟩ (fun u68 hu68 => ?_)
            have hM2 : MS u68 17 n k m := MS_cp hu68 hM
            refine k_iconst C dX7_runScript_71 ?_
            refine k_istore C (lo' := [(6, .int (iI 0)), (4, .long (jL 1000000)), (0, .ref mo), (1, .int (iI N)), (2, .long (jL x))]) dX7_runScript_72 (by decide) rfl ?_
            have L74 : ∀ (nf : Nat) (nq : Nat) (kq : Nat) (mq : Nat) (i : Int) (un1 : Int) (s1 : Nat → Int) (g1 : Nat → Int) (q1 : Nat → Int), (0 ≤ i ∧ i ≤ N ∧ MS s1 17 nq kq mq ∧ MO_ 17 fs s1 ∧ rsF x N (N - i).toNat i nq kq mq = rsF x N N.toNat 0 n k m) → (N - i).toNat < nf → K_ X 0 0 [(mo, .inr (6, [.ref s, .int (iI st), .ref sv, .ref tx, .int (iI ty), .int (iI u56.2), .ref fa, .ref ea, .ref go, .ref qu, .int (iI un1), .int (iI om)])), (s, .inl (g_I (x_G X), 756, .inl (aI s1))), (ea, .inl (g_I (x_G X), 40, .inl (aI fe))), (go, .inl (g_Z (x_G X), 100000, .inl (aI g1))), (qu, .inl (g_I (x_G X), 700, .inl (aI q1)))] 74 [(6, .int (iI i)), (4, .long (jL 1000000)), (0, .ref mo), (1, .int (iI N)), (2, .long (jL x))] [] := by
              intro nf
              induction nf with
              | zero => intro nq kq mq i un1 s1 g1 q1 hI hm; exact absurd hm (Nat.not_lt_zero _)
              | succ nf ih74 =>
                intro nq kq mq i un1 s1 g1 q1 hI74 hm74
                obtain ⟨i1, i2, i3, i4, i5⟩ := hI74
                refine k_iload C 0 rfl dX7_runScript_74 ?_
                refine k_iload_n C 3 rfl dX7_runScript_76 rfl ?_
                refine k_icmp_ge C 132 (⟨by omega, by omega⟩) (⟨by omega, by omega⟩) dX7_runScript_77 (by decide) (fun c77 => ?_) (fun c77 => ?_)
                · skip
                  have hEE : rsF x N N.toNat 0 n k m = -1 := by rw [← i5, show (N - i).toNat = 0 by omega]; rfl
                  refine k_iconst C dX7_runScript_132 ?_
                  exact k_iret C hR (u := ((-1), u56.2, un1, s1, g1, q1)) rfl (by (try dsimp only) <;> exact (⟨Or.inl ⟨hX, hEE.symm, by omega⟩, i4⟩)) rfl (Nat.le_of_ble_eq_true rfl) (Nat.le_of_ble_eq_true rfl) dX7_runScript_133
                · skip
                  refine k_lload_n C 4 rfl dX7_runScript_80 rfl ?_
                  refine k_lstore C (lo' := [(7, .long (jL x)), (6, .int (iI i)), (4, .long (jL 1000000)), (0, .ref mo), (1, .int (iI N)), (2, .long (jL x))]) dX7_runScript_81 (by decide) rfl ?_
                  refine k_iload C 1 rfl dX7_runScript_83 ?_
                  refine k_iconst C dX7_runScript_85 ?_
                  refine k_iadd C dX7_runScript_86 ?_
                  refine k_nmI (fun v86 e86 => ?_)
                  refine k_istore C (lo' := [(9, .int (iI v86)), (7, .long (jL x)), (6, .int (iI i)), (4, .long (jL 1000000)), (0, .ref mo), (1, .int (iI N)), (2, .long (jL x))]) dX7_runScript_87 (by decide) rfl ?_
                  have L89 : ∀ (nf : Nat) (j : Int) (gq : Int), (i + 1 ≤ j ∧ j ≤ N ∧ gq = x / gpA (j - i - 1).toNat ∧ 0 ≤ gq ∧ gq ≤ x) → (N - j).toNat < nf → K_ X 0 0 [(mo, .inr (6, [.ref s, .int (iI st), .ref sv, .ref tx, .int (iI ty), .int (iI u56.2), .ref fa, .ref ea, .ref go, .ref qu, .int (iI un1), .int (iI om)])), (s, .inl (g_I (x_G X), 756, .inl (aI s1))), (ea, .inl (g_I (x_G X), 40, .inl (aI fe))), (go, .inl (g_Z (x_G X), 100000, .inl (aI g1))), (qu, .inl (g_I (x_G X), 700, .inl (aI q1)))] 89 [(9, .int (iI j)), (7, .long (jL gq)), (6, .int (iI i)), (4, .long (jL 1000000)), (0, .ref mo), (1, .int (iI N)), (2, .long (jL x))] [] := by
                    intro nf
                    induction nf with
                    | zero => intro j gq hI hm; exact absurd hm (Nat.not_lt_zero _)
                    | succ nf ih89 =>
                      intro j gq hI89 hm89
                      obtain ⟨k1, k2, k3, k4, k5⟩ := hI89
                      refine k_iload C 0 rfl dX7_runScript_89 ?_
                      refine k_iload_n C 5 rfl dX7_runScript_91 rfl ?_
                      refine k_icmp_ge C 109 (⟨by omega, by omega⟩) (⟨by omega, by omega⟩) dX7_runScript_92 (by decide) (fun c92 => ?_) (fun c92 => ?_)
                      · skip
                        have hjN : (N - 1 - i).toNat = (j - i - 1).toNat := by omega
                        refine k_aload_n C 4 rfl dX7_runScript_109 rfl ?_
                        refine k_lload C 1 rfl dX7_runScript_110 ?_
                        refine k_ldc2 C 1000000 1 rfl (by decide) dX7_runScript_112 ?_
                        refine k_lrem C ⟨by omega, by omega⟩ ⟨by omega, by omega⟩ dX7_runScript_115 ?_
                        refine k_nmL (fun v115 e115 => ?_)
                        have hgr : v115 = grp x N i := by unfold grp; rw [hjN, ← k3]; omega
                        refine k_l2i C dX7_runScript_116 ?_
                        refine k_callV C (y := yX7_tries) [.int (iI v115)] 1 rfl (c_X7_tries (x_l X) (x_G X) mo s sv tx fa ea go qu st ty u56.2 un1 om nq kq mq v115 s1 fe g1 q1 (i3) (hE) (by omega)) gX7_runScript_X7_tries rfl ⟨rfl, by decide +kernel, by decide +kernel, by decide +kernel⟩ ⟨by decide, by decide⟩ 0 (fs := [.ref s, .int (iI st), .ref sv, .ref tx, .int (iI ty), .int (iI u56.2), .ref fa, .ref ea, .ref go, .ref qu, .int (iI un1), .int (iI om)]) rfl rfl rfl [0, 1, 2, 3, 4] (by decide) (wc := [(mo, .inr (6, [.ref s, .int (iI st), .ref sv, .ref tx, .int (iI ty), .int (iI u56.2), .ref fa, .ref ea, .ref go, .ref qu, .int (iI un1), .int (iI om)])), (s, .inl (g_I (x_G X), 756, .inl (aI s1))), (ea, .inl (g_I (x_G X), 40, .inl (aI fe))), (go, .inl (g_Z (x_G X), 100000, .inl (aI g1))), (qu, .inl (g_I (x_G X), 700, .inl (aI q1)))]) rfl [] rfl (Nat.le_of_ble_eq_true rfl) ⟨Nat.le_of_ble_eq_true rfl, Nat.le_of_ble_eq_true rfl⟩ dX7_runScript_117 (fun u117 => [(mo, .inr (6, [.ref s, .int (iI st), .ref sv, .ref tx, .int (iI ty), .int (iI u56.2), .ref fa, .ref ea, .ref go, .ref qu, .int (iI u117.2.2.1), .int (iI om)])), (s, .inl (g_I (x_G X), 756, .inl (aI u117.2.1))), (ea, .inl (g_I (x_G X), 40, .inl (aI fe))), (go, .inl (g_Z (x_G X), 100000, .inl (aI u117.2.2.2.1))), (qu, .inl (g_I (x_G X), 700, .inl (aI u117.2.2.2.2)))]) (Or.inr ⟨[], [0, 1, 2, 3, 4], [], rfl, by decide, by decide, by decide, fun _ => rfl⟩) (fun u117 => [.int (iI u117.1)]) (fun _ => rfl) 0 0 ⟨rfl, rfl⟩ (fun u117 hu117 => ?_)
                        rw [hgr] at hu117
                        refine k_if_ne C 126 (by rcases hu117.2 with z | z <;> (have := z.1; omega)) dX7_runScript_120 (by decide) (fun c120 => ?_) (fun c120 => ?_)
                        · skip
                          obtain ⟨z1, z2, z3⟩ := hu117.2.resolve_right (fun z => c120 z.1)
                          obtain ⟨v126, e126⟩ : ∃ y : Int, y = i + 1 := ⟨_, rfl⟩
                          refine k_iinc C (lo' := [(6, .int (iI v126)), (9, .int (iI j)), (7, .long (jL gq)), (4, .long (jL 1000000)), (0, .ref mo), (1, .int (iI N)), (2, .long (jL x))]) 2 rfl dX7_runScript_126 (by decide) v126 e126 rfl ?_
                          refine k_goto C 74 dX7_runScript_129 (by decide) ?_
                          refine k_lo (lo' := [(6, .int (iI v126)), (4, .long (jL 1000000)), (0, .ref mo), (1, .int (iI N)), (2, .long (jL x))]) [0, 3, 4, 5, 6] rfl ?_
                          exact ih74 _ _ _ v126 u117.2.2.1 u117.2.1 u117.2.2.2.1 u117.2.2.2.2 (⟨by omega, by omega, z3, MO_t i4 hu117.1, by rw [← i5, show (N - i).toNat = (N - v126).toNat + 1 by omega, rsF_go z2, e126]⟩) (by omega)
                        · skip
                          have hEE : rsF x N N.toNat 0 n k m = i := by rw [← i5, show (N - i).toNat = (N - i).toNat - 1 + 1 by omega]; exact rsF_no (by rcases hu117.2 with z | z; (have := z.1; omega); exact z.2)
                          refine k_iload C 2 rfl dX7_runScript_123 ?_
                          exact k_iret C hR (u := (i, u56.2, u117.2.2.1, u117.2.1, u117.2.2.2.1, u117.2.2.2.2)) rfl (by (try dsimp only) <;> exact (⟨Or.inl ⟨hX, hEE.symm, by omega⟩, MO_t i4 hu117.1⟩)) rfl (Nat.le_of_ble_eq_true rfl) (Nat.le_of_ble_eq_true rfl) dX7_runScript_125
                      · skip
                        refine k_lload C 1 rfl dX7_runScript_95 ?_
                        refine k_ldc2 C 1000000 1 rfl (by decide) dX7_runScript_97 ?_
                        refine k_ldiv C ⟨by omega, by omega⟩ ⟨by omega, by omega⟩ dX7_runScript_100 ?_
                        refine k_nmL (fun v100 e100 => ?_)
                        refine k_lstore C (lo' := [(7, .long (jL v100)), (9, .int (iI j)), (6, .int (iI i)), (4, .long (jL 1000000)), (0, .ref mo), (1, .int (iI N)), (2, .long (jL x))]) dX7_runScript_101 (by decide) rfl ?_
                        obtain ⟨v103, e103⟩ : ∃ y : Int, y = j + 1 := ⟨_, rfl⟩
                        refine k_iinc C (lo' := [(9, .int (iI v103)), (7, .long (jL v100)), (6, .int (iI i)), (4, .long (jL 1000000)), (0, .ref mo), (1, .int (iI N)), (2, .long (jL x))]) 1 rfl dX7_runScript_103 (by decide) v103 e103 rfl ?_
                        refine k_goto C 89 dX7_runScript_106 (by decide) ?_
                        exact ih89 v103 v100 (⟨by omega, by omega, by rw [show (v103 - i - 1).toNat = (j - i - 1).toNat + 1 by omega, ← gpA_d (by omega), ← k3]; omega, by omega, by omega⟩) (by omega)
                  exact L89 _ v86 x (⟨by omega, by omega, by rw [show (v86 - i - 1).toNat = 0 by omega]; show x = x / 1; rw [Int.ediv_one], by omega, by omega⟩) (Nat.lt_succ_self _)
            exact L74 _ n k m 0 un u68 fg fq (⟨by omega, by omega, hM2, hu68.2, by rw [Int.sub_zero]⟩) (Nat.lt_succ_self _)
          · exfalso; omega
theorem in_X7_simulate_X7 : ∀ w ∈ wsX70, w ∈ wsX7_simulate := by decide +kernel
set_option maxHeartbeats 4000000 in
set_option maxRecDepth 100000 in
theorem c_X7_simulate (l : Launch) (G : KG) (mo s sv tx fa ea go qu : Nat) (st ty th un om : Int) (n k m : Nat) (sd N : Int) (fs fe fg : Nat → Int) (hM : MS fs 0 n k m) (hE : ∀ i : Nat, i < 40 → fe i = (sp i : Int)) (hN : -2147483648 ≤ N ∧ N < 2147483648) : Ct l G yX7_simulate wsX7_simulate (rmD 3 0 0) [.ref mo, .long (jL sd), .int (iI N)] [(mo, .inr (6, [.ref s, .int (iI st), .ref sv, .ref tx, .int (iI ty), .int (iI th), .ref fa, .ref ea, .ref go, .ref qu, .int (iI un), .int (iI om)])), (s, .inl (g_I G, 756, .inl (aI fs))), (ea, .inl (g_I G, 40, .inl (aI fe))), (go, .inl (g_Z G, 100000, .inl (aI fg)))] (fun u : Int × Int × (Nat → Int) × (Nat → Int) => (((1 ≤ N ∧ N ≤ 60) ∧ u.1 = (cA (siF N.toNat sd n k m).2.2 (siF N.toNat sd n k m).2.1 (siF N.toNat sd n k m).1 : Int) ∧ u.2.1 = 0) ∨ (¬ (1 ≤ N ∧ N ≤ 60) ∧ u.2.1 = 1)) ∧ MO_ 17 fs u.2.2.1) (fun u : Int × Int × (Nat → Int) × (Nat → Int) => some (.int (iI u.1))) (fun u : Int × Int × (Nat → Int) × (Nat → Int) => [(mo, .inr (6, [.ref s, .int (iI st), .ref sv, .ref tx, .int (iI ty), .int (iI u.2.1), .ref fa, .ref ea, .ref go, .ref qu, .int (iI un), .int (iI om)])), (s, .inl (g_I G, 756, .inl (aI u.2.2.1))), (ea, .inl (g_I G, 40, .inl (aI fe))), (go, .inl (g_Z G, 100000, .inl (aI u.2.2.2)))]) := by
  refine Ct.of (cc := cX7_simulate) (maxL := 8) (ret := (some .int)) (by decide +kernel) rfl (Nat.le_of_ble_eq_true rfl) ?_
  intro X C hG hL hnm hR
  subst hG
  subst hL
  have C : Cx X cX7_simulate RX7 wsX7_simulate (some .int) 8 (rmD 3 0 0) := C
  obtain ⟨m1, m2, m3, m4⟩ := id hM
  have mk : k ≤ 40 := m4.2.2.1
  have mn1 : 1 ≤ n := m4.1
  have mn2 : n ≤ 99999 := m4.2.1
  have hz2 := SZ_631 mn2
  have hz1 := SZ_pos mn1
  show K_ X 0 0 [(mo, .inr (6, [.ref s, .int (iI st), .ref sv, .ref tx, .int (iI ty), .int (iI th), .ref fa, .ref ea, .ref go, .ref qu, .int (iI un), .int (iI om)])), (s, .inl (g_I (x_G X), 756, .inl (aI fs))), (ea, .inl (g_I (x_G X), 40, .inl (aI fe))), (go, .inl (g_Z (x_G X), 100000, .inl (aI fg)))] 0 [(0, .ref mo), (1, .long (jL sd)), (3, .int (iI N))] []
  refine k_aload_n C 0 rfl dX7_simulate_0 rfl ?_
  refine k_iload_n C 2 rfl dX7_simulate_1 rfl ?_
  refine k_iconst C dX7_simulate_2 ?_
  refine k_bipush C dX7_simulate_3 (by decide) ?_
  refine k_callS C (y := yX7_in) [.int (iI N), .int (iI 1), .int (iI 60)] 3 rfl (c_X7_in (x_l X) (x_G X) N 1 60 (by omega) (by omega) (by omega)) gX7_simulate_X7_in rfl ⟨by decide +kernel, by decide +kernel, by decide +kernel⟩ ⟨by decide, by decide⟩ [] (by decide) (wc := []) rfl [.ref mo] rfl (Nat.le_of_ble_eq_true rfl) ⟨Nat.le_of_ble_eq_true rfl, Nat.le_of_ble_eq_true rfl⟩ dX7_simulate_5 (fun _ => [(mo, .inr (6, [.ref s, .int (iI st), .ref sv, .ref tx, .int (iI ty), .int (iI th), .ref fa, .ref ea, .ref go, .ref qu, .int (iI un), .int (iI om)])), (s, .inl (g_I (x_G X), 756, .inl (aI fs))), (ea, .inl (g_I (x_G X), 40, .inl (aI fe))), (go, .inl (g_Z (x_G X), 100000, .inl (aI fg)))]) (Or.inl (fun _ => ⟨rfl, rfl⟩)) (fun u5 => [.int (iI u5), .ref mo]) (fun _ => rfl) 0 0 ⟨rfl, rfl⟩ (fun u5 hu5 => ?_)
  refine k_iconst C dX7_simulate_8 ?_
  refine k_callV C (y := yX7_goes) [.int (iI u5), .int (iI 1)] 2 rfl (c_X7_goes (x_l X) (x_G X) mo s sv tx fa ea go qu st ty th un om u5 1 (by omega) (by omega)) gX7_simulate_X7_goes rfl ⟨rfl, by decide +kernel, by decide +kernel, by decide +kernel⟩ ⟨by decide, by decide⟩ 0 (fs := [.ref s, .int (iI st), .ref sv, .ref tx, .int (iI ty), .int (iI th), .ref fa, .ref ea, .ref go, .ref qu, .int (iI un), .int (iI om)]) rfl rfl rfl [0] (by decide) (wc := [(mo, .inr (6, [.ref s, .int (iI st), .ref sv, .ref tx, .int (iI ty), .int (iI th), .ref fa, .ref ea, .ref go, .ref qu, .int (iI un), .int (iI om)]))]) rfl [] rfl (Nat.le_of_ble_eq_true rfl) ⟨Nat.le_of_ble_eq_true rfl, Nat.le_of_ble_eq_true rfl⟩ dX7_simulate_9 (fun u9 => [(mo, .inr (6, [.ref s, .int (iI st), .ref sv, .ref tx, .int (iI ty), .int (iI u9.2), .ref fa, .ref ea, .ref go, .ref qu, .int (iI un), .int (iI om)])), (s, .inl (g_I (x_G X), 756, .inl (aI fs))), (ea, .inl (g_I (x_G X), 40, .inl (aI fe))), (go, .inl (g_Z (x_G X), 100000, .inl (aI fg)))]) (Or.inr ⟨[1, 2, 3], [3, 0, 1, 2], [(s, .inl (g_I (x_G X), 756, .inl (aI fs))), (ea, .inl (g_I (x_G X), 40, .inl (aI fe))), (go, .inl (g_Z (x_G X), 100000, .inl (aI fg)))], rfl, by decide, by decide, by decide, fun _ => rfl⟩) (fun u9 => [.int (iI u9.1)]) (fun _ => rfl) 0 0 ⟨rfl, rfl⟩ (fun u9 hu9 => ?_)
  refine k_if_ne C 17 (⟨by omega, by omega⟩) dX7_simulate_12 (by decide) (fun c12 => ?_) (fun c12 => ?_)
  · skip
    refine k_aload_n C 0 rfl dX7_simulate_17 rfl ?_
    refine k_iconst C dX7_simulate_18 ?_
    refine k_bipush C dX7_simulate_19 (by decide) ?_
    refine k_callV C (y := yX7_copies) [.int (iI 0), .int (iI 17)] 2 rfl (c_X7_copies (x_l X) (x_G X) mo s sv tx fa ea go qu st ty u9.2 un om 0 17 0 17 fs (rfl) (rfl) (by decide) (by decide) (by decide)) gX7_simulate_X7_copies rfl ⟨rfl, by decide +kernel, by decide +kernel, by decide +kernel⟩ ⟨by decide, by decide⟩ 0 (fs := [.ref s, .int (iI st), .ref sv, .ref tx, .int (iI ty), .int (iI u9.2), .ref fa, .ref ea, .ref go, .ref qu, .int (iI un), .int (iI om)]) rfl rfl rfl [0, 1] (by decide) (wc := [(mo, .inr (6, [.ref s, .int (iI st), .ref sv, .ref tx, .int (iI ty), .int (iI u9.2), .ref fa, .ref ea, .ref go, .ref qu, .int (iI un), .int (iI om)])), (s, .inl (g_I (x_G X), 756, .inl (aI fs)))]) rfl [] rfl (Nat.le_of_ble_eq_true rfl) ⟨Nat.le_of_ble_eq_true rfl, Nat.le_of_ble_eq_true rfl⟩ dX7_simulate_21 (fun u21 => [(mo, .inr (6, [.ref s, .int (iI st), .ref sv, .ref tx, .int (iI ty), .int (iI u9.2), .ref fa, .ref ea, .ref go, .ref qu, .int (iI un), .int (iI om)])), (s, .inl (g_I (x_G X), 756, .inl (aI u21))), (ea, .inl (g_I (x_G X), 40, .inl (aI fe))), (go, .inl (g_Z (x_G X), 100000, .inl (aI fg)))]) (Or.inr ⟨[2, 3], [2, 3, 0, 1], [(ea, .inl (g_I (x_G X), 40, .inl (aI fe))), (go, .inl (g_Z (x_G X), 100000, .inl (aI fg)))], rfl, by decide, by decide, by decide, fun _ => rfl⟩) (fun u21 => []) (fun _ => rfl) 0 0 ⟨rfl, rfl⟩ (fun u21 hu21 => ?_)
    have hM2 : MS u21 17 n k m := MS_cp hu21 hM
    refine k_lload_n C 1 rfl dX7_simulate_24 rfl ?_
    refine k_lstore C (lo' := [(4, .long (jL sd)), (0, .ref mo), (1, .long (jL sd)), (3, .int (iI N))]) dX7_simulate_25 (by decide) rfl ?_
    refine k_iconst C dX7_simulate_27 ?_
    refine k_istore C (lo' := [(6, .int (iI 0)), (4, .long (jL sd)), (0, .ref mo), (1, .long (jL sd)), (3, .int (iI N))]) dX7_simulate_28 (by decide) rfl ?_
    have L30 : ∀ (nf : Nat) (nq : Nat) (kq : Nat) (mq : Nat) (xq : Int) (i : Int) (s1 : Nat → Int), (0 ≤ i ∧ i ≤ N ∧ MS s1 17 nq kq mq ∧ MO_ 17 fs s1 ∧ siF (N - i).toNat xq nq kq mq = (siF N.toNat sd n k m)) → (N - i).toNat < nf → K_ X 0 0 [(mo, .inr (6, [.ref s, .int (iI st), .ref sv, .ref tx, .int (iI ty), .int (iI u9.2), .ref fa, .ref ea, .ref go, .ref qu, .int (iI un), .int (iI om)])), (s, .inl (g_I (x_G X), 756, .inl (aI s1))), (ea, .inl (g_I (x_G X), 40, .inl (aI fe))), (go, .inl (g_Z (x_G X), 100000, .inl (aI fg)))] 30 [(6, .int (iI i)), (4, .long (jL xq)), (0, .ref mo), (1, .long (jL sd)), (3, .int (iI N))] [] := by
      intro nf
      induction nf with
      | zero => intro nq kq mq xq i s1 hI hm; exact absurd hm (Nat.not_lt_zero _)
      | succ nf ih30 =>
        intro nq kq mq xq i s1 hI30 hm30
        obtain ⟨i1, i2, i3, i4, i5⟩ := hI30
        have hrn := nxI_or nq kq
        refine k_iload C 0 rfl dX7_simulate_30 ?_
        refine k_iload_n C 4 rfl dX7_simulate_32 rfl ?_
        refine k_icmp_ge C 140 (⟨by omega, by omega⟩) (⟨by omega, by omega⟩) dX7_simulate_33 (by decide) (fun c33 => ?_) (fun c33 => ?_)
        · skip
          refine k_aload_n C 2 rfl dX7_simulate_140 rfl ?_
          refine k_bipush C dX7_simulate_141 (by decide) ?_
          refine k_callV C (y := yX7_leftIn) [.int (iI 17)] 1 rfl (c_X7_leftIn (x_l X) (x_G X) mo s sv tx fa ea go qu st ty u9.2 un om 17 17 nq kq mq s1 fe fg (rfl) (by decide) (by assumption) (by assumption)) gX7_simulate_X7_leftIn rfl ⟨rfl, by decide +kernel, by decide +kernel, by decide +kernel⟩ ⟨by decide, by decide⟩ 0 (fs := [.ref s, .int (iI st), .ref sv, .ref tx, .int (iI ty), .int (iI u9.2), .ref fa, .ref ea, .ref go, .ref qu, .int (iI un), .int (iI om)]) rfl rfl rfl [0, 1, 2, 3] (by decide) (wc := [(mo, .inr (6, [.ref s, .int (iI st), .ref sv, .ref tx, .int (iI ty), .int (iI u9.2), .ref fa, .ref ea, .ref go, .ref qu, .int (iI un), .int (iI om)])), (s, .inl (g_I (x_G X), 756, .inl (aI s1))), (ea, .inl (g_I (x_G X), 40, .inl (aI fe))), (go, .inl (g_Z (x_G X), 100000, .inl (aI fg)))]) rfl [] rfl (Nat.le_of_ble_eq_true rfl) ⟨Nat.le_of_ble_eq_true rfl, Nat.le_of_ble_eq_true rfl⟩ dX7_simulate_143 (fun u143 => [(mo, .inr (6, [.ref s, .int (iI st), .ref sv, .ref tx, .int (iI ty), .int (iI u9.2), .ref fa, .ref ea, .ref go, .ref qu, .int (iI un), .int (iI om)])), (s, .inl (g_I (x_G X), 756, .inl (aI s1))), (ea, .inl (g_I (x_G X), 40, .inl (aI fe))), (go, .inl (g_Z (x_G X), 100000, .inl (aI u143.2)))]) (Or.inr ⟨[], [0, 1, 2, 3], [], rfl, by decide, by decide, by decide, fun _ => rfl⟩) (fun u143 => [.int (iI u143.1)]) (fun _ => rfl) 0 0 ⟨rfl, rfl⟩ (fun u143 hu143 => ?_)
          exact k_iret C hR (u := (u143.1, u9.2, s1, u143.2)) rfl (by (try dsimp only) <;> exact (⟨Or.inl ⟨by omega, by rw [← i5, show (N - i).toNat = 0 by omega]; exact hu143.1, by omega⟩, i4⟩)) rfl (Nat.le_of_ble_eq_true rfl) (Nat.le_of_ble_eq_true rfl) dX7_simulate_146
        · skip
          refine k_lload C 1 rfl dX7_simulate_36 ?_
          refine k_ldc2 C 6364136223846793005 1 rfl (by decide) dX7_simulate_38 ?_
          refine k_lmul C dX7_simulate_41 ?_
          refine k_nmL (fun v41 e41 => ?_)
          refine k_ldc2 C 1442695040888963407 2 rfl (by decide) dX7_simulate_42 ?_
          refine k_ladd C dX7_simulate_45 ?_
          refine k_nmL (fun v45 e45 => ?_)
          have hl : v45 = lcg xq := by unfold lcg; omega
          refine k_lstore C (lo' := [(4, .long (jL v45)), (6, .int (iI i)), (0, .ref mo), (1, .long (jL sd)), (3, .int (iI N))]) dX7_simulate_46 (by decide) rfl ?_
          refine k_lload C 0 rfl dX7_simulate_48 ?_
          refine k_bipush C dX7_simulate_50 (by decide) ?_
          refine k_lushr C (trn v45) (jl_shr33 _) dX7_simulate_52 ?_
          refine k_nmL (fun v52 e52 => ?_)
          have hr : 0 ≤ v52 ∧ v52 < 2147483648 := by rw [e52]; unfold trn; omega
          refine k_l2i C dX7_simulate_53 ?_
          refine k_istore C (lo' := [(7, .int (iI v52)), (4, .long (jL v45)), (6, .int (iI i)), (0, .ref mo), (1, .long (jL sd)), (3, .int (iI N))]) dX7_simulate_54 (by decide) rfl ?_
          refine k_iload C 0 rfl dX7_simulate_56 ?_
          refine k_bipush C dX7_simulate_58 (by decide) ?_
          refine k_irem C ⟨by omega, by omega⟩ ⟨by omega, by omega⟩ dX7_simulate_60 ?_
          refine k_nmI (fun v60 e60 => ?_)
          refine k_if_ne C 84 (⟨by omega, by omega⟩) dX7_simulate_61 (by decide) (fun c61 => ?_) (fun c61 => ?_)
          · skip
            refine k_iload C 0 rfl dX7_simulate_84 ?_
            refine k_bipush C dX7_simulate_86 (by decide) ?_
            refine k_irem C ⟨by omega, by omega⟩ ⟨by omega, by omega⟩ dX7_simulate_88 ?_
            refine k_nmI (fun v88 e88 => ?_)
            refine k_iconst C dX7_simulate_89 ?_
            refine k_icmp_ne C 105 (⟨by omega, by omega⟩) (⟨by omega, by omega⟩) dX7_simulate_90 (by decide) (fun c90 => ?_) (fun c90 => ?_)
            · skip
              refine k_aload_n C 3 rfl dX7_simulate_105 rfl ?_
              refine k_bipush C dX7_simulate_106 (by decide) ?_
              refine k_callV C (y := yX7_next) [.int (iI 17)] 1 rfl (c_X7_next (x_l X) (x_G X) mo s sv tx fa ea go qu st ty u9.2 un om 17 17 nq kq mq s1 fe (rfl) (by decide) (by assumption) (by assumption)) gX7_simulate_X7_next rfl ⟨rfl, by decide +kernel, by decide +kernel, by decide +kernel⟩ ⟨by decide, by decide⟩ 0 (fs := [.ref s, .int (iI st), .ref sv, .ref tx, .int (iI ty), .int (iI u9.2), .ref fa, .ref ea, .ref go, .ref qu, .int (iI un), .int (iI om)]) rfl rfl rfl [0, 1, 2] (by decide) (wc := [(mo, .inr (6, [.ref s, .int (iI st), .ref sv, .ref tx, .int (iI ty), .int (iI u9.2), .ref fa, .ref ea, .ref go, .ref qu, .int (iI un), .int (iI om)])), (s, .inl (g_I (x_G X), 756, .inl (aI s1))), (ea, .inl (g_I (x_G X), 40, .inl (aI fe)))]) rfl [] rfl (Nat.le_of_ble_eq_true rfl) ⟨Nat.le_of_ble_eq_true rfl, Nat.le_of_ble_eq_true rfl⟩ dX7_simulate_108 (fun _ => [(mo, .inr (6, [.ref s, .int (iI st), .ref sv, .ref tx, .int (iI ty), .int (iI u9.2), .ref fa, .ref ea, .ref go, .ref qu, .int (iI un), .int (iI om)])), (s, .inl (g_I (x_G X), 756, .inl (aI s1))), (ea, .inl (g_I (x_G X), 40, .inl (aI fe))), (go, .inl (g_Z (x_G X), 100000, .inl (aI fg)))]) (Or.inl (fun _ => ⟨rfl, rfl⟩)) (fun u108 => [.int (iI u108)]) (fun _ => rfl) 0 0 ⟨rfl, rfl⟩ (fun u108 hu108 => ?_)
              refine k_if_le C 134 (by rw [hu108]; omega) dX7_simulate_111 (by decide) (fun c111 => ?_) (fun c111 => ?_)
              · skip
                have hM3 := i3
                have hO3 : MO_ 17 s1 s1 := MO_r
                have tE : turn (trn (lcg xq)) nq kq mq = (nq, kq, mq) := by rw [← hl, ← e52]; exact turn_n (by omega) (by omega)
                obtain ⟨v134, e134⟩ : ∃ y : Int, y = i + 1 := ⟨_, rfl⟩
                refine k_iinc C (lo' := [(6, .int (iI v134)), (7, .int (iI v52)), (4, .long (jL v45)), (0, .ref mo), (1, .long (jL sd)), (3, .int (iI N))]) 2 rfl dX7_simulate_134 (by decide) v134 e134 rfl ?_
                refine k_goto C 30 dX7_simulate_137 (by decide) ?_
                refine k_lo (lo' := [(6, .int (iI v134)), (4, .long (jL v45)), (0, .ref mo), (1, .long (jL sd)), (3, .int (iI N))]) [0, 2, 3, 4, 5] rfl ?_
                exact ih30 _ _ _ v45 v134 s1 (⟨by omega, by omega, hM3, MO_t i4 hO3, by rw [← i5, show (N - i).toNat = (N - v134).toNat + 1 by omega, siF_s, tE, hl]⟩) (by omega)
              · skip
                refine k_aload_n C 3 rfl dX7_simulate_114 rfl ?_
                refine k_bipush C dX7_simulate_115 (by decide) ?_
                refine k_iload C 0 rfl dX7_simulate_117 ?_
                refine k_bipush C dX7_simulate_119 (by decide) ?_
                refine k_irem C ⟨by omega, by omega⟩ ⟨by omega, by omega⟩ dX7_simulate_121 ?_
                refine k_nmI (fun v121 e121 => ?_)
                refine k_iconst C dX7_simulate_122 ?_
                refine k_icmp_ge C 130 (⟨by omega, by omega⟩) (⟨by omega, by omega⟩) dX7_simulate_123 (by decide) (fun c123 => ?_) (fun c123 => ?_)
                · skip
                  refine k_iconst C dX7_simulate_130 ?_
                  refine k_callV C (y := yX7_comes) [.int (iI 17), .int (iI 1)] 2 rfl (c_X7_comes (x_l X) (x_G X) mo s sv tx fa ea go qu st ty u9.2 un om 17 1 17 nq kq mq s1 (rfl) (by decide) (by assumption) ((nxI_some (n := nq) (k := kq) (by omega)).1) (by first | exact Or.inl rfl | exact Or.inr rfl)) gX7_simulate_X7_comes rfl ⟨rfl, by decide +kernel, by decide +kernel, by decide +kernel⟩ ⟨by decide, by decide⟩ 0 (fs := [.ref s, .int (iI st), .ref sv, .ref tx, .int (iI ty), .int (iI u9.2), .ref fa, .ref ea, .ref go, .ref qu, .int (iI un), .int (iI om)]) rfl rfl rfl [0, 1] (by decide) (wc := [(mo, .inr (6, [.ref s, .int (iI st), .ref sv, .ref tx, .int (iI ty), .int (iI u9.2), .ref fa, .ref ea, .ref go, .ref qu, .int (iI un), .int (iI om)])), (s, .inl (g_I (x_G X), 756, .inl (aI s1)))]) rfl [] rfl (Nat.le_of_ble_eq_true rfl) ⟨Nat.le_of_ble_eq_true rfl, Nat.le_of_ble_eq_true rfl⟩ dX7_simulate_131 (fun u131 => [(mo, .inr (6, [.ref s, .int (iI st), .ref sv, .ref tx, .int (iI ty), .int (iI u9.2), .ref fa, .ref ea, .ref go, .ref qu, .int (iI un), .int (iI om)])), (s, .inl (g_I (x_G X), 756, .inl (aI u131))), (ea, .inl (g_I (x_G X), 40, .inl (aI fe))), (go, .inl (g_Z (x_G X), 100000, .inl (aI fg)))]) (Or.inr ⟨[2, 3], [2, 3, 0, 1], [(ea, .inl (g_I (x_G X), 40, .inl (aI fe))), (go, .inl (g_Z (x_G X), 100000, .inl (aI fg)))], rfl, by decide, by decide, by decide, fun _ => rfl⟩) (fun u131 => []) (fun _ => rfl) 0 0 ⟨rfl, rfl⟩ (fun u131 hu131 => ?_)
                  first | rw [if_pos rfl] at hu131 | rw [if_neg (by decide)] at hu131
                  have hM3 := hu131.1
                  have hO3 := hu131.2
                  first | (have tE : turn (trn (lcg xq)) nq kq mq = (nq, kq + 1, mq) := by rw [← hl, ← e52]; exact turn_2 (by omega) (by omega)) | (have tE : turn (trn (lcg xq)) nq kq mq = (nq, kq + 1, mq ||| 2 ^ kq) := by rw [← hl, ← e52]; exact turn_4 (by omega) (by omega))
                  obtain ⟨v134, e134⟩ : ∃ y : Int, y = i + 1 := ⟨_, rfl⟩
                  refine k_iinc C (lo' := [(6, .int (iI v134)), (7, .int (iI v52)), (4, .long (jL v45)), (0, .ref mo), (1, .long (jL sd)), (3, .int (iI N))]) 2 rfl dX7_simulate_134 (by decide) v134 e134 rfl ?_
                  refine k_goto C 30 dX7_simulate_137 (by decide) ?_
                  refine k_lo (lo' := [(6, .int (iI v134)), (4, .long (jL v45)), (0, .ref mo), (1, .long (jL sd)), (3, .int (iI N))]) [0, 2, 3, 4, 5] rfl ?_
                  exact ih30 _ _ _ v45 v134 u131 (⟨by omega, by omega, hM3, MO_t i4 hO3, by rw [← i5, show (N - i).toNat = (N - v134).toNat + 1 by omega, siF_s, tE, hl]⟩) (by omega)
                · skip
                  refine k_iconst C dX7_simulate_126 ?_
                  refine k_goto C 131 dX7_simulate_127 (by decide) ?_
                  refine k_callV C (y := yX7_comes) [.int (iI 17), .int (iI 0)] 2 rfl (c_X7_comes (x_l X) (x_G X) mo s sv tx fa ea go qu st ty u9.2 un om 17 0 17 nq kq mq s1 (rfl) (by decide) (by assumption) ((nxI_some (n := nq) (k := kq) (by omega)).1) (by first | exact Or.inl rfl | exact Or.inr rfl)) gX7_simulate_X7_comes rfl ⟨rfl, by decide +kernel, by decide +kernel, by decide +kernel⟩ ⟨by decide, by decide⟩ 0 (fs := [.ref s, .int (iI st), .ref sv, .ref tx, .int (iI ty), .int (iI u9.2), .ref fa, .ref ea, .ref go, .ref qu, .int (iI un), .int (iI om)]) rfl rfl rfl [0, 1] (by decide) (wc := [(mo, .inr (6, [.ref s, .int (iI st), .ref sv, .ref tx, .int (iI ty), .int (iI u9.2), .ref fa, .ref ea, .ref go, .ref qu, .int (iI un), .int (iI om)])), (s, .inl (g_I (x_G X), 756, .inl (aI s1)))]) rfl [] rfl (Nat.le_of_ble_eq_true rfl) ⟨Nat.le_of_ble_eq_true rfl, Nat.le_of_ble_eq_true rfl⟩ dX7_simulate_131 (fun u131 => [(mo, .inr (6, [.ref s, .int (iI st), .ref sv, .ref tx, .int (iI ty), .int (iI u9.2), .ref fa, .ref ea, .ref go, .ref qu, .int (iI un), .int (iI om)])), (s, .inl (g_I (x_G X), 756, .inl (aI u131))), (ea, .inl (g_I (x_G X), 40, .inl (aI fe))), (go, .inl (g_Z (x_G X), 100000, .inl (aI fg)))]) (Or.inr ⟨[2, 3], [2, 3, 0, 1], [(ea, .inl (g_I (x_G X), 40, .inl (aI fe))), (go, .inl (g_Z (x_G X), 100000, .inl (aI fg)))], rfl, by decide, by decide, by decide, fun _ => rfl⟩) (fun u131 => []) (fun _ => rfl) 0 0 ⟨rfl, rfl⟩ (fun u131 hu131 => ?_)
                  first | rw [if_pos rfl] at hu131 | rw [if_neg (by decide)] at hu131
                  have hM3 := hu131.1
                  have hO3 := hu131.2
                  first | (have tE : turn (trn (lcg xq)) nq kq mq = (nq, kq + 1, mq) := by rw [← hl, ← e52]; exact turn_2 (by omega) (by omega)) | (have tE : turn (trn (lcg xq)) nq kq mq = (nq, kq + 1, mq ||| 2 ^ kq) := by rw [← hl, ← e52]; exact turn_4 (by omega) (by omega))
                  obtain ⟨v134, e134⟩ : ∃ y : Int, y = i + 1 := ⟨_, rfl⟩
                  refine k_iinc C (lo' := [(6, .int (iI v134)), (7, .int (iI v52)), (4, .long (jL v45)), (0, .ref mo), (1, .long (jL sd)), (3, .int (iI N))]) 2 rfl dX7_simulate_134 (by decide) v134 e134 rfl ?_
                  refine k_goto C 30 dX7_simulate_137 (by decide) ?_
                  refine k_lo (lo' := [(6, .int (iI v134)), (4, .long (jL v45)), (0, .ref mo), (1, .long (jL sd)), (3, .int (iI N))]) [0, 2, 3, 4, 5] rfl ?_
                  exact ih30 _ _ _ v45 v134 u131 (⟨by omega, by omega, hM3, MO_t i4 hO3, by rw [← i5, show (N - i).toNat = (N - v134).toNat + 1 by omega, siF_s, tE, hl]⟩) (by omega)
            · skip
              refine k_aload_n C 3 rfl dX7_simulate_93 rfl ?_
              refine k_get C (Cn := RX7) (T := TX7) (N := 12) (ci := 6) (ref := "StruckCountsModel") in_X7_simulate_X7 0 rfl rfl 0 (by decide) 3 rfl rfl (v := .ref s) rfl dX7_simulate_94 ?_
              refine k_sipush C dX7_simulate_97 (by decide) ?_
              refine k_iconst C dX7_simulate_100 ?_
              refine k_iast C (f := s1) 1 rfl (⟨by omega, by omega⟩) (by decide) (fun gg => [(mo, .inr (6, [.ref s, .int (iI st), .ref sv, .ref tx, .int (iI ty), .int (iI u9.2), .ref fa, .ref ea, .ref go, .ref qu, .int (iI un), .int (iI om)])), (s, .inl (g_I (x_G X), 756, .inl (aI gg))), (ea, .inl (g_I (x_G X), 40, .inl (aI fe))), (go, .inl (g_Z (x_G X), 100000, .inl (aI fg)))]) (fun _ => rfl) dX7_simulate_101 (fun g101 e101 => ?_)
              obtain ⟨hM3, hO3⟩ := MS_ag (J := 17) i3 e101
              have tE : turn (trn (lcg xq)) nq kq mq = (nq, 0, 0) := by rw [← hl, ← e52]; exact turn_1 (by omega)
              refine k_goto C 134 dX7_simulate_102 (by decide) ?_
              obtain ⟨v134, e134⟩ : ∃ y : Int, y = i + 1 := ⟨_, rfl⟩
              refine k_iinc C (lo' := [(6, .int (iI v134)), (7, .int (iI v52)), (4, .long (jL v45)), (0, .ref mo), (1, .long (jL sd)), (3, .int (iI N))]) 2 rfl dX7_simulate_134 (by decide) v134 e134 rfl ?_
              refine k_goto C 30 dX7_simulate_137 (by decide) ?_
              refine k_lo (lo' := [(6, .int (iI v134)), (4, .long (jL v45)), (0, .ref mo), (1, .long (jL sd)), (3, .int (iI N))]) [0, 2, 3, 4, 5] rfl ?_
              exact ih30 _ _ _ v45 v134 g101 (⟨by omega, by omega, hM3, MO_t i4 hO3, by rw [← i5, show (N - i).toNat = (N - v134).toNat + 1 by omega, siF_s, tE, hl]⟩) (by omega)
          · skip
            refine k_aload_n C 3 rfl dX7_simulate_64 rfl ?_
            refine k_bipush C dX7_simulate_65 (by decide) ?_
            refine k_iconst C dX7_simulate_67 ?_
            refine k_iload C 0 rfl dX7_simulate_68 ?_
            refine k_bipush C dX7_simulate_70 (by decide) ?_
            refine k_idiv C ⟨by omega, by omega⟩ ⟨by omega, by omega⟩ dX7_simulate_72 ?_
            refine k_nmI (fun v72 e72 => ?_)
            refine k_sipush C dX7_simulate_73 (by decide) ?_
            refine k_irem C ⟨by omega, by omega⟩ ⟨by omega, by omega⟩ dX7_simulate_76 ?_
            refine k_nmI (fun v76 e76 => ?_)
            refine k_iadd C dX7_simulate_77 ?_
            refine k_nmI (fun v77 e77 => ?_)
            refine k_callV C (y := yX7_bounds) [.int (iI 17), .int (iI v77)] 2 rfl (c_X7_bounds (x_l X) (x_G X) mo s sv tx fa ea go qu st ty u9.2 un om 17 v77 17 v77.toNat s1 (rfl) (by decide) (by omega) (by omega)) gX7_simulate_X7_bounds rfl ⟨rfl, by decide +kernel, by decide +kernel, by decide +kernel⟩ ⟨by decide, by decide⟩ 0 (fs := [.ref s, .int (iI st), .ref sv, .ref tx, .int (iI ty), .int (iI u9.2), .ref fa, .ref ea, .ref go, .ref qu, .int (iI un), .int (iI om)]) rfl rfl rfl [0, 1] (by decide) (wc := [(mo, .inr (6, [.ref s, .int (iI st), .ref sv, .ref tx, .int (iI ty), .int (iI u9.2), .ref fa, .ref ea, .ref go, .ref qu, .int (iI un), .int (iI om)])), (s, .inl (g_I (x_G X), 756, .inl (aI s1)))]) rfl [] rfl (Nat.le_of_ble_eq_true rfl) ⟨Nat.le_of_ble_eq_true rfl, Nat.le_of_ble_eq_true rfl⟩ dX7_simulate_78 (fun u78 => [(mo, .inr (6, [.ref s, .int (iI st), .ref sv, .ref tx, .int (iI ty), .int (iI u9.2), .ref fa, .ref ea, .ref go, .ref qu, .int (iI un), .int (iI om)])), (s, .inl (g_I (x_G X), 756, .inl (aI u78))), (ea, .inl (g_I (x_G X), 40, .inl (aI fe))), (go, .inl (g_Z (x_G X), 100000, .inl (aI fg)))]) (Or.inr ⟨[2, 3], [2, 3, 0, 1], [(ea, .inl (g_I (x_G X), 40, .inl (aI fe))), (go, .inl (g_Z (x_G X), 100000, .inl (aI fg)))], rfl, by decide, by decide, by decide, fun _ => rfl⟩) (fun u78 => []) (fun _ => rfl) 0 0 ⟨rfl, rfl⟩ (fun u78 hu78 => ?_)
            have hM3 := hu78.1
            have hO3 := hu78.2
            have tE : turn (trn (lcg xq)) nq kq mq = (v77.toNat, 0, 0) := by rw [← hl, ← e52, turn_0 (by omega)]; exact congrArg (fun z => (z, 0, 0)) (by omega)
            refine k_goto C 134 dX7_simulate_81 (by decide) ?_
            obtain ⟨v134, e134⟩ : ∃ y : Int, y = i + 1 := ⟨_, rfl⟩
            refine k_iinc C (lo' := [(6, .int (iI v134)), (7, .int (iI v52)), (4, .long (jL v45)), (0, .ref mo), (1, .long (jL sd)), (3, .int (iI N))]) 2 rfl dX7_simulate_134 (by decide) v134 e134 rfl ?_
            refine k_goto C 30 dX7_simulate_137 (by decide) ?_
            refine k_lo (lo' := [(6, .int (iI v134)), (4, .long (jL v45)), (0, .ref mo), (1, .long (jL sd)), (3, .int (iI N))]) [0, 2, 3, 4, 5] rfl ?_
            exact ih30 _ _ _ v45 v134 u78 (⟨by omega, by omega, hM3, MO_t i4 hO3, by rw [← i5, show (N - i).toNat = (N - v134).toNat + 1 by omega, siF_s, tE, hl]⟩) (by omega)
    exact L30 _ n k m sd 0 u21 (⟨by omega, by omega, hM2, hu21.2, by rw [Int.sub_zero]⟩) (Nat.lt_succ_self _)
  · skip
    refine k_iconst C dX7_simulate_15 ?_
    exact k_iret C hR (u := (0, u9.2, fs, fg)) rfl (by (try dsimp only) <;> exact (⟨Or.inr ⟨by omega, by omega⟩, MO_r⟩)) rfl (Nat.le_of_ble_eq_true rfl) (Nat.le_of_ble_eq_true rfl) dX7_simulate_16
