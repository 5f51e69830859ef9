theorem mul_gap {z p q : Nat} (hp : 1 ≤ p) (h : z % p = 0) (h1 : p * (q + 1) ≤ z) (h2 : z < p * (q + 1) + p) : z = p * (q + 1) := by
  have e := Nat.div_add_mod z p
  rw [h, Nat.add_zero] at e
  have a1 : q + 1 ≤ z / p := (Nat.le_div_iff_mul_le hp).mpr (by rw [Nat.mul_comm]; exact h1)
  have a2 : z / p < q + 1 + 1 := (Nat.div_lt_iff_lt_mul hp).mpr (by rw [Nat.mul_comm, Nat.mul_succ]; exact h2)
  rw [← e, show z / p = q + 1 by omega]
def GnI (n m c : Nat) (g : Nat → Int) : Prop := ∀ z, 1 ≤ z → z ≤ n → g z = if al m c z = true then 0 else 1
def GnJ (n m c p : Nat) (y : Int) (g : Nat → Int) : Prop := ∀ z : Nat, 1 ≤ z → z ≤ n → g z = if al m c z = true ∧ ¬ (z % p = 0 ∧ (z : Int) < y) then 0 else 1
theorem GnI_0 {n m : Nat} {g : Nat → Int} (h : ∀ z, 1 ≤ z → z ≤ n → g z = 0) : GnI n m 0 g := fun z h1 h2 => by rw [h z h1 h2]; exact (if_pos rfl).symm
theorem GnI_no {n m c : Nat} {g : Nat → Int} (h : GnI n m c g) (hb : ¬ m.testBit c = true) : GnI n m (c + 1) g := fun z h1 h2 => by
  rw [h z h1 h2]
  have e : al m (c + 1) z = al m c z := by
    show (al m c z && !(m.testBit c && z % sp c == 0)) = _
    cases hh : m.testBit c
    · simp
    · exact absurd hh hb
  rw [e]
theorem GnJ_0 {n m c : Nat} {g : Nat → Int} (h : GnI n m c g) : GnJ n m c (sp c) ((sp c * (0 + 1) : Nat) : Int) g := fun z h1 h2 => by
  rw [h z h1 h2]
  have e : (al m c z = true ∧ ¬ (z % sp c = 0 ∧ (z : Int) < ((sp c * (0 + 1) : Nat) : Int))) ↔ al m c z = true := ⟨fun x => x.1, fun x => ⟨x, fun y => by
    have := y.2
    rw [Nat.zero_add, Nat.mul_one] at this
    have := Nat.mod_eq_of_lt (show z < sp c by omega)
    omega⟩⟩
  by_cases a : al m c z = true
  · rw [if_pos a, if_pos (e.mpr a)]
  · rw [if_neg a, if_neg (fun x => a (e.mp x))]
theorem GnJ_end {n m c : Nat} {y : Int} {g : Nat → Int} (h : GnJ n m c (sp c) y g) (hy : (n : Int) < y) (hb : m.testBit c = true) : GnI n m (c + 1) g := fun z h1 h2 => by
  rw [h z h1 h2]
  have e : al m (c + 1) z = (al m c z && !(z % sp c == 0)) := by
    show (al m c z && !(m.testBit c && z % sp c == 0)) = _
    rw [hb]; rfl
  rw [e]
  by_cases a : al m c z = true
  · by_cases b : z % sp c = 0
    · rw [if_neg (fun x => x.2 ⟨b, by omega⟩), if_neg (by rw [a, b]; decide)]
    · rw [if_pos ⟨a, fun x => b x.1⟩, if_pos (by rw [a]; simp [b])]
  · rw [if_neg (fun x => a x.1), if_neg (fun x => a (by rw [Bool.and_eq_true] at x; exact x.1))]
theorem GnJ_go {n m c p q : Nat} {y y2 : Int} {g g2 : Nat → Int} (hp : 1 ≤ p) (h : GnJ n m c p y g) (hy : y = ((p * (q + 1) : Nat) : Int)) (hy2 : y2 = y + p) (hg : g2 = upI g y.toNat 1) : GnJ n m c p y2 g2 := fun z h1 h2 => by
  rw [hg]
  by_cases e : z = y.toNat
  · rw [e, upI_s, if_neg]
    rintro ⟨_, b⟩
    exact b ⟨by rw [show y.toNat = p * (q + 1) by omega]; exact Nat.mul_mod_right p (q + 1), by omega⟩
  · rw [upI_n e, h z h1 h2]
    have e2 : (z % p = 0 ∧ (z : Int) < y) ↔ (z % p = 0 ∧ (z : Int) < y2) := ⟨fun x => ⟨x.1, by omega⟩, fun x => ⟨x.1, by
      by_cases a : (z : Int) < y
      · exact a
      · exact absurd (mul_gap (q := q) hp x.1 (by omega) (by omega)) (by omega)⟩⟩
    by_cases a : al m c z = true ∧ ¬ (z % p = 0 ∧ (z : Int) < y)
    · rw [if_pos a, if_pos ⟨a.1, fun x => a.2 (e2.mpr x)⟩]
    · rw [if_neg a, if_neg (fun x => a ⟨x.1, fun w => x.2 (e2.mp w)⟩)]

theorem in_X7_lays_X7 : ∀ w ∈ wsX70, w ∈ wsX7_lays := by decide +kernel
set_option maxHeartbeats 4000000 in
set_option maxRecDepth 100000 in
theorem c_X7_lays (l : Launch) (G : KG) (mo s sv tx fa ea go qu : Nat) (st ty th un om : Int) (j : Int) (J : Nat) (n k m : Nat) (fs fe fg : Nat → Int) (hj : j = (J : Int)) (hJ : J < 18) (hM : MS fs J n k m) (hE : ∀ i : Nat, i < 40 → fe i = (sp i : Int)) : Ct l G yX7_lays wsX7_lays (rmD 0 0 0) [.ref mo, .int (iI j)] [(mo, .inr (6, [.ref s, .int (iI st), .ref sv, .ref tx, .int (iI ty), .int (iI th), .ref fa, .ref ea, .ref go, .ref qu, .int (iI un), .int (iI om)])), (s, .inl (g_I G, 756, .inl (aI fs))), (ea, .inl (g_I G, 40, .inl (aI fe))), (go, .inl (g_Z G, 100000, .inl (aI fg)))] (fun u : Nat → Int => GnI n m k u) (fun u : Nat → Int => none) (fun u : Nat → Int => [(mo, .inr (6, [.ref s, .int (iI st), .ref sv, .ref tx, .int (iI ty), .int (iI th), .ref fa, .ref ea, .ref go, .ref qu, .int (iI un), .int (iI om)])), (s, .inl (g_I G, 756, .inl (aI fs))), (ea, .inl (g_I G, 40, .inl (aI fe))), (go, .inl (g_Z G, 100000, .inl (aI u)))]) := by
  refine Ct.of (cc := cX7_lays) (maxL := 5) (ret := none) (by decide +kernel) rfl (Nat.le_of_ble_eq_true rfl) ?_
  intro X C hG hL hnm hR
  subst hG
  subst hL
  have C : Cx X cX7_lays RX7 wsX7_lays none 5 (rmD 0 0 0) := C
  obtain ⟨m1, m2, m3, m4⟩ := id hM
  have mk : k ≤ 40 := m4.2.2.1
  have mn1 : 1 ≤ n := m4.1
  have mn2 : n ≤ 99999 := m4.2.1
  show K_ X 0 0 [(mo, .inr (6, [.ref s, .int (iI st), .ref sv, .ref tx, .int (iI ty), .int (iI th), .ref fa, .ref ea, .ref go, .ref qu, .int (iI un), .int (iI om)])), (s, .inl (g_I (x_G X), 756, .inl (aI fs))), (ea, .inl (g_I (x_G X), 40, .inl (aI fe))), (go, .inl (g_Z (x_G X), 100000, .inl (aI fg)))] 0 [(0, .ref mo), (1, .int (iI j))] []
  refine k_aload_n C 0 rfl dX7_lays_0 rfl ?_
  refine k_get C (Cn := RX7) (T := TX7) (N := 12) (ci := 6) (ref := "StruckCountsModel") in_X7_lays_X7 0 rfl rfl 0 (by decide) 1 rfl rfl (v := .ref s) rfl dX7_lays_1 ?_
  refine k_bipush C dX7_lays_4 (by decide) ?_
  refine k_iload_n C 1 rfl dX7_lays_6 rfl ?_
  refine k_imul C dX7_lays_7 ?_
  refine k_nmI (fun v7 e7 => ?_)
  refine k_iald C (f := fs) 1 rfl (⟨by omega, by omega⟩) (by decide) dX7_lays_8 ?_
  refine k_nmI (fun v8 e8 => ?_)
  have hn : v8 = (n : Int) := by rw [e8, show v7.toNat = 42 * J by omega]; exact m1
  refine k_istore_n C (lo' := [(2, .int (iI v8)), (0, .ref mo), (1, .int (iI j))]) dX7_lays_9 rfl (by decide) rfl ?_
  refine k_iconst C dX7_lays_10 ?_
  refine k_istore_n C (lo' := [(3, .int (iI 1)), (2, .int (iI v8)), (0, .ref mo), (1, .int (iI j))]) dX7_lays_11 rfl (by decide) rfl ?_
  have L12 : ∀ (nf : Nat) (i : Int) (g1 : Nat → Int), (1 ≤ i ∧ i ≤ (n : Int) + 1 ∧ ∀ z : Nat, 1 ≤ z → (z : Int) < i → g1 z = 0) → ((n : Int) + 1 - i).toNat < nf → K_ X 0 0 [(mo, .inr (6, [.ref s, .int (iI st), .ref sv, .ref tx, .int (iI ty), .int (iI th), .ref fa, .ref ea, .ref go, .ref qu, .int (iI un), .int (iI om)])), (s, .inl (g_I (x_G X), 756, .inl (aI fs))), (ea, .inl (g_I (x_G X), 40, .inl (aI fe))), (go, .inl (g_Z (x_G X), 100000, .inl (aI g1)))] 12 [(3, .int (iI i)), (2, .int (iI v8)), (0, .ref mo), (1, .int (iI j))] [] := by
    intro nf
    induction nf with
    | zero => intro i g1 hI hm; exact absurd hm (Nat.not_lt_zero _)
    | succ nf ih12 =>
      intro i g1 hI12 hm12
      obtain ⟨i1, i2, i3⟩ := hI12
      refine k_iload_n C 0 rfl dX7_lays_12 rfl ?_
      refine k_iload_n C 1 rfl dX7_lays_13 rfl ?_
      refine k_icmp_gt C 30 (⟨by omega, by omega⟩) (⟨by omega, by omega⟩) dX7_lays_14 (by decide) (fun c14 => ?_) (fun c14 => ?_)
      · skip
        refine k_iconst C dX7_lays_30 ?_
        refine k_istore_n C (lo' := [(3, .int (iI 0)), (2, .int (iI v8)), (0, .ref mo), (1, .int (iI j))]) dX7_lays_31 rfl (by decide) rfl ?_
        have L32 : ∀ (nf : Nat) (c : Int) (g2 : Nat → Int), (0 ≤ c ∧ c ≤ (k : Int) ∧ GnI n m c.toNat g2) → ((k : Int) - c).toNat < nf → K_ X 0 0 [(mo, .inr (6, [.ref s, .int (iI st), .ref sv, .ref tx, .int (iI ty), .int (iI th), .ref fa, .ref ea, .ref go, .ref qu, .int (iI un), .int (iI om)])), (s, .inl (g_I (x_G X), 756, .inl (aI fs))), (ea, .inl (g_I (x_G X), 40, .inl (aI fe))), (go, .inl (g_Z (x_G X), 100000, .inl (aI g2)))] 32 [(3, .int (iI c)), (2, .int (iI v8)), (0, .ref mo), (1, .int (iI j))] [] := by
          intro nf
          induction nf with
          | zero => intro c g2 hI hm; exact absurd hm (Nat.not_lt_zero _)
          | succ nf ih32 =>
            intro c g2 hI32 hm32
            obtain ⟨j1, j2, j3⟩ := hI32
            refine k_iload_n C 0 rfl dX7_lays_32 rfl ?_
            refine k_aload_n C 2 rfl dX7_lays_33 rfl ?_
            refine k_get C (Cn := RX7) (T := TX7) (N := 12) (ci := 6) (ref := "StruckCountsModel") in_X7_lays_X7 0 rfl rfl 0 (by decide) 1 rfl rfl (v := .ref s) rfl dX7_lays_34 ?_
            refine k_bipush C dX7_lays_37 (by decide) ?_
            refine k_iload_n C 3 rfl dX7_lays_39 rfl ?_
            refine k_imul C dX7_lays_40 ?_
            refine k_nmI (fun v40 e40 => ?_)
            refine k_iconst C dX7_lays_41 ?_
            refine k_iadd C dX7_lays_42 ?_
            refine k_nmI (fun v42 e42 => ?_)
            refine k_iald C (f := fs) 1 rfl (⟨by omega, by omega⟩) (by decide) dX7_lays_43 ?_
            refine k_nmI (fun v43 e43 => ?_)
            have h43 : v43 = (k : Int) := by rw [e43, show v42.toNat = 42 * J + 1 by omega]; exact m2
            refine k_icmp_ge C 106 (⟨by omega, by omega⟩) (⟨by omega, by omega⟩) dX7_lays_44 (by decide) (fun c44 => ?_) (fun c44 => ?_)
            · skip
              have hck : c.toNat = k := by omega
              rw [hck] at j3
              exact k_vret C hR (u := g2) rfl (j3) rfl (Nat.le_of_ble_eq_true rfl) (Nat.le_of_ble_eq_true rfl) dX7_lays_106
            · skip
              refine k_aload_n C 2 rfl dX7_lays_47 rfl ?_
              refine k_get C (Cn := RX7) (T := TX7) (N := 12) (ci := 6) (ref := "StruckCountsModel") in_X7_lays_X7 0 rfl rfl 0 (by decide) 1 rfl rfl (v := .ref s) rfl dX7_lays_48 ?_
              refine k_bipush C dX7_lays_51 (by decide) ?_
              refine k_iload_n C 3 rfl dX7_lays_53 rfl ?_
              refine k_imul C dX7_lays_54 ?_
              refine k_nmI (fun v54 e54 => ?_)
              refine k_iconst C dX7_lays_55 ?_
              refine k_iadd C dX7_lays_56 ?_
              refine k_nmI (fun v56 e56 => ?_)
              refine k_iload_n C 0 rfl dX7_lays_57 rfl ?_
              refine k_iadd C dX7_lays_58 ?_
              refine k_nmI (fun v58 e58 => ?_)
              refine k_iald C (f := fs) 1 rfl (⟨by omega, by omega⟩) (by decide) dX7_lays_59 ?_
              refine k_nmI (fun v59 e59 => ?_)
              have h59 : v59 = if m.testBit c.toNat = true then 1 else 0 := by rw [e59, show v58.toNat = 42 * J + 2 + c.toNat by omega]; exact m3 _ (by omega)
              have h59b : 0 ≤ v59 ∧ v59 ≤ 1 := by rw [h59]; split <;> omega
              refine k_iconst C dX7_lays_60 ?_
              refine k_icmp_ne C 100 (⟨by omega, by omega⟩) (⟨by omega, by omega⟩) dX7_lays_61 (by decide) (fun c61 => ?_) (fun c61 => ?_)
              · skip
                have hst : GnI n m (c.toNat + 1) g2 := GnI_no j3 (fun e => by rw [if_pos e] at h59; omega)
                obtain ⟨v100, e100⟩ : ∃ y : Int, y = c + 1 := ⟨_, rfl⟩
                refine k_iinc C (lo' := [(3, .int (iI v100)), (2, .int (iI v8)), (0, .ref mo), (1, .int (iI j))]) 0 rfl dX7_lays_100 (by decide) v100 e100 rfl ?_
                refine k_goto C 32 dX7_lays_103 (by decide) ?_
                exact ih32 v100 g2 (⟨by omega, by omega, by rw [show v100.toNat = c.toNat + 1 by omega]; exact hst⟩) (by omega)
              · skip
                have htb : m.testBit c.toNat = true := by (by_cases e : m.testBit c.toNat = true; (exact e); (rw [if_neg e] at h59; omega))
                refine k_aload_n C 2 rfl dX7_lays_64 rfl ?_
                refine k_get C (Cn := RX7) (T := TX7) (N := 12) (ci := 6) (ref := "StruckCountsModel") in_X7_lays_X7 0 rfl rfl 7 (by decide) 3 rfl rfl (v := .ref ea) rfl dX7_lays_65 ?_
                refine k_iload_n C 0 rfl dX7_lays_68 rfl ?_
                refine k_iald C (f := fe) 2 rfl (⟨by omega, by omega⟩) (by decide) dX7_lays_69 ?_
                refine k_nmI (fun v69 e69 => ?_)
                have h69 : v69 = (sp c.toNat : Int) := by rw [e69]; exact hE _ (by omega)
                have hs1 := sp_le (show c.toNat < 65 by omega)
                have hs2 := sp_ge2 (show c.toNat < 65 by omega)
                refine k_istore C (lo' := [(4, .int (iI v69)), (3, .int (iI c)), (2, .int (iI v8)), (0, .ref mo), (1, .int (iI j))]) dX7_lays_70 (by decide) rfl ?_
                have L72 : ∀ (nf : Nat) (q : Nat) (y : Int) (g3 : Nat → Int), (y = ((sp c.toNat * (q + 1) : Nat) : Int) ∧ y ≤ 100400 ∧ GnJ n m c.toNat (sp c.toNat) y g3) → ((n : Int) + 1 - y).toNat < nf → K_ X 0 0 [(mo, .inr (6, [.ref s, .int (iI st), .ref sv, .ref tx, .int (iI ty), .int (iI th), .ref fa, .ref ea, .ref go, .ref qu, .int (iI un), .int (iI om)])), (s, .inl (g_I (x_G X), 756, .inl (aI fs))), (ea, .inl (g_I (x_G X), 40, .inl (aI fe))), (go, .inl (g_Z (x_G X), 100000, .inl (aI g3)))] 72 [(4, .int (iI y)), (3, .int (iI c)), (2, .int (iI v8)), (0, .ref mo), (1, .int (iI j))] [] := by
                  intro nf
                  induction nf with
                  | zero => intro q y g3 hI hm; exact absurd hm (Nat.not_lt_zero _)
                  | succ nf ih72 =>
                    intro q y g3 hI72 hm72
                    obtain ⟨k1, k2, k3⟩ := hI72
                    have es : sp c.toNat * (q + 1 + 1) = sp c.toNat * (q + 1) + sp c.toNat := Nat.mul_succ _ _
                    have es0 : sp c.toNat * (q + 1) = sp c.toNat * q + sp c.toNat := Nat.mul_succ _ _
                    refine k_iload C 0 rfl dX7_lays_72 ?_
                    refine k_iload_n C 2 rfl dX7_lays_74 rfl ?_
                    refine k_icmp_gt C 100 (⟨by omega, by omega⟩) (⟨by omega, by omega⟩) dX7_lays_75 (by decide) (fun c75 => ?_) (fun c75 => ?_)
                    · skip
                      have hst : GnI n m (c.toNat + 1) g3 := GnJ_end k3 (by omega) htb
                      obtain ⟨v100, e100⟩ : ∃ y : Int, y = c + 1 := ⟨_, rfl⟩
                      refine k_iinc C (lo' := [(3, .int (iI v100)), (4, .int (iI y)), (2, .int (iI v8)), (0, .ref mo), (1, .int (iI j))]) 1 rfl dX7_lays_100 (by decide) v100 e100 rfl ?_
                      refine k_goto C 32 dX7_lays_103 (by decide) ?_
                      refine k_lo (lo' := [(3, .int (iI v100)), (2, .int (iI v8)), (0, .ref mo), (1, .int (iI j))]) [0, 2, 3, 4] rfl ?_
                      exact ih32 v100 g3 (⟨by omega, by omega, by rw [show v100.toNat = c.toNat + 1 by omega]; exact hst⟩) (by omega)
                    · skip
                      refine k_aload_n C 3 rfl dX7_lays_78 rfl ?_
                      refine k_get C (Cn := RX7) (T := TX7) (N := 12) (ci := 6) (ref := "StruckCountsModel") in_X7_lays_X7 0 rfl rfl 8 (by decide) 2 rfl rfl (v := .ref go) rfl dX7_lays_79 ?_
                      refine k_iload C 0 rfl dX7_lays_82 ?_
                      refine k_iconst C dX7_lays_84 ?_
                      refine k_zast C (f := g3) 3 rfl (⟨by omega, by omega⟩) (by decide) (by decide) (fun gg => [(mo, .inr (6, [.ref s, .int (iI st), .ref sv, .ref tx, .int (iI ty), .int (iI th), .ref fa, .ref ea, .ref go, .ref qu, .int (iI un), .int (iI om)])), (s, .inl (g_I (x_G X), 756, .inl (aI fs))), (ea, .inl (g_I (x_G X), 40, .inl (aI fe))), (go, .inl (g_Z (x_G X), 100000, .inl (aI gg)))]) (fun _ => rfl) dX7_lays_85 (fun g85 e85 => ?_)
                      refine k_iload C 0 rfl dX7_lays_86 ?_
                      refine k_aload_n C 3 rfl dX7_lays_88 rfl ?_
                      refine k_get C (Cn := RX7) (T := TX7) (N := 12) (ci := 6) (ref := "StruckCountsModel") in_X7_lays_X7 0 rfl rfl 7 (by decide) 3 rfl rfl (v := .ref ea) rfl dX7_lays_89 ?_
                      refine k_iload_n C 1 rfl dX7_lays_92 rfl ?_
                      refine k_iald C (f := fe) 2 rfl (⟨by omega, by omega⟩) (by decide) dX7_lays_93 ?_
                      refine k_nmI (fun v93 e93 => ?_)
                      have h93 : v93 = (sp c.toNat : Int) := by rw [e93]; exact hE _ (by omega)
                      refine k_iadd C dX7_lays_94 ?_
                      refine k_nmI (fun v94 e94 => ?_)
                      refine k_istore C (lo' := [(4, .int (iI v94)), (3, .int (iI c)), (2, .int (iI v8)), (0, .ref mo), (1, .int (iI j))]) dX7_lays_95 (by decide) rfl ?_
                      refine k_goto C 72 dX7_lays_97 (by decide) ?_
                      exact ih72 (q + 1) v94 g85 (⟨by omega, by omega, GnJ_go (q := q) (by omega) k3 k1 (by omega) e85⟩) (by omega)
                exact L72 _ 0 v69 g2 (⟨by rw [h69, Nat.zero_add, Nat.mul_one], by omega, by rw [h69]; have := GnJ_0 j3; rwa [Nat.zero_add, Nat.mul_one] at this⟩) (Nat.lt_succ_self _)
        exact L32 _ 0 g1 (⟨by omega, by omega, GnI_0 (fun z h1 h2 => i3 z h1 (by omega))⟩) (Nat.lt_succ_self _)
      · skip
        refine k_aload_n C 2 rfl dX7_lays_17 rfl ?_
        refine k_get C (Cn := RX7) (T := TX7) (N := 12) (ci := 6) (ref := "StruckCountsModel") in_X7_lays_X7 0 rfl rfl 8 (by decide) 2 rfl rfl (v := .ref go) rfl dX7_lays_18 ?_
        refine k_iload_n C 0 rfl dX7_lays_21 rfl ?_
        refine k_iconst C dX7_lays_22 ?_
        refine k_zast C (f := g1) 3 rfl (⟨by omega, by omega⟩) (by decide) (by decide) (fun gg => [(mo, .inr (6, [.ref s, .int (iI st), .ref sv, .ref tx, .int (iI ty), .int (iI th), .ref fa, .ref ea, .ref go, .ref qu, .int (iI un), .int (iI om)])), (s, .inl (g_I (x_G X), 756, .inl (aI fs))), (ea, .inl (g_I (x_G X), 40, .inl (aI fe))), (go, .inl (g_Z (x_G X), 100000, .inl (aI gg)))]) (fun _ => rfl) dX7_lays_23 (fun g23 e23 => ?_)
        obtain ⟨v24, e24⟩ : ∃ y : Int, y = i + 1 := ⟨_, rfl⟩
        refine k_iinc C (lo' := [(3, .int (iI v24)), (2, .int (iI v8)), (0, .ref mo), (1, .int (iI j))]) 0 rfl dX7_lays_24 (by decide) v24 e24 rfl ?_
        refine k_goto C 12 dX7_lays_27 (by decide) ?_
        exact ih12 v24 g23 (⟨by omega, by omega, fun z h1 h2 => by (by_cases e : z = i.toNat; (rw [e23, e, upI_s]); (rw [e23, upI_n e]; exact i3 z h1 (by omega)))⟩) (by omega)
  exact L12 _ 1 fg (⟨by omega, by omega, fun z h1 h2 => absurd h2 (by omega)⟩) (Nat.lt_succ_self _)
