/-! the sieve -/
def SvF (x : Int) (f : Nat → Int) : Prop := ∀ y : Nat, 2 ≤ y → y ≤ 99999 → f y = if (lf y : Int) < x then (lf y : Int) else 0
def SvG (x : Nat) (y : Int) (f : Nat → Int) : Prop := ∀ z : Nat, 2 ≤ z → z ≤ 99999 → f z = if lf z < x ∨ (lf z = x ∧ (z : Int) < y) then (lf z : Int) else 0
theorem SvF_0 {f : Nat → Int} (h : ∀ y, f y = 0) : SvF 2 f := fun y h1 _ => by
  have := (lf_spec h1).1
  rw [h y, if_neg (by omega)]
theorem SvG_0 {x : Nat} {xi : Int} {f : Nat → Int} (h : SvF xi f) (hx : xi = (x : Int)) : SvG x ((x * (0 + 1) : Nat) : Int) f := fun z h1 h2 => by
  rw [h z h1 h2]
  have hle := lf_le h1
  have e : ((lf z : Int) < xi) ↔ (lf z < x ∨ (lf z = x ∧ (z : Int) < ((x * (0 + 1) : Nat) : Int))) := by
    rw [Nat.zero_add, Nat.mul_one]; omega
  by_cases a : (lf z : Int) < xi
  · rw [if_pos a, if_pos (e.mp a)]
  · rw [if_neg a, if_neg (fun w => a (e.mpr w))]
theorem SvG_end {x : Nat} {y xi : Int} {f : Nat → Int} (h : SvG x y f) (hy : 99999 < y) (hx : xi = (x : Int) + 1) : SvF xi f := fun z h1 h2 => by
  rw [h z h1 h2]
  by_cases a : (lf z : Int) < xi
  · rw [if_pos a, if_pos (by omega)]
  · rw [if_neg a, if_neg (by omega)]
theorem SvF_no {x : Nat} {xi x2 : Int} {f : Nat → Int} (h : SvF xi f) (hx : xi = (x : Int)) (h2 : 2 ≤ x ∧ x ≤ 99999) (hn : ¬ f x = 0) (hx2 : x2 = xi + 1) : SvF x2 f := fun z h1 h3 => by
  rw [h z h1 h3]
  have e0 := h x h2.1 h2.2
  have hlt : lf x < x := by
    by_cases a : (lf x : Int) < xi
    · omega
    · rw [if_neg a] at e0; exact absurd e0 hn
  have hz : lf z ≠ x := fun e => by
    have := isP_iff.mp (lf_isP h1)
    rw [e] at this
    omega
  by_cases a : (lf z : Int) < xi
  · rw [if_pos a, if_pos (by omega)]
  · rw [if_neg a, if_neg (by omega)]
theorem SvG_go {x q : Nat} {y y2 v w : Int} {f g : Nat → Int} (h : SvG x y f) (hx : 2 ≤ x) (hy : y = ((x * (q + 1) : Nat) : Int)) (hy3 : y ≤ 99999) (hv : v = f y.toNat) (hw : (v = 0 ∧ w = (x : Int)) ∨ (¬ v = 0 ∧ w = v)) (hg : g = upI f y.toNat w) (hy2 : y2 = y + x) : SvG x y2 g := by
  have hyx : x ≤ x * (q + 1) := by rw [Nat.mul_succ]; omega
  have hd : x ∣ y.toNat := by rw [hy, Int.toNat_natCast]; exact Nat.dvd_mul_right x (q + 1)
  have hl := (lf_spec (x := y.toNat) (by omega)).2.2 x hx hd
  have e0 := h y.toNat (by omega) (by omega)
  intro z h1 h2
  rw [hg]
  by_cases e : z = y.toNat
  · subst e
    rw [upI_s]
    have c1 : lf y.toNat < x ∨ (lf y.toNat = x ∧ ((y.toNat : Nat) : Int) < y2) := by omega
    rw [if_pos c1]
    by_cases a : lf y.toNat < x ∨ (lf y.toNat = x ∧ ((y.toNat : Nat) : Int) < y)
    · rw [if_pos a] at e0
      have := (lf_spec (x := y.toNat) (by omega)).1
      omega
    · rw [if_neg a] at e0
      omega
  · rw [upI_n e, h z h1 h2]
    have e2 : (lf z < x ∨ (lf z = x ∧ (z : Int) < y)) ↔ (lf z < x ∨ (lf z = x ∧ (z : Int) < y2)) := ⟨fun w => by omega, fun w => by
      rcases w with w | w
      · exact Or.inl w
      · refine Or.inr ⟨w.1, ?_⟩
        by_cases a : (z : Int) < y
        · exact a
        · have hdz : z % x = 0 := Nat.mod_eq_zero_of_dvd (w.1 ▸ (lf_spec h1).2.1)
          exact absurd (mul_gap (q := q) (by omega) hdz (by omega) (by omega)) (by omega)⟩
    by_cases a : lf z < x ∨ (lf z = x ∧ (z : Int) < y)
    · rw [if_pos a, if_pos (e2.mp a)]
    · rw [if_neg a, if_neg (fun w => a (e2.mpr w))]
theorem SvF_rng {x : Int} {f : Nat → Int} (h : SvF x f) {y : Nat} (h1 : 2 ≤ y) (h2 : y ≤ 99999) : 0 ≤ f y ∧ f y ≤ 99999 := by
  have := lf_le h1
  rw [h y h1 h2]; split <;> omega
theorem SvG_rng {x : Nat} {z : Int} {f : Nat → Int} (h : SvG x z f) {y : Nat} (h1 : 2 ≤ y) (h2 : y ≤ 99999) : 0 ≤ f y ∧ f y ≤ 99999 := by
  have := lf_le h1
  rw [h y h1 h2]; split <;> omega
theorem SvF_all {x : Int} {f : Nat → Int} (h : SvF x f) (hx : 99999 < x) : ∀ y : Nat, 2 ≤ y → y ≤ 99999 → f y = (lf y : Int) := fun y h1 h2 => by
  have := lf_le h1
  rw [h y h1 h2, if_pos (by omega)]
def EaI (c x : Int) (f : Nat → Int) : Prop := (0 ≤ c ∧ c ≤ 40) ∧ (2 ≤ x ∧ x ≤ (sp c.toNat : Int)) ∧ (∀ i : Nat, i < c.toNat → f i = (sp i : Int)) ∧ (∀ i : Nat, i < c.toNat → (sp i : Int) < x)
theorem EaI_0 {f : Nat → Int} : EaI 0 2 f := ⟨by omega, ⟨by omega, by decide⟩, fun i h => absurd h (Nat.not_lt_zero i), fun i h => absurd h (Nat.not_lt_zero i)⟩
theorem EaI_no {c x x2 : Int} {f : Nat → Int} (h : EaI c x f) (hc : c < 40) (hn : ¬ lf x.toNat = x.toNat) (hx : x2 = x + 1) : EaI c x2 f := by
  obtain ⟨h1, h2, h3, h4⟩ := h
  have : ¬ x = (sp c.toNat : Int) := fun e => hn (by
    have := (isP_iff.mp (sp_isP (show c.toNat < 65 by omega))).2
    rw [show x.toNat = sp c.toNat by omega]; exact this)
  exact ⟨h1, by omega, h3, fun i hi => by have := h4 i hi; omega⟩
theorem EaI_go {c c2 x x2 : Int} {f g : Nat → Int} (h : EaI c x f) (hc : c < 40) (hn : lf x.toNat = x.toNat) (hx : x2 = x + 1) (hc2 : c2 = c + 1) (hg : g = upI f c.toNat x) : EaI c2 x2 g := by
  obtain ⟨h1, h2, h3, h4⟩ := h
  have hl := sp_le (show c.toNat < 65 by omega)
  have hp : isP x.toNat = true := isP_iff.mpr ⟨by omega, hn⟩
  obtain ⟨i, hi, e⟩ := sp_all (show x.toNat < 317 by omega) hp
  have hi1 : ¬ i < c.toNat := fun z => by have := h4 i z; omega
  have hi2 : ¬ c.toNat < i := fun z => by have := sp_lt z hi; omega
  have hic : i = c.toNat := by omega
  subst hic
  have hlt := sp_lt1 (show c.toNat + 1 < 65 by omega)
  refine ⟨by omega, ⟨by omega, by rw [show c2.toNat = c.toNat + 1 by omega]; omega⟩, fun j hj => ?_, fun j hj => ?_⟩
  · rw [hg]
    by_cases z : j = c.toNat
    · subst z; rw [upI_s]; omega
    · rw [upI_n z]; exact h3 j (by omega)
  · by_cases z : j = c.toNat
    · subst z; omega
    · have := h4 j (by omega); omega
theorem MS_first {f : Nat → Int} (h : f = upI (fun _ => 0) 0 100) : MS f 0 100 0 0 := ⟨by rw [h]; rfl, by rw [h]; rfl, fun i hi => absurd hi (Nat.not_lt_zero i), ⟨by decide, by decide, by decide, by decide⟩⟩

theorem in_X7_init_X7 : ∀ w ∈ wsX70, w ∈ wsX7_init := by decide +kernel
set_option maxHeartbeats 4000000 in
set_option maxRecDepth 100000 in
theorem c_X7_init (l : Launch) (G : KG) (mo : Nat)  : Ct l G yX7_init wsX7_init (rmD 1 7 201558) [.ref mo] [(mo, .inr (6, [.null, .int (iI 0), .null, .null, .int (iI 0), .int (iI 0), .null, .null, .null, .null, .int (iI 0), .int (iI 0)]))] (fun u : (Nat × Nat × Nat × Nat) × (Nat × Nat × Nat) × (Nat → Int) × (Nat → Int) × (Nat → Int) => MS u.2.2.1 0 100 0 0 ∧ (∀ x : Nat, 2 ≤ x → x ≤ 99999 → u.2.2.2.1 x = (lf x : Int)) ∧ (∀ i : Nat, i < 40 → u.2.2.2.2 i = (sp i : Int))) (fun u : (Nat × Nat × Nat × Nat) × (Nat × Nat × Nat) × (Nat → Int) × (Nat → Int) × (Nat → Int) => none) (fun u : (Nat × Nat × Nat × Nat) × (Nat × Nat × Nat) × (Nat → Int) × (Nat → Int) × (Nat → Int) => [(mo, .inr (6, [.ref u.1.1, .int (iI 0), .ref u.1.2.1, .ref u.1.2.2.1, .int (iI 0), .int (iI 0), .ref u.1.2.2.2, .ref u.2.1.1, .ref u.2.1.2.1, .ref u.2.1.2.2, .int (iI 0), .int (iI 0)])), (u.1.1, .inl (g_I G, 756, .inl (aI u.2.2.1))), (u.1.2.1, .inl (g_Z G, 2, .inl (aI (fun _ => 0)))), (u.1.2.2.1, .inl (g_C G, 60, .inl (aI (fun _ => 0)))), (u.1.2.2.2, .inl (g_I G, 100000, .inl (aI u.2.2.2.1))), (u.2.1.1, .inl (g_I G, 40, .inl (aI u.2.2.2.2))), (u.2.1.2.1, .inl (g_Z G, 100000, .inl (aI (fun _ => 0)))), (u.2.1.2.2, .inl (g_I G, 700, .inl (aI (fun _ => 0))))]) := by
  refine Ct.of (cc := cX7_init) (maxL := 3) (ret := none) (by decide +kernel) rfl (Nat.le_of_ble_eq_true rfl) ?_
  intro X C hG hL hnm hR
  subst hG
  subst hL
  have C : Cx X cX7_init RX7 wsX7_init none 3 (rmD 1 7 201558) := C
  show K_ X 0 0 [(mo, .inr (6, [.null, .int (iI 0), .null, .null, .int (iI 0), .int (iI 0), .null, .null, .null, .null, .int (iI 0), .int (iI 0)]))] 0 [(0, .ref mo)] []
  refine k_aload_n C 0 rfl dX7_init_0 rfl ?_
  refine k_objInit C 1 2 3 rfl rfl rfl (by decide) (Nat.le_of_ble_eq_true rfl) dX7_init_1 ?_
  refine k_aload_n C 0 rfl dX7_init_4 rfl ?_
  refine k_sipush C dX7_init_5 (by decide) ?_
  refine k_newI C 756 rfl (by decide) 4 rfl (Nat.le_of_ble_eq_true rfl) (Nat.le_of_ble_eq_true rfl) dX7_init_8 (fun q8 => ?_)
  refine k_eq (ws2 := [(mo, .inr (6, [.null, .int (iI 0), .null, .null, .int (iI 0), .int (iI 0), .null, .null, .null, .null, .int (iI 0), .int (iI 0)])), (q8, .inl (g_I (x_G X), 756, .inl (aI (fun _ => 0))))]) (st2 := [.ref q8, .ref mo]) rfl rfl rfl rfl ?_
  refine k_wide (k2 := 1) (j2 := 756) (Nat.le_refl _) (Nat.le_refl _) ?_
  refine k_putF C (Cn := RX7) (T := TX7) (N := 12) (ci := 6) (ref := "StruckCountsModel") in_X7_init_X7 tyX7 tyX7_ok nmX7 0 rfl rfl 0 (by decide) 5 rfl rfl rfl hnm rfl (v := .ref q8) (rfl) (rfl) (Nat.le_of_ble_eq_true rfl) [(mo, .inr (6, [.ref q8, .int (iI 0), .null, .null, .int (iI 0), .int (iI 0), .null, .null, .null, .null, .int (iI 0), .int (iI 0)])), (q8, .inl (g_I (x_G X), 756, .inl (aI (fun _ => 0))))] rfl dX7_init_10 ?_
  refine k_aload_n C 0 rfl dX7_init_13 rfl ?_
  refine k_iconst C dX7_init_14 ?_
  refine k_newZ C 2 rfl (by decide) 6 rfl (Nat.le_of_ble_eq_true rfl) (Nat.le_of_ble_eq_true rfl) dX7_init_15 (fun q15 => ?_)
  refine k_eq (ws2 := [(mo, .inr (6, [.ref q8, .int (iI 0), .null, .null, .int (iI 0), .int (iI 0), .null, .null, .null, .null, .int (iI 0), .int (iI 0)])), (q8, .inl (g_I (x_G X), 756, .inl (aI (fun _ => 0)))), (q15, .inl (g_Z (x_G X), 2, .inl (aI (fun _ => 0))))]) (st2 := [.ref q15, .ref mo]) rfl rfl rfl rfl ?_
  refine k_wide (k2 := 2) (j2 := 758) (Nat.le_refl _) (Nat.le_refl _) ?_
  refine k_putF C (Cn := RX7) (T := TX7) (N := 12) (ci := 6) (ref := "StruckCountsModel") in_X7_init_X7 tyX7 tyX7_ok nmX7 0 rfl rfl 2 (by decide) 7 rfl rfl rfl hnm rfl (v := .ref q15) (rfl) (rfl) (Nat.le_of_ble_eq_true rfl) [(mo, .inr (6, [.ref q8, .int (iI 0), .ref q15, .null, .int (iI 0), .int (iI 0), .null, .null, .null, .null, .int (iI 0), .int (iI 0)])), (q8, .inl (g_I (x_G X), 756, .inl (aI (fun _ => 0)))), (q15, .inl (g_Z (x_G X), 2, .inl (aI (fun _ => 0))))] rfl dX7_init_17 ?_
  refine k_aload_n C 0 rfl dX7_init_20 rfl ?_
  refine k_bipush C dX7_init_21 (by decide) ?_
  refine k_newC C 60 rfl (by decide) 8 rfl (Nat.le_of_ble_eq_true rfl) (Nat.le_of_ble_eq_true rfl) dX7_init_23 (fun q23 => ?_)
  refine k_eq (ws2 := [(mo, .inr (6, [.ref q8, .int (iI 0), .ref q15, .null, .int (iI 0), .int (iI 0), .null, .null, .null, .null, .int (iI 0), .int (iI 0)])), (q8, .inl (g_I (x_G X), 756, .inl (aI (fun _ => 0)))), (q15, .inl (g_Z (x_G X), 2, .inl (aI (fun _ => 0)))), (q23, .inl (g_C (x_G X), 60, .inl (aI (fun _ => 0))))]) (st2 := [.ref q23, .ref mo]) rfl rfl rfl rfl ?_
  refine k_wide (k2 := 3) (j2 := 818) (Nat.le_refl _) (Nat.le_refl _) ?_
  refine k_putF C (Cn := RX7) (T := TX7) (N := 12) (ci := 6) (ref := "StruckCountsModel") in_X7_init_X7 tyX7 tyX7_ok nmX7 0 rfl rfl 3 (by decide) 9 rfl rfl rfl hnm rfl (v := .ref q23) (rfl) (rfl) (Nat.le_of_ble_eq_true rfl) [(mo, .inr (6, [.ref q8, .int (iI 0), .ref q15, .ref q23, .int (iI 0), .int (iI 0), .null, .null, .null, .null, .int (iI 0), .int (iI 0)])), (q8, .inl (g_I (x_G X), 756, .inl (aI (fun _ => 0)))), (q15, .inl (g_Z (x_G X), 2, .inl (aI (fun _ => 0)))), (q23, .inl (g_C (x_G X), 60, .inl (aI (fun _ => 0))))] rfl dX7_init_25 ?_
  refine k_aload_n C 0 rfl dX7_init_28 rfl ?_
  refine k_ldc C 100000 10 rfl (by decide) dX7_init_29 ?_
  refine k_newI C 100000 rfl (by decide) 4 rfl (Nat.le_of_ble_eq_true rfl) (Nat.le_of_ble_eq_true rfl) dX7_init_31 (fun q31 => ?_)
  refine k_eq (ws2 := [(mo, .inr (6, [.ref q8, .int (iI 0), .ref q15, .ref q23, .int (iI 0), .int (iI 0), .null, .null, .null, .null, .int (iI 0), .int (iI 0)])), (q8, .inl (g_I (x_G X), 756, .inl (aI (fun _ => 0)))), (q15, .inl (g_Z (x_G X), 2, .inl (aI (fun _ => 0)))), (q23, .inl (g_C (x_G X), 60, .inl (aI (fun _ => 0)))), (q31, .inl (g_I (x_G X), 100000, .inl (aI (fun _ => 0))))]) (st2 := [.ref q31, .ref mo]) rfl rfl rfl rfl ?_
  refine k_wide (k2 := 4) (j2 := 100818) (Nat.le_refl _) (Nat.le_refl _) ?_
  refine k_putF C (Cn := RX7) (T := TX7) (N := 12) (ci := 6) (ref := "StruckCountsModel") in_X7_init_X7 tyX7 tyX7_ok nmX7 0 rfl rfl 6 (by decide) 11 rfl rfl rfl hnm rfl (v := .ref q31) (rfl) (rfl) (Nat.le_of_ble_eq_true rfl) [(mo, .inr (6, [.ref q8, .int (iI 0), .ref q15, .ref q23, .int (iI 0), .int (iI 0), .ref q31, .null, .null, .null, .int (iI 0), .int (iI 0)])), (q8, .inl (g_I (x_G X), 756, .inl (aI (fun _ => 0)))), (q15, .inl (g_Z (x_G X), 2, .inl (aI (fun _ => 0)))), (q23, .inl (g_C (x_G X), 60, .inl (aI (fun _ => 0)))), (q31, .inl (g_I (x_G X), 100000, .inl (aI (fun _ => 0))))] rfl dX7_init_33 ?_
  refine k_aload_n C 0 rfl dX7_init_36 rfl ?_
  refine k_bipush C dX7_init_37 (by decide) ?_
  refine k_newI C 40 rfl (by decide) 4 rfl (Nat.le_of_ble_eq_true rfl) (Nat.le_of_ble_eq_true rfl) dX7_init_39 (fun q39 => ?_)
  refine k_eq (ws2 := [(mo, .inr (6, [.ref q8, .int (iI 0), .ref q15, .ref q23, .int (iI 0), .int (iI 0), .ref q31, .null, .null, .null, .int (iI 0), .int (iI 0)])), (q8, .inl (g_I (x_G X), 756, .inl (aI (fun _ => 0)))), (q15, .inl (g_Z (x_G X), 2, .inl (aI (fun _ => 0)))), (q23, .inl (g_C (x_G X), 60, .inl (aI (fun _ => 0)))), (q31, .inl (g_I (x_G X), 100000, .inl (aI (fun _ => 0)))), (q39, .inl (g_I (x_G X), 40, .inl (aI (fun _ => 0))))]) (st2 := [.ref q39, .ref mo]) rfl rfl rfl rfl ?_
  refine k_wide (k2 := 5) (j2 := 100858) (Nat.le_refl _) (Nat.le_refl _) ?_
  refine k_putF C (Cn := RX7) (T := TX7) (N := 12) (ci := 6) (ref := "StruckCountsModel") in_X7_init_X7 tyX7 tyX7_ok nmX7 0 rfl rfl 7 (by decide) 12 rfl rfl rfl hnm rfl (v := .ref q39) (rfl) (rfl) (Nat.le_of_ble_eq_true rfl) [(mo, .inr (6, [.ref q8, .int (iI 0), .ref q15, .ref q23, .int (iI 0), .int (iI 0), .ref q31, .ref q39, .null, .null, .int (iI 0), .int (iI 0)])), (q8, .inl (g_I (x_G X), 756, .inl (aI (fun _ => 0)))), (q15, .inl (g_Z (x_G X), 2, .inl (aI (fun _ => 0)))), (q23, .inl (g_C (x_G X), 60, .inl (aI (fun _ => 0)))), (q31, .inl (g_I (x_G X), 100000, .inl (aI (fun _ => 0)))), (q39, .inl (g_I (x_G X), 40, .inl (aI (fun _ => 0))))] rfl dX7_init_41 ?_
  refine k_aload_n C 0 rfl dX7_init_44 rfl ?_
  refine k_ldc C 100000 10 rfl (by decide) dX7_init_45 ?_
  refine k_newZ C 100000 rfl (by decide) 6 rfl (Nat.le_of_ble_eq_true rfl) (Nat.le_of_ble_eq_true rfl) dX7_init_47 (fun q47 => ?_)
  refine k_eq (ws2 := [(mo, .inr (6, [.ref q8, .int (iI 0), .ref q15, .ref q23, .int (iI 0), .int (iI 0), .ref q31, .ref q39, .null, .null, .int (iI 0), .int (iI 0)])), (q8, .inl (g_I (x_G X), 756, .inl (aI (fun _ => 0)))), (q15, .inl (g_Z (x_G X), 2, .inl (aI (fun _ => 0)))), (q23, .inl (g_C (x_G X), 60, .inl (aI (fun _ => 0)))), (q31, .inl (g_I (x_G X), 100000, .inl (aI (fun _ => 0)))), (q39, .inl (g_I (x_G X), 40, .inl (aI (fun _ => 0)))), (q47, .inl (g_Z (x_G X), 100000, .inl (aI (fun _ => 0))))]) (st2 := [.ref q47, .ref mo]) rfl rfl rfl rfl ?_
  refine k_wide (k2 := 6) (j2 := 200858) (Nat.le_refl _) (Nat.le_refl _) ?_
  refine k_putF C (Cn := RX7) (T := TX7) (N := 12) (ci := 6) (ref := "StruckCountsModel") in_X7_init_X7 tyX7 tyX7_ok nmX7 0 rfl rfl 8 (by decide) 13 rfl rfl rfl hnm rfl (v := .ref q47) (rfl) (rfl) (Nat.le_of_ble_eq_true rfl) [(mo, .inr (6, [.ref q8, .int (iI 0), .ref q15, .ref q23, .int (iI 0), .int (iI 0), .ref q31, .ref q39, .ref q47, .null, .int (iI 0), .int (iI 0)])), (q8, .inl (g_I (x_G X), 756, .inl (aI (fun _ => 0)))), (q15, .inl (g_Z (x_G X), 2, .inl (aI (fun _ => 0)))), (q23, .inl (g_C (x_G X), 60, .inl (aI (fun _ => 0)))), (q31, .inl (g_I (x_G X), 100000, .inl (aI (fun _ => 0)))), (q39, .inl (g_I (x_G X), 40, .inl (aI (fun _ => 0)))), (q47, .inl (g_Z (x_G X), 100000, .inl (aI (fun _ => 0))))] rfl dX7_init_49 ?_
  refine k_aload_n C 0 rfl dX7_init_52 rfl ?_
  refine k_sipush C dX7_init_53 (by decide) ?_
  refine k_newI C 700 rfl (by decide) 4 rfl (Nat.le_of_ble_eq_true rfl) (Nat.le_of_ble_eq_true rfl) dX7_init_56 (fun q56 => ?_)
  refine k_eq (ws2 := [(mo, .inr (6, [.ref q8, .int (iI 0), .ref q15, .ref q23, .int (iI 0), .int (iI 0), .ref q31, .ref q39, .ref q47, .null, .int (iI 0), .int (iI 0)])), (q8, .inl (g_I (x_G X), 756, .inl (aI (fun _ => 0)))), (q15, .inl (g_Z (x_G X), 2, .inl (aI (fun _ => 0)))), (q23, .inl (g_C (x_G X), 60, .inl (aI (fun _ => 0)))), (q31, .inl (g_I (x_G X), 100000, .inl (aI (fun _ => 0)))), (q39, .inl (g_I (x_G X), 40, .inl (aI (fun _ => 0)))), (q47, .inl (g_Z (x_G X), 100000, .inl (aI (fun _ => 0)))), (q56, .inl (g_I (x_G X), 700, .inl (aI (fun _ => 0))))]) (st2 := [.ref q56, .ref mo]) rfl rfl rfl rfl ?_
  refine k_wide (k2 := 7) (j2 := 201558) (Nat.le_refl _) (Nat.le_refl _) ?_
  refine k_putF C (Cn := RX7) (T := TX7) (N := 12) (ci := 6) (ref := "StruckCountsModel") in_X7_init_X7 tyX7 tyX7_ok nmX7 0 rfl rfl 9 (by decide) 14 rfl rfl rfl hnm rfl (v := .ref q56) (rfl) (rfl) (Nat.le_of_ble_eq_true rfl) [(mo, .inr (6, [.ref q8, .int (iI 0), .ref q15, .ref q23, .int (iI 0), .int (iI 0), .ref q31, .ref q39, .ref q47, .ref q56, .int (iI 0), .int (iI 0)])), (q8, .inl (g_I (x_G X), 756, .inl (aI (fun _ => 0)))), (q15, .inl (g_Z (x_G X), 2, .inl (aI (fun _ => 0)))), (q23, .inl (g_C (x_G X), 60, .inl (aI (fun _ => 0)))), (q31, .inl (g_I (x_G X), 100000, .inl (aI (fun _ => 0)))), (q39, .inl (g_I (x_G X), 40, .inl (aI (fun _ => 0)))), (q47, .inl (g_Z (x_G X), 100000, .inl (aI (fun _ => 0)))), (q56, .inl (g_I (x_G X), 700, .inl (aI (fun _ => 0))))] rfl dX7_init_58 ?_
  refine k_iconst C dX7_init_61 ?_
  refine k_istore_n C (lo' := [(1, .int (iI 2)), (0, .ref mo)]) dX7_init_62 rfl (by decide) rfl ?_
  have L63 : ∀ (nf : Nat) (x : Int) (f1 : Nat → Int), (2 ≤ x ∧ x ≤ 100000 ∧ SvF x f1) → (100000 - x).toNat < nf → K_ X 7 201558 [(mo, .inr (6, [.ref q8, .int (iI 0), .ref q15, .ref q23, .int (iI 0), .int (iI 0), .ref q31, .ref q39, .ref q47, .ref q56, .int (iI 0), .int (iI 0)])), (q8, .inl (g_I (x_G X), 756, .inl (aI (fun _ => 0)))), (q15, .inl (g_Z (x_G X), 2, .inl (aI (fun _ => 0)))), (q23, .inl (g_C (x_G X), 60, .inl (aI (fun _ => 0)))), (q31, .inl (g_I (x_G X), 100000, .inl (aI f1))), (q39, .inl (g_I (x_G X), 40, .inl (aI (fun _ => 0)))), (q47, .inl (g_Z (x_G X), 100000, .inl (aI (fun _ => 0)))), (q56, .inl (g_I (x_G X), 700, .inl (aI (fun _ => 0))))] 63 [(1, .int (iI x)), (0, .ref mo)] [] := by
    intro nf
    induction nf with
    | zero => intro x f1 hI hm; exact absurd hm (Nat.not_lt_zero _)
    | succ nf ih63 =>
      intro x f1 hI63 hm63
      obtain ⟨i1, i2, i3⟩ := hI63
      refine k_iload_n C 0 rfl dX7_init_63 rfl ?_
      refine k_ldc C 99999 15 rfl (by decide) dX7_init_64 ?_
      refine k_icmp_gt C 124 (⟨by omega, by omega⟩) (⟨by omega, by omega⟩) dX7_init_66 (by decide) (fun c66 => ?_) (fun c66 => ?_)
      · skip
        have hAll := SvF_all i3 (by omega)
        refine k_iconst C dX7_init_124 ?_
        refine k_istore_n C (lo' := [(1, .int (iI 0)), (0, .ref mo)]) dX7_init_125 rfl (by decide) rfl ?_
        refine k_iconst C dX7_init_126 ?_
        refine k_istore_n C (lo' := [(2, .int (iI 2)), (1, .int (iI 0)), (0, .ref mo)]) dX7_init_127 rfl (by decide) rfl ?_
        have L128 : ∀ (nf : Nat) (c : Int) (z : Int) (f3 : Nat → Int), (EaI c z f3) → (400 - z).toNat < nf → K_ X 7 201558 [(mo, .inr (6, [.ref q8, .int (iI 0), .ref q15, .ref q23, .int (iI 0), .int (iI 0), .ref q31, .ref q39, .ref q47, .ref q56, .int (iI 0), .int (iI 0)])), (q8, .inl (g_I (x_G X), 756, .inl (aI (fun _ => 0)))), (q15, .inl (g_Z (x_G X), 2, .inl (aI (fun _ => 0)))), (q23, .inl (g_C (x_G X), 60, .inl (aI (fun _ => 0)))), (q31, .inl (g_I (x_G X), 100000, .inl (aI f1))), (q39, .inl (g_I (x_G X), 40, .inl (aI f3))), (q47, .inl (g_Z (x_G X), 100000, .inl (aI (fun _ => 0)))), (q56, .inl (g_I (x_G X), 700, .inl (aI (fun _ => 0))))] 128 [(2, .int (iI z)), (1, .int (iI c)), (0, .ref mo)] [] := by
          intro nf
          induction nf with
          | zero => intro c z f3 hI hm; exact absurd hm (Nat.not_lt_zero _)
          | succ nf ih128 =>
            intro c z f3 hI128 hm128
            obtain ⟨l1, l2, l3, l4⟩ := id hI128
            have hsl := sp_le (show c.toNat < 65 by omega)
            refine k_iload_n C 1 rfl dX7_init_128 rfl ?_
            refine k_bipush C dX7_init_129 (by decide) ?_
            refine k_icmp_ge C 160 (⟨by omega, by omega⟩) (⟨by omega, by omega⟩) dX7_init_131 (by decide) (fun c131 => ?_) (fun c131 => ?_)
            · skip
              refine k_aload_n C 2 rfl dX7_init_160 rfl ?_
              refine k_get C (Cn := RX7) (T := TX7) (N := 12) (ci := 6) (ref := "StruckCountsModel") in_X7_init_X7 0 rfl rfl 0 (by decide) 5 rfl rfl (v := .ref q8) rfl dX7_init_161 ?_
              refine k_iconst C dX7_init_164 ?_
              refine k_bipush C dX7_init_165 (by decide) ?_
              refine k_iast C (f := (fun _ => 0)) 1 rfl (⟨by omega, by omega⟩) (by decide) (fun gg => [(mo, .inr (6, [.ref q8, .int (iI 0), .ref q15, .ref q23, .int (iI 0), .int (iI 0), .ref q31, .ref q39, .ref q47, .ref q56, .int (iI 0), .int (iI 0)])), (q8, .inl (g_I (x_G X), 756, .inl (aI gg))), (q15, .inl (g_Z (x_G X), 2, .inl (aI (fun _ => 0)))), (q23, .inl (g_C (x_G X), 60, .inl (aI (fun _ => 0)))), (q31, .inl (g_I (x_G X), 100000, .inl (aI f1))), (q39, .inl (g_I (x_G X), 40, .inl (aI f3))), (q47, .inl (g_Z (x_G X), 100000, .inl (aI (fun _ => 0)))), (q56, .inl (g_I (x_G X), 700, .inl (aI (fun _ => 0))))]) (fun _ => rfl) dX7_init_167 (fun g167 e167 => ?_)
              exact k_vret C hR (u := ((q8, q15, q23, q31), (q39, q47, q56), g167, f1, f3)) rfl (by (try dsimp only) <;> exact (⟨MS_first e167, hAll, fun i hi => l3 i (by omega)⟩)) rfl (Nat.le_of_ble_eq_true rfl) (Nat.le_of_ble_eq_true rfl) dX7_init_168
            · skip
              refine k_aload_n C 2 rfl dX7_init_134 rfl ?_
              refine k_get C (Cn := RX7) (T := TX7) (N := 12) (ci := 6) (ref := "StruckCountsModel") in_X7_init_X7 0 rfl rfl 6 (by decide) 11 rfl rfl (v := .ref q31) rfl dX7_init_135 ?_
              refine k_iload_n C 0 rfl dX7_init_138 rfl ?_
              refine k_iald C (f := f1) 4 rfl (⟨by omega, by omega⟩) (by decide) dX7_init_139 ?_
              refine k_nmI (fun v139 e139 => ?_)
              have h139 : v139 = (lf z.toNat : Int) := by rw [e139]; exact hAll _ (by omega) (by omega)
              have hl139 := lf_le (x := z.toNat) (by omega)
              refine k_iload_n C 0 rfl dX7_init_140 rfl ?_
              refine k_icmp_ne C 154 (⟨by omega, by omega⟩) (⟨by omega, by omega⟩) dX7_init_141 (by decide) (fun c141 => ?_) (fun c141 => ?_)
              · skip
                obtain ⟨v154, e154⟩ : ∃ y : Int, y = z + 1 := ⟨_, rfl⟩
                refine k_iinc C (lo' := [(2, .int (iI v154)), (1, .int (iI c)), (0, .ref mo)]) 0 rfl dX7_init_154 (by decide) v154 e154 rfl ?_
                refine k_goto C 128 dX7_init_157 (by decide) ?_
                exact ih128 c v154 f3 (by first | exact EaI_go hI128 (by omega) (by omega) (by omega) (by omega) e150 | exact EaI_no hI128 (by omega) (by omega) (by omega)) (by omega)
              · skip
                refine k_aload_n C 2 rfl dX7_init_144 rfl ?_
                refine k_get C (Cn := RX7) (T := TX7) (N := 12) (ci := 6) (ref := "StruckCountsModel") in_X7_init_X7 0 rfl rfl 7 (by decide) 12 rfl rfl (v := .ref q39) rfl dX7_init_145 ?_
                refine k_iload_n C 1 rfl dX7_init_148 rfl ?_
                refine k_iload_n C 0 rfl dX7_init_149 rfl ?_
                refine k_iast C (f := f3) 5 rfl (⟨by omega, by omega⟩) (by decide) (fun gg => [(mo, .inr (6, [.ref q8, .int (iI 0), .ref q15, .ref q23, .int (iI 0), .int (iI 0), .ref q31, .ref q39, .ref q47, .ref q56, .int (iI 0), .int (iI 0)])), (q8, .inl (g_I (x_G X), 756, .inl (aI (fun _ => 0)))), (q15, .inl (g_Z (x_G X), 2, .inl (aI (fun _ => 0)))), (q23, .inl (g_C (x_G X), 60, .inl (aI (fun _ => 0)))), (q31, .inl (g_I (x_G X), 100000, .inl (aI f1))), (q39, .inl (g_I (x_G X), 40, .inl (aI gg))), (q47, .inl (g_Z (x_G X), 100000, .inl (aI (fun _ => 0)))), (q56, .inl (g_I (x_G X), 700, .inl (aI (fun _ => 0))))]) (fun _ => rfl) dX7_init_150 (fun g150 e150 => ?_)
                obtain ⟨v151, e151⟩ : ∃ y : Int, y = c + 1 := ⟨_, rfl⟩
                refine k_iinc C (lo' := [(1, .int (iI v151)), (2, .int (iI z)), (0, .ref mo)]) 1 rfl dX7_init_151 (by decide) v151 e151 rfl ?_
                obtain ⟨v154, e154⟩ : ∃ y : Int, y = z + 1 := ⟨_, rfl⟩
                refine k_iinc C (lo' := [(2, .int (iI v154)), (1, .int (iI v151)), (0, .ref mo)]) 1 rfl dX7_init_154 (by decide) v154 e154 rfl ?_
                refine k_goto C 128 dX7_init_157 (by decide) ?_
                exact ih128 v151 v154 g150 (by first | exact EaI_go hI128 (by omega) (by omega) (by omega) (by omega) e150 | exact EaI_no hI128 (by omega) (by omega) (by omega)) (by omega)
        exact L128 _ 0 2 (fun _ => 0) (EaI_0) (Nat.lt_succ_self _)
      · skip
        refine k_aload_n C 1 rfl dX7_init_69 rfl ?_
        refine k_get C (Cn := RX7) (T := TX7) (N := 12) (ci := 6) (ref := "StruckCountsModel") in_X7_init_X7 0 rfl rfl 6 (by decide) 11 rfl rfl (v := .ref q31) rfl dX7_init_70 ?_
        refine k_iload_n C 0 rfl dX7_init_73 rfl ?_
        refine k_iald C (f := f1) 4 rfl (⟨by omega, by omega⟩) (by decide) dX7_init_74 ?_
        refine k_nmI (fun v74 e74 => ?_)
        have hr74 := SvF_rng i3 (y := x.toNat) (by omega) (by omega)
        rw [← e74] at hr74
        refine k_if_ne C 118 (⟨by omega, by omega⟩) dX7_init_75 (by decide) (fun c75 => ?_) (fun c75 => ?_)
        · skip
          have hst : SvF (x + 1) f1 := SvF_no (x := x.toNat) i3 (by omega) (by omega) (by rw [← e74]; exact c75) rfl
          obtain ⟨v118, e118⟩ : ∃ y : Int, y = x + 1 := ⟨_, rfl⟩
          refine k_iinc C (lo' := [(1, .int (iI v118)), (0, .ref mo)]) 0 rfl dX7_init_118 (by decide) v118 e118 rfl ?_
          refine k_goto C 63 dX7_init_121 (by decide) ?_
          exact ih63 v118 f1 (⟨by omega, by omega, by rw [e118]; exact hst⟩) (by omega)
        · skip
          refine k_iload_n C 0 rfl dX7_init_78 rfl ?_
          refine k_istore_n C (lo' := [(2, .int (iI x)), (1, .int (iI x)), (0, .ref mo)]) dX7_init_79 rfl (by decide) rfl ?_
          have L80 : ∀ (nf : Nat) (q : Nat) (y : Int) (f2 : Nat → Int), (y = ((x.toNat * (q + 1) : Nat) : Int) ∧ 0 ≤ y ∧ y ≤ 200000 ∧ SvG x.toNat y f2) → (100000 - y).toNat < nf → K_ X 7 201558 [(mo, .inr (6, [.ref q8, .int (iI 0), .ref q15, .ref q23, .int (iI 0), .int (iI 0), .ref q31, .ref q39, .ref q47, .ref q56, .int (iI 0), .int (iI 0)])), (q8, .inl (g_I (x_G X), 756, .inl (aI (fun _ => 0)))), (q15, .inl (g_Z (x_G X), 2, .inl (aI (fun _ => 0)))), (q23, .inl (g_C (x_G X), 60, .inl (aI (fun _ => 0)))), (q31, .inl (g_I (x_G X), 100000, .inl (aI f2))), (q39, .inl (g_I (x_G X), 40, .inl (aI (fun _ => 0)))), (q47, .inl (g_Z (x_G X), 100000, .inl (aI (fun _ => 0)))), (q56, .inl (g_I (x_G X), 700, .inl (aI (fun _ => 0))))] 80 [(2, .int (iI y)), (1, .int (iI x)), (0, .ref mo)] [] := by
            intro nf
            induction nf with
            | zero => intro q y f2 hI hm; exact absurd hm (Nat.not_lt_zero _)
            | succ nf ih80 =>
              intro q y f2 hI80 hm80
              obtain ⟨j1, j2, j3, j4⟩ := hI80
              have es : x.toNat * (q + 1 + 1) = x.toNat * (q + 1) + x.toNat := Nat.mul_succ _ _
              have es0 : x.toNat * (q + 1) = x.toNat * q + x.toNat := Nat.mul_succ _ _
              refine k_iload_n C 0 rfl dX7_init_80 rfl ?_
              refine k_ldc C 99999 15 rfl (by decide) dX7_init_81 ?_
              refine k_icmp_gt C 118 (⟨by omega, by omega⟩) (⟨by omega, by omega⟩) dX7_init_83 (by decide) (fun c83 => ?_) (fun c83 => ?_)
              · skip
                have hst : SvF (x + 1) f2 := SvG_end j4 (by omega) (by omega)
                obtain ⟨v118, e118⟩ : ∃ y : Int, y = x + 1 := ⟨_, rfl⟩
                refine k_iinc C (lo' := [(1, .int (iI v118)), (2, .int (iI y)), (0, .ref mo)]) 1 rfl dX7_init_118 (by decide) v118 e118 rfl ?_
                refine k_goto C 63 dX7_init_121 (by decide) ?_
                refine k_lo (lo' := [(1, .int (iI v118)), (0, .ref mo)]) [0, 2] rfl ?_
                exact ih63 v118 f2 (⟨by omega, by omega, by rw [e118]; exact hst⟩) (by omega)
              · skip
                refine k_aload_n C 2 rfl dX7_init_86 rfl ?_
                refine k_get C (Cn := RX7) (T := TX7) (N := 12) (ci := 6) (ref := "StruckCountsModel") in_X7_init_X7 0 rfl rfl 6 (by decide) 11 rfl rfl (v := .ref q31) rfl dX7_init_87 ?_
                refine k_iload_n C 0 rfl dX7_init_90 rfl ?_
                refine k_aload_n C 2 rfl dX7_init_91 rfl ?_
                refine k_get C (Cn := RX7) (T := TX7) (N := 12) (ci := 6) (ref := "StruckCountsModel") in_X7_init_X7 0 rfl rfl 6 (by decide) 11 rfl rfl (v := .ref q31) rfl dX7_init_92 ?_
                refine k_iload_n C 0 rfl dX7_init_95 rfl ?_
                refine k_iald C (f := f2) 4 rfl (⟨by omega, by omega⟩) (by decide) dX7_init_96 ?_
                refine k_nmI (fun v96 e96 => ?_)
                have hr96 := SvG_rng j4 (y := y.toNat) (by omega) (by omega)
                rw [← e96] at hr96
                refine k_if_ne C 104 (⟨by omega, by omega⟩) dX7_init_97 (by decide) (fun c97 => ?_) (fun c97 => ?_)
                · skip
                  refine k_aload_n C 2 rfl dX7_init_104 rfl ?_
                  refine k_get C (Cn := RX7) (T := TX7) (N := 12) (ci := 6) (ref := "StruckCountsModel") in_X7_init_X7 0 rfl rfl 6 (by decide) 11 rfl rfl (v := .ref q31) rfl dX7_init_105 ?_
                  refine k_iload_n C 0 rfl dX7_init_108 rfl ?_
                  refine k_iald C (f := f2) 4 rfl (⟨by omega, by omega⟩) (by decide) dX7_init_109 ?_
                  refine k_nmI (fun v109 e109 => ?_)
                  refine k_iast C (f := f2) 4 rfl (⟨by omega, by omega⟩) (by decide) (fun gg => [(mo, .inr (6, [.ref q8, .int (iI 0), .ref q15, .ref q23, .int (iI 0), .int (iI 0), .ref q31, .ref q39, .ref q47, .ref q56, .int (iI 0), .int (iI 0)])), (q8, .inl (g_I (x_G X), 756, .inl (aI (fun _ => 0)))), (q15, .inl (g_Z (x_G X), 2, .inl (aI (fun _ => 0)))), (q23, .inl (g_C (x_G X), 60, .inl (aI (fun _ => 0)))), (q31, .inl (g_I (x_G X), 100000, .inl (aI gg))), (q39, .inl (g_I (x_G X), 40, .inl (aI (fun _ => 0)))), (q47, .inl (g_Z (x_G X), 100000, .inl (aI (fun _ => 0)))), (q56, .inl (g_I (x_G X), 700, .inl (aI (fun _ => 0))))]) (fun _ => rfl) dX7_init_110 (fun g110 e110 => ?_)
                  refine k_iload_n C 0 rfl dX7_init_111 rfl ?_
                  refine k_iload_n C 1 rfl dX7_init_112 rfl ?_
                  refine k_iadd C dX7_init_113 ?_
                  refine k_nmI (fun v113 e113 => ?_)
                  refine k_istore_n C (lo' := [(2, .int (iI v113)), (1, .int (iI x)), (0, .ref mo)]) dX7_init_114 rfl (by decide) rfl ?_
                  refine k_goto C 80 dX7_init_115 (by decide) ?_
                  exact ih80 (q + 1) v113 g110 (⟨by omega, by omega, by omega, SvG_go (q := q) j4 (by omega) j1 (by omega) e96 (by omega) e110 (by omega)⟩) (by omega)
                · skip
                  refine k_iload_n C 1 rfl dX7_init_100 rfl ?_
                  refine k_goto C 110 dX7_init_101 (by decide) ?_
                  refine k_iast C (f := f2) 4 rfl (⟨by omega, by omega⟩) (by decide) (fun gg => [(mo, .inr (6, [.ref q8, .int (iI 0), .ref q15, .ref q23, .int (iI 0), .int (iI 0), .ref q31, .ref q39, .ref q47, .ref q56, .int (iI 0), .int (iI 0)])), (q8, .inl (g_I (x_G X), 756, .inl (aI (fun _ => 0)))), (q15, .inl (g_Z (x_G X), 2, .inl (aI (fun _ => 0)))), (q23, .inl (g_C (x_G X), 60, .inl (aI (fun _ => 0)))), (q31, .inl (g_I (x_G X), 100000, .inl (aI gg))), (q39, .inl (g_I (x_G X), 40, .inl (aI (fun _ => 0)))), (q47, .inl (g_Z (x_G X), 100000, .inl (aI (fun _ => 0)))), (q56, .inl (g_I (x_G X), 700, .inl (aI (fun _ => 0))))]) (fun _ => rfl) dX7_init_110 (fun g110 e110 => ?_)
                  refine k_iload_n C 0 rfl dX7_init_111 rfl ?_
                  refine k_iload_n C 1 rfl dX7_init_112 rfl ?_
                  refine k_iadd C dX7_init_113 ?_
                  refine k_nmI (fun v113 e113 => ?_)
                  refine k_istore_n C (lo' := [(2, .int (iI v113)), (1, .int (iI x)), (0, .ref mo)]) dX7_init_114 rfl (by decide) rfl ?_
                  refine k_goto C 80 dX7_init_115 (by decide) ?_
                  exact ih80 (q + 1) v113 g110 (⟨by omega, by omega, by omega, SvG_go (q := q) j4 (by omega) j1 (by omega) e96 (by omega) e110 (by omega)⟩) (by omega)
          exact L80 _ 0 x f1 (⟨by rw [Nat.zero_add, Nat.mul_one]; omega, by omega, by omega, by have := SvG_0 i3 (show x = ((x.toNat : Nat) : Int) by omega); rw [Nat.zero_add, Nat.mul_one] at this; rwa [show x = ((x.toNat : Nat) : Int) by omega]⟩) (Nat.lt_succ_self _)
  exact L63 _ 2 (fun _ => 0) (⟨by omega, by omega, SvF_0 (fun _ => rfl)⟩) (Nat.lt_succ_self _)
