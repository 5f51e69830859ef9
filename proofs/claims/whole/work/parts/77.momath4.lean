/-! numbers with two prime factors, numbers by their least factor: the program's counts are the reference's -/
theorem ct_zero {P : Nat → Bool} {n : Nat} (h : ∀ y, 1 ≤ y → y ≤ n → ¬ P y = true) : ct P n = 0 := by
  rw [ct_sm]; exact sm_0 fun y a b => if_neg (h y a b)
theorem wl_far {p x : Nat} (h : x < p) : ct (wlF p) x = 0 := ct_zero fun y a b e => by
  have := wl_iff.mp e
  have := lf_le this.1
  omega
theorem wl_np {p x : Nat} (h : ¬ lf p = p) : ct (wlF p) x = 0 := ct_zero fun y a b e => by
  have hy := wl_iff.mp e
  have := isP_iff.mp (lf_isP hy.1)
  rw [hy.2] at this
  exact h this.2
theorem lf_mul {p z : Nat} (hp : isP p = true) (hz : 1 ≤ z) (h : ∀ q, isP q = true → q < p → ¬ q ∣ z) : lf (p * z) = p := by
  have h2 := isP_2 hp
  have hpz : p ≤ p * z := Nat.le_mul_of_pos_right p hz
  refine lf_of (by omega) h2 (Nat.dvd_mul_right p z) fun e h1 hd => ?_
  obtain ⟨q1, q2, q3⟩ := lf_spec h1
  have hq := lf_isP h1
  rcases Nat.lt_or_ge (lf e) p with c | c
  · rcases isP_mul hq (Nat.dvd_trans q2 hd) with a | a
    · have := isP_dvd hp q1 a; omega
    · exact absurd a (h _ hq c)
  · have := lf_le h1; omega
theorem lf_mul_iff {p z : Nat} (hp : isP p = true) (hz : 1 ≤ z) : lf (p * z) = p ↔ ∀ q, isP q = true → q < p → ¬ q ∣ z := ⟨fun h q hq hl hd => by
  have h2 := isP_2 hp
  have hpz : p ≤ p * z := Nat.le_mul_of_pos_right p hz
  have := (lf_spec (x := p * z) (by omega)).2.2 q (isP_2 hq) (Nat.dvd_trans hd (Nat.dvd_mul_left z p))
  omega, lf_mul hp hz⟩
theorem small_q {q z p x : Nat} (hq : isP q = true) (hl : q < p) (hz : 1 ≤ z) (hd : q ∣ z) (hx : p * z ≤ x) (hx9 : x ≤ 99999) : q < 317 := by
  have h1 : q ≤ z := Nat.le_of_dvd hz hd
  have h2 : q * q ≤ p * z := Nat.mul_le_mul (by omega) h1
  rcases Nat.lt_or_ge q 317 with c | c
  · exact c
  · have := Nat.mul_le_mul c c
    omega
theorem ct_mult {P : Nat → Bool} {p : Nat} (hp : 0 < p) (h : ∀ y, 1 ≤ y → P y = true → y % p = 0) (v : Nat) : ct P v = ct (fun z => P (p * z)) (v / p) := by
  have e1 : ct P v = sm (fun y => if y % p = 0 then (if P y = true then 1 else 0) else 0) v := by
    rw [ct_sm]
    refine sm_cong fun y h1 _ => ?_
    by_cases a : P y = true
    · rw [if_pos a, if_pos (h y h1 a)]
    · rw [if_neg a]
      by_cases b : y % p = 0
      · rw [if_pos b]
      · rw [if_neg b]
  rw [e1, sm_mult (fun y => if P y = true then 1 else 0) hp, ct_sm]
theorem wl_cA {p t x : Nat} (hx : x ≤ 99999) (hp : isP p = true) (hW : WlR p t) : ct (wlF p) x = cA wlM t (x / p) := by
  have h2 := isP_2 hp
  rw [ct_mult (p := p) (by omega) (fun y h1 e => by
    have hy := wl_iff.mp e
    exact Nat.mod_eq_zero_of_dvd (hy.2 ▸ (lf_spec hy.1).2.1))]
  unfold cA
  refine ct_cong fun z h1 hz => ?_
  have hpz : p * z ≤ x := by
    have := Nat.mul_le_mul_left p hz
    have h3 := Nat.mul_div_le x p
    omega
  have hz2 : p ≤ p * z := Nat.le_mul_of_pos_right p h1
  rw [Bool.eq_iff_iff, wl_iff, lf_mul_iff hp h1]
  show _ ↔ al wlM t z = true
  rw [al_iff]
  constructor
  · rintro ⟨_, h⟩ j hj _
    exact h _ (sp_isP (by have := hW.1; omega)) (hW.2.1 j hj)
  · refine fun h => ⟨by omega, fun q hq hl hd => ?_⟩
    obtain ⟨i, hi, e⟩ := sp_all (small_q hq hl h1 hd hpz hx) hq
    have hit : i < t := by
      rcases Nat.lt_or_ge i t with c | c
      · exact c
      · rcases hW.2.2 with z | z
        · omega
        · rcases Nat.lt_or_ge t i with y | y
          · have := sp_lt y hi; omega
          · rw [show t = i by omega] at z; omega
    exact h i hit (wlM_b hi) (e ▸ hd)
theorem ct_gap {P : Nat → Bool} {a b : Nat} (h : a ≤ b) (hn : ∀ y, a < y → y ≤ b → ¬ P y = true) : ct P b = ct P a := by
  induction b with
  | zero => rw [show a = 0 by omega]
  | succ b ih =>
    rcases Nat.lt_or_ge b a with c | c
    · rw [show a = b + 1 by omega]
    · rw [ct_n (hn _ (by omega) (Nat.le_refl _))]
      exact ih c fun y h1 h2 => hn y h1 (by omega)
theorem rank_sp : ∀ t, t < 65 → ct isP (sp t - 1) = t
  | 0, _ => ct_isP_lo (by decide)
  | t + 1, h => by
    have ih := rank_sp t (by omega)
    have h1 := sp_lt1 h
    have h2 := sp_ge2 (show t < 65 by omega)
    have h3 := sp_le h
    rw [ct_gap (a := sp t) (by omega) fun y a b e => by
      obtain ⟨i, hi, ei⟩ := sp_all (show y < 317 by omega) e
      have c1 : ¬ i ≤ t := fun z => by
        rcases Nat.lt_or_ge i t with y | y
        · have := sp_lt y (show t < 65 by omega); omega
        · rw [show i = t by omega] at ei; omega
      have c2 : ¬ t + 1 ≤ i := fun z => by
        rcases Nat.lt_or_ge (t + 1) i with y | y
        · have := sp_lt y hi; omega
        · rw [show i = t + 1 by omega] at ei; omega
      omega, ct_y (by omega) (sp_isP (by omega)), ih]
theorem ct_from {p : Nat} (hp : 1 ≤ p) : ∀ v, ct (fun z => isP z && decide (p ≤ z)) v + (if p ≤ v then ct isP (p - 1) else ct isP v) = ct isP v
  | 0 => by rw [if_neg (by omega)]; rfl
  | v + 1 => by
    have ih := ct_from hp v
    have e1 : ct (fun z => isP z && decide (p ≤ z)) (v + 1) = ct (fun z => isP z && decide (p ≤ z)) v + (if (isP (v + 1) && decide (p ≤ v + 1)) = true then 1 else 0) := rfl
    have e2 : ct isP (v + 1) = ct isP v + (if isP (v + 1) = true then 1 else 0) := rfl
    rw [e1]
    by_cases c : p ≤ v
    · rw [if_pos c] at ih
      have c2 : p ≤ v + 1 := by omega
      rw [if_pos c2, decide_eq_true c2, Bool.and_true, e2]
      omega
    · rw [if_neg c] at ih
      by_cases d : p = v + 1
      · have c2 : p ≤ v + 1 := by omega
        rw [if_pos c2, decide_eq_true c2, Bool.and_true, show p - 1 = v by omega, e2]
        omega
      · have c2 : ¬ p ≤ v + 1 := by omega
        rw [if_neg c2, decide_eq_false c2, Bool.and_false, e2, if_neg (show ¬ (false = true) by decide)]
        omega
def twT (t : Nat) (y : Nat) : Bool := twF y && (List.range t).any fun i => lf y == sp i
theorem twT_iff {t y : Nat} : twT t y = true ↔ twF y = true ∧ ∃ i, i < t ∧ lf y = sp i := by
  unfold twT
  rw [Bool.and_eq_true, List.any_eq_true]
  constructor
  · rintro ⟨h, i, h1, h2⟩
    exact ⟨h, i, List.mem_range.mp h1, by simpa using h2⟩
  · rintro ⟨h, i, h1, h2⟩
    exact ⟨h, i, List.mem_range.mpr h1, by simp [h2]⟩
def twP (t : Nat) (y : Nat) : Bool := twF y && lf y == sp t
theorem twP_iff {t y : Nat} : twP t y = true ↔ twF y = true ∧ lf y = sp t := by unfold twP; simp
theorem twT_s {t x : Nat} (ht : t < 65) : ct (twT (t + 1)) x = ct (twT t) x + ct (twP t) x := by
  rw [ct_sm, ct_sm, ct_sm, ← sm_add]
  refine sm_cong fun y _ _ => ?_
  by_cases a : twP t y = true
  · have ha := twP_iff.mp a
    have b : twT (t + 1) y = true := twT_iff.mpr ⟨ha.1, t, by omega, ha.2⟩
    have c : ¬ twT t y = true := fun e => by
      obtain ⟨_, i, h1, h2⟩ := twT_iff.mp e
      have := sp_lt h1 ht
      omega
    rw [if_pos a, if_pos b, if_neg c]
  · rw [if_neg a]
    by_cases c : twT t y = true
    · obtain ⟨h1, i, h2, h3⟩ := twT_iff.mp c
      rw [if_pos c, if_pos (twT_iff.mpr ⟨h1, i, by omega, h3⟩)]
    · rw [if_neg c, if_neg]
      intro e
      obtain ⟨h1, i, h2, h3⟩ := twT_iff.mp e
      rcases Nat.lt_or_ge i t with z | z
      · exact c (twT_iff.mpr ⟨h1, i, z, h3⟩)
      · rw [show i = t by omega] at h3
        exact a (twP_iff.mpr ⟨h1, h3⟩)
theorem twP_z {t z : Nat} (ht : t < 65) (hz : 1 ≤ z) : twP t (sp t * z) = (isP z && decide (sp t ≤ z)) := by
  have hp := sp_isP ht
  have h2 := isP_2 hp
  have hdiv : sp t * z / sp t = z := Nat.mul_div_cancel_left z (by omega)
  rw [Bool.eq_iff_iff, twP_iff, tw_iff, Bool.and_eq_true, decide_eq_true_iff]
  constructor
  · rintro ⟨⟨h4, hn, h3⟩, hl⟩
    rw [hl, hdiv] at h3
    refine ⟨h3, ?_⟩
    have := (lf_spec (x := sp t * z) (by omega)).2.2 z (isP_2 h3) (Nat.dvd_mul_left z (sp t))
    omega
  · rintro ⟨h3, hle⟩
    have hz2 := isP_2 h3
    have hl : lf (sp t * z) = sp t := lf_mul hp hz fun q hq hlt hd => by
      have := isP_dvd h3 (isP_2 hq) hd
      omega
    have h4 : sp t * 2 ≤ sp t * z := Nat.mul_le_mul_left _ hz2
    refine ⟨⟨by omega, fun e => ?_, by rw [hl, hdiv]; exact h3⟩, hl⟩
    have := (isP_iff.mp e).2
    omega
theorem twP_ct {t x : Nat} (ht : t < 65) : (ct (twP t) x : Int) = if sp t * sp t ≤ x then (ct isP (x / sp t) : Int) - t else 0 := by
  have h2 := sp_ge2 ht
  rw [ct_mult (p := sp t) (by omega) (fun y h1 e => by
    have hy := twP_iff.mp e
    have h4 := (tw_iff.mp hy.1).1
    exact Nat.mod_eq_zero_of_dvd (hy.2 ▸ (lf_spec (x := y) (by omega)).2.1)), ct_cong (Q := fun z => isP z && decide (sp t ≤ z)) (fun z h1 _ => twP_z ht h1)]
  have h := ct_from (p := sp t) (by omega) (x / sp t)
  rw [rank_sp t ht] at h
  have hiff : sp t ≤ x / sp t ↔ sp t * sp t ≤ x := Nat.le_div_iff_mul_le (by omega)
  by_cases c : sp t * sp t ≤ x
  · rw [if_pos (hiff.mpr c)] at h
    rw [if_pos c]; omega
  · rw [if_neg (fun z => c (hiff.mp z))] at h
    rw [if_neg c]; omega
theorem twT_ct {x : Nat} : ∀ t, t ≤ 65 → (ct (twT t) x : Int) = tws x t
  | 0, _ => by
    rw [ct_zero fun y _ _ e => by obtain ⟨_, i, h, _⟩ := twT_iff.mp e; omega]; rfl
  | t + 1, h => by
    rw [twT_s (by omega), Int.natCast_add, twT_ct t (by omega), twP_ct (by omega)]; rfl
theorem tw_tws {x : Nat} (hx : x ≤ 99999) : (ct twF x : Int) = tws x 65 := by
  rw [← twT_ct 65 (Nat.le_refl 65)]
  refine congrArg Int.ofNat (ct_cong fun y h1 h2 => ?_)
  rw [Bool.eq_iff_iff, twT_iff]
  refine ⟨fun h => ⟨h, ?_⟩, fun h => h.1⟩
  obtain ⟨h4, hn, _⟩ := tw_iff.mp h
  have hy2 : 2 ≤ y := by omega
  have hr := lf_root hy2 fun e => hn (isP_iff.mpr ⟨hy2, e⟩)
  have h317 : lf y < 317 := by
    rcases Nat.lt_or_ge (lf y) 317 with c | c
    · exact c
    · have := Nat.mul_le_mul c c; omega
  obtain ⟨i, hi, e⟩ := sp_all h317 (lf_isP hy2)
  exact ⟨i, hi, e.symm⟩
theorem wl_prog {x p : Nat} {v : Int} (hx : x ≤ 99999) (hp : 2 ≤ p) (h : (x < p ∨ ¬ lf p = p) ∧ v = 0 ∨ ¬ (x < p ∨ ¬ lf p = p) ∧ ∃ t, WlR p t ∧ v = (cA wlM t (x / p) : Int)) : v = (ct (wlF p) x : Int) := by
  rcases h with ⟨h1, h2⟩ | ⟨h1, t, h2, h3⟩
  · rcases h1 with h1 | h1
    · rw [h2, wl_far h1]; rfl
    · rw [h2, wl_np h1]; rfl
  · rw [h3, wl_cA hx (isP_iff.mpr ⟨hp, by
      rcases Nat.decEq (lf p) p with z | z
      · exact absurd (Or.inr z) h1
      · exact z⟩) h2]

