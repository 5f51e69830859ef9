/-! the row of primes: its making, counts, sums, ranks -/
def hit (p e : Nat) : Bool := decide (p * p / 2 ≤ e ∧ (e - p * p / 2) % p = 0)
def Cs : Nat → Nat → Bool
  | 0, e => decide (e ≠ 0)
  | t + 1, e => Cs t e && !(decide (2 < sp t) && hit (sp t) e)
def RowC (C : Nat → Bool) (fw : Nat → Int) : Prop := ∀ i, i < 782 → fw i = (bN (fun b => C (64 * i + b)) 64 : Int)
theorem RowC_cong {C D : Nat → Bool} {fw : Nat → Int} (h : RowC C fw) (hc : ∀ e, e < 50048 → C e = D e) : RowC D fw := fun i hi => by
  rw [h i hi, bN_cong (fun j hj => hc (64 * i + j) (by omega))]
theorem RowC_clear {C : Nat → Bool} {fw g : Nat → Int} {e0 : Nat} {q x : Int} (h : RowC C fw) (he : e0 < 50048) (hq : q.toNat = e0 / 64) (hx : x = (((fw q.toNat).toNat &&& (2 ^ (e0 % 64) ^^^ 18446744073709551615) : Nat) : Int)) (hg : g = upI fw q.toNat x) : RowC (fun e => C e && decide (e ≠ e0)) g := by
  intro i hi
  rw [hg]
  by_cases e : i = e0 / 64
  · rw [hq, e, upI_s, hx, hq, h _ (by omega), Int.toNat_natCast]
    congr 1
    have lt : bN (fun b => C (64 * (e0 / 64) + b)) 64 < 2 ^ 64 := bN_lt _ _
    refine bN_of (Nat.lt_of_le_of_lt Nat.and_le_left lt) fun j hj => ?_
    rw [Nat.testBit_and, bN_tb, Nat.testBit_xor, Nat.testBit_two_pow, show (18446744073709551615 : Nat) = 2 ^ 64 - 1 from rfl, Nat.testBit_two_pow_sub_one]
    simp only [hj, decide_true, Bool.true_and]
    congr 1
    by_cases e2 : e0 % 64 = j
    · rw [decide_eq_true e2, decide_eq_false (show ¬ (64 * (e0 / 64) + j ≠ e0) by omega)]; rfl
    · rw [decide_eq_false e2, decide_eq_true (show 64 * (e0 / 64) + j ≠ e0 by omega)]; rfl
  · rw [hq, upI_n e, h i hi]
    congr 1
    refine bN_cong fun j hj => ?_
    show C (64 * i + j) = (C (64 * i + j) && decide (64 * i + j ≠ e0))
    rw [decide_eq_true (show 64 * i + j ≠ e0 by omega), Bool.and_true]
theorem Cs_iff {t e : Nat} : Cs t e = true ↔ e ≠ 0 ∧ ∀ j, j < t → 2 < sp j → hit (sp j) e = false := by
  induction t with
  | zero => simp [Cs]
  | succ t ih =>
    show (Cs t e && !(decide (2 < sp t) && hit (sp t) e)) = true ↔ _
    rw [Bool.and_eq_true, ih]
    constructor
    · rintro ⟨⟨a, b⟩, c⟩
      refine ⟨a, fun j hj h2 => ?_⟩
      by_cases q : j = t
      · subst q; simpa [h2] using c
      · exact b j (by omega) h2
    · rintro ⟨a, b⟩
      refine ⟨⟨a, fun j hj h2 => b j (by omega) h2⟩, ?_⟩
      by_cases h2 : 2 < sp t
      · simp [b t (by omega) h2]
      · simp [h2]
theorem Cs_prime {e : Nat} (he : e < 50048) : Cs 65 e = isP (od e) := by
  rw [Bool.eq_iff_iff, Cs_iff]
  constructor
  · rintro ⟨h0, h⟩
    have hx : 2 ≤ od e := by unfold od; omega
    refine isP_iff.mpr ⟨hx, ?_⟩
    by_cases hn : lf (od e) = od e
    · exact hn
    · exfalso
      have hr := lf_root hx hn
      obtain ⟨l2, ld, -⟩ := lf_spec hx
      have hlt : lf (od e) < 317 := by
        rcases Nat.lt_or_ge (lf (od e)) 317 with z | z
        · exact z
        · have := Nat.mul_le_mul z z; unfold od at *; omega
      obtain ⟨j, hj, ej⟩ := sp_all hlt (lf_isP hx)
      rw [← ej] at ld hr l2
      have hp := sp_isP hj
      have hodd : sp j % 2 = 1 := by
        obtain ⟨c, hc⟩ := ld
        rcases Nat.mod_two_eq_zero_or_one (sp j) with z | z
        · exfalso
          have : od e % 2 = 0 := by rw [hc, Nat.mul_mod, z]; simp
          unfold od at this; omega
        · exact z
      have h2 : 2 < sp j := by omega
      have hh := h j hj h2
      obtain ⟨p, hp0⟩ : ∃ p, sp j = p := ⟨_, rfl⟩
      rw [hp0] at hodd h2 hh ld hr hp l2
      have pp : p * p % 2 = 1 := by rw [Nat.mul_mod, hodd]
      have le : p * p / 2 ≤ e := by unfold od at hr; omega
      have hd : p ∣ 2 * (e - p * p / 2) := by
        have e1 : 2 * (e - p * p / 2) = od e - p * p := by unfold od; omega
        rw [e1]
        exact Nat.dvd_sub ld ⟨p, rfl⟩
      have : p ∣ e - p * p / 2 := by
        rcases isP_mul hp hd with z | z
        · have := Nat.le_of_dvd (by decide) z; omega
        · exact z
      unfold hit at hh
      have := of_decide_eq_false hh
      exact this ⟨le, Nat.mod_eq_zero_of_dvd (by assumption)⟩
  · intro h
    refine ⟨fun z => by rw [z] at h; exact absurd h (by decide), fun j hj h2 => ?_⟩
    cases hh : hit (sp j) e with
    | false => rfl
    | true =>
      exfalso
      have h3 := of_decide_eq_true hh
      have hodd : sp j % 2 = 1 := by
        rcases Nat.mod_two_eq_zero_or_one (sp j) with z | z
        · have := isP_dvd (sp_isP hj) (Nat.le_refl 2) (Nat.dvd_of_mod_eq_zero z); omega
        · exact z
      obtain ⟨p, hp0⟩ : ∃ p, sp j = p := ⟨_, rfl⟩
      rw [hp0] at hodd h2 h3
      have pp : p * p % 2 = 1 := by rw [Nat.mul_mod, hodd]
      obtain ⟨le, hm⟩ := h3
      obtain ⟨s, hs⟩ := Nat.dvd_of_mod_eq_zero hm
      have hd : p ∣ od e := by
        refine ⟨p + 2 * s, ?_⟩
        have : p * (p + 2 * s) = p * p + 2 * (p * s) := by rw [Nat.mul_add, Nat.mul_left_comm]
        rw [this, ← hs]; unfold od; omega
      have e2 := isP_dvd h (by omega) hd
      have big : 3 * p ≤ p * p := Nat.mul_le_mul_right p (by omega)
      unfold od at *; omega
theorem RowC_row {fw : Nat → Int} (h : RowC (Cs 65) fw) : RowOK fw := fun i hi => by
  rw [h i hi, wd, bN_cong (fun j hj => Cs_prime (e := 64 * i + j) (by omega))]
/-- the inner loop of the sieve: what lies below cur is struck -/
def Ci (t cur e : Nat) : Bool := Cs t e && !(hit (sp t) e && decide (e < cur))
theorem Ci_0 (t e : Nat) : Ci t (sp t * sp t / 2) e = Cs t e := by
  unfold Ci hit
  have : (decide (sp t * sp t / 2 ≤ e ∧ (e - sp t * sp t / 2) % sp t = 0) && decide (e < sp t * sp t / 2)) = false := by
    rw [Bool.and_eq_false_iff]
    rcases Nat.lt_or_ge e (sp t * sp t / 2) with z | z
    · left; exact decide_eq_false (by omega)
    · right; exact decide_eq_false (by omega)
  rw [this]; simp
theorem Ci_step {t cur : Nat} (ht : 2 ≤ sp t) (h1 : sp t * sp t / 2 ≤ cur) (h2 : (cur - sp t * sp t / 2) % sp t = 0) (e : Nat) : Ci t (cur + sp t) e = (Ci t cur e && decide (e ≠ cur)) := by
  unfold Ci
  rw [Bool.and_assoc]
  congr 1
  by_cases h : hit (sp t) e = true
  · rw [h]
    have hh := of_decide_eq_true h
    obtain ⟨p, hp⟩ : ∃ p, sp t = p := ⟨_, rfl⟩
    obtain ⟨q, hq⟩ : ∃ q, sp t * sp t / 2 = q := ⟨_, rfl⟩
    rw [hq] at hh h1 h2
    rw [hp] at hh h2 ht ⊢
    obtain ⟨a, ha⟩ := Nat.dvd_of_mod_eq_zero hh.2
    obtain ⟨b, hb⟩ := Nat.dvd_of_mod_eq_zero h2
    have key : (e < cur + p) ↔ (e < cur ∨ e = cur) := by
      constructor
      · intro z
        rcases Nat.lt_or_ge a (b + 1) with y | y
        · rcases Nat.lt_or_ge a b with x | x
          · left
            have := Nat.mul_le_mul_left p (show a + 1 ≤ b by omega)
            rw [Nat.mul_add, Nat.mul_one] at this; omega
          · right
            have : a = b := by omega
            rw [this] at ha; omega
        · have := Nat.mul_le_mul_left p y
          rw [Nat.mul_add, Nat.mul_one] at this; omega
      · rintro (z | z) <;> omega
    rw [Bool.eq_iff_iff]; simp; omega
  · have : hit (sp t) e = false := by simpa using h
    have hne : e ≠ cur := fun z => h (by rw [z]; exact decide_eq_true ⟨h1, h2⟩)
    rw [this, decide_eq_true hne]
    simp
theorem Ci_end {t cur e : Nat} (ht : 2 < sp t) (h : e < cur) : Ci t cur e = Cs (t + 1) e := by
  show _ = (Cs t e && !(decide (2 < sp t) && hit (sp t) e))
  unfold Ci; rw [decide_eq_true h, decide_eq_true ht]; simp
theorem Cs_2 {t e : Nat} (ht : ¬ 2 < sp t) : Cs (t + 1) e = Cs t e := by
  show (Cs t e && !(decide (2 < sp t) && hit (sp t) e)) = _
  rw [decide_eq_false ht]; simp
/-- one word's count under a mask -/
theorem blk {i x M : Nat} : popc (wdx i x &&& M) = ce (fun b => pb x (64 * i + b) && M.testBit ((64 * i + b) % 64)) 64 := ce_cong fun j hj => by
  rw [Nat.testBit_and, wdx, bN_tb, decide_eq_true hj, Bool.true_and, show (64 * i + j) % 64 = j by omega]
theorem pb_out {x e : Nat} (h : x < od e) : pb x e = false := by unfold pb; rw [decide_eq_false (by omega)]; simp
theorem ce_rest {P : Nat → Bool} {a n : Nat} (h : a ≤ n) (h0 : ∀ e, a ≤ e → e < n → P e = false) : ce P n = ce P a := by
  obtain ⟨c, rfl⟩ := Nat.le.dest h
  rw [ce_add, ce_0 (fun j hj => h0 (a + j) (by omega) (by omega))]; omega
theorem se_rest {g : Nat → Nat} {P : Nat → Bool} {a n : Nat} (h : a ≤ n) (h0 : ∀ e, a ≤ e → e < n → P e = false) : se g P n = se g P a := by
  obtain ⟨c, rfl⟩ := Nat.le.dest h
  rw [se_add]
  have : ∀ m, m ≤ c → se (fun b => g (a + b)) (fun b => P (a + b)) m = 0 := by
    intro m
    induction m with
    | zero => intro _; rfl
    | succ m ih =>
      intro hm
      show se _ _ m + _ = 0
      rw [ih (by omega)]; simp [h0 (a + m) (by omega) (by omega)]
  rw [this c (Nat.le_refl _)]; omega
theorem primes_ce {x : Nat} (hx : x ≤ 100096) : ct isP x = (if 2 ≤ x then 1 else 0) + ce (fun e => pb x e) 50048 := by
  have h := ct_odd (x := x) (fun _ => true) (N := 50048) (by omega)
  simp only [Bool.and_true] at h
  rw [show (fun y => isP y) = isP from rfl] at h
  rw [h]
  congr 1
  by_cases e : 2 ≤ x <;> simp [e]
theorem rest1_ce {x : Nat} (hx : x ≤ 100096) : ct (fun y => isP y && y % 4 == 1) x = ce (fun e => pb x e && (e % 2 == 0)) 50048 := by
  rw [ct_odd (fun y => y % 4 == 1) (N := 50048) (by omega)]
  rw [if_neg (by simp), Nat.zero_add]
  exact ce_cong fun j _ => by
    congr 1
    rw [Bool.eq_iff_iff]; unfold od; simp; omega
theorem rest3_ce {x : Nat} (hx : x ≤ 100096) : ct (fun y => isP y && y % 4 == 3) x = ce (fun e => pb x e && (e % 2 == 1)) 50048 := by
  rw [ct_odd (fun y => y % 4 == 3) (N := 50048) (by omega)]
  rw [if_neg (by simp), Nat.zero_add]
  exact ce_cong fun j _ => by
    congr 1
    rw [Bool.eq_iff_iff]; unfold od; simp; omega
theorem rest2_ce (x : Nat) : ct (fun y => isP y && y % 4 == 2) x = if 2 ≤ x then 1 else 0 := by
  rw [ct_odd (fun y => y % 4 == 2) (N := x) (by omega)]
  rw [ce_0 (fun j _ => by
    have : (od j % 4 == 2) = false := by unfold od; simp; omega
    rw [this]; simp)]
  by_cases e : 2 ≤ x <;> simp [e]
theorem rest0_ce (x : Nat) : ct (fun y => isP y && y % 4 == 0) x = 0 := by
  rw [ct_odd (fun y => y % 4 == 0) (N := x) (by omega)]
  rw [ce_0 (fun j _ => by
    have : (od j % 4 == 0) = false := by unfold od; simp; omega
    rw [this]; simp)]
  simp
theorem sum_se {x : Nat} : ∀ {N : Nat}, x ≤ 2 * N → sm (fun y => if isP y then y else 0) x = (if 2 ≤ x then 2 else 0) + se od (fun e => pb x e) N := by
  have h2 : isP 2 = true := by decide
  have hev : ∀ y, 2 < y → y % 2 = 0 → isP y = false := fun y h1 h3 => by
    cases e : isP y with
    | false => rfl
    | true => have := isP_dvd e (Nat.le_refl 2) (Nat.dvd_of_mod_eq_zero h3); omega
  induction x with
  | zero =>
    intro N _
    rw [se_rest (a := 0) (Nat.zero_le N) (fun j _ _ => pb_out (by unfold od; omega))]
    rfl
  | succ x ih =>
    intro N hN
    rw [sm_s, ih (N := N) (by omega)]
    rcases Nat.mod_two_eq_zero_or_one x with hx | hx
    · obtain ⟨e0, he0⟩ : ∃ e0, x = 2 * e0 := ⟨x / 2, by omega⟩
      have a1 : se od (fun e => pb (x + 1) e) N = se od (fun e => pb (x + 1) e) (e0 + 1) := se_rest (by omega) fun e h _ => pb_out (by unfold od; omega)
      have a2 : se od (fun e => pb x e) N = se od (fun e => pb x e) e0 := se_rest (by omega) fun e h _ => pb_out (by unfold od; omega)
      rw [a1, a2]
      show _ = _ + (se od (fun e => pb (x + 1) e) e0 + _)
      have a3 : se od (fun e => pb (x + 1) e) e0 = se od (fun e => pb x e) e0 := se_cong fun j hj => by
        unfold pb; rw [show decide (od j ≤ x + 1) = decide (od j ≤ x) from by unfold od; simp; omega]
      rw [a3]
      have o : od e0 = x + 1 := by unfold od; omega
      have hb0 : pb (x + 1) e0 = isP (x + 1) := by unfold pb; rw [o]; simp
      simp only [hb0, o]
      rw [if_cg (show 2 ≤ x + 1 ↔ 2 ≤ x by omega)]
      omega
    · have key : se od (fun e => pb (x + 1) e) N = se od (fun e => pb x e) N := se_cong fun j hj => by
        unfold pb; rw [show decide (od j ≤ x + 1) = decide (od j ≤ x) from by unfold od; simp; omega]
      rw [key]
      by_cases e : x = 1
      · subst e; rw [h2]; simp; omega
      · rw [hev (x + 1) (by omega) (by omega), if_cg (show 2 ≤ x + 1 ↔ 2 ≤ x by omega)]; simp
/-- the k-th prime is the only one with k primes up to it -/
theorem rank_one {a b k : Nat} (ha : isP a = true) (hb : isP b = true) (h1 : ct isP a = k) (h2 : ct isP b = k) : a = b := by
  have key : ∀ {a b : Nat}, isP b = true → a < b → ct isP a < ct isP b := fun {a b} hb h => by
    obtain ⟨c, rfl⟩ : ∃ c, b = c + 1 := ⟨b - 1, by omega⟩
    have := ct_mono isP (show a ≤ c by omega)
    rw [ct_s, if_pos hb]; omega
  rcases Nat.lt_or_ge a b with z | z
  · have := key hb z; omega
  · rcases Nat.lt_or_ge b a with y | y
    · have := key ha y; omega
    · omega
/-- a negative long as a great word -/
theorem jL_neg64 {w : Nat} (h : w ≤ 2 ^ 64) : jL (-(w : Int)) = jL ((2 ^ 64 - w : Nat) : Int) := by
  have h0 : jL (18446744073709551616 : Int) = 0 := by decide
  have e : ((2 ^ 64 - w : Nat) : Int) = -(w : Int) + 18446744073709551616 := by omega
  rw [e, ← jL_add, h0, Int64.add_zero]
theorem jl_low {w b : Nat} (hw : w < 2 ^ 64) (hb : w.testBit b = true) (h : ∀ j, j < b → w.testBit j = false) : jL (w : Int) &&& jL (-(w : Int)) = jL ((2 ^ b : Nat) : Int) := by
  rw [jL_neg64 (by omega), jl_and, low_one hw hb h]
theorem jl_clear {w : Nat} (hw : 1 ≤ w) : jL (w : Int) &&& jL ((w : Int) - 1) = jL ((w &&& (w - 1) : Nat) : Int) := by
  rw [show (w : Int) - 1 = ((w - 1 : Nat) : Int) by omega, jl_and]
theorem popc_0 : popc 0 = 0 := ce_0 fun j _ => Nat.zero_testBit j
theorem popc_pos {w : Nat} (h : popc w ≠ 0) : 1 ≤ w := by
  rcases Nat.eq_zero_or_pos w with z | z
  · rw [z, popc_0] at h; exact absurd rfl h
  · exact z
