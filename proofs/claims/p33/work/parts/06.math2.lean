/-! quotients of n -/
/-- the least d with n < d (d + 1) -/
def sqF (n : Nat) : Nat → Nat → Nat
  | 0, d => d
  | f + 1, d => if n < d * (d + 1) then d else sqF n f (d + 1)
def sq (n : Nat) : Nat := sqF n (n + 1) 1
theorem sqF_spec (n : Nat) : ∀ (f d : Nat), 1 ≤ d → n < d + f → d * (d - 1) ≤ n → 1 ≤ sqF n f d ∧ n < sqF n f d * (sqF n f d + 1) ∧ sqF n f d * (sqF n f d - 1) ≤ n
  | 0, d, h1, h2, h3 => by
    refine ⟨h1, ?_, h3⟩
    show n < d * (d + 1)
    have : d * 1 ≤ d * (d + 1) := Nat.mul_le_mul_left d (by omega)
    omega
  | f + 1, d, h1, h2, h3 => by
    unfold sqF
    by_cases h : n < d * (d + 1)
    · rw [if_pos h]; exact ⟨h1, h, h3⟩
    · rw [if_neg h]
      refine sqF_spec n f (d + 1) (by omega) (by omega) ?_
      rw [Nat.add_sub_cancel, Nat.mul_comm]; omega
theorem sq_spec (n : Nat) : 1 ≤ sq n ∧ n < sq n * (sq n + 1) ∧ sq n * (sq n - 1) ≤ n := sqF_spec n (n + 1) 1 (Nat.le_refl 1) (by omega) (by omega)
def SZ (n : Nat) : Nat := sq n - 1 + n / sq n
def qv (n q : Nat) : Nat := if q + 1 < sq n then n / (q + 1) else SZ n - q
theorem sq_v0 (n : Nat) : n / sq n ≤ sq n := by
  obtain ⟨h1, h2, h3⟩ := sq_spec n
  have := (Nat.div_lt_iff_lt_mul (x := n) (y := sq n + 1) (k := sq n) (by omega)).mpr (by rw [Nat.mul_comm]; exact h2)
  omega
theorem sq_pos {n : Nat} (hn : 1 ≤ n) : 1 ≤ n / sq n := by
  obtain ⟨h1, h2, h3⟩ := sq_spec n
  refine Nat.div_pos ?_ (by omega)
  rcases Nat.lt_or_ge (sq n) 2 with z | z
  · omega
  · have : sq n * 1 ≤ sq n * (sq n - 1) := Nat.mul_le_mul_left _ (by omega)
    omega
theorem SZ_pos {n : Nat} (hn : 1 ≤ n) : 1 ≤ SZ n := by have := sq_pos hn; unfold SZ; omega
theorem sq_316 {n : Nat} (hn : n ≤ 99999) : sq n ≤ 316 := by
  obtain ⟨h1, h2, h3⟩ := sq_spec n
  rcases Nat.lt_or_ge (sq n) 317 with z | z
  · omega
  · have := Nat.mul_le_mul z (show 316 ≤ sq n - 1 by omega)
    omega
theorem SZ_631 {n : Nat} (hn : n ≤ 99999) : SZ n ≤ 631 := by
  have h1 := sq_316 hn
  have h2 := sq_v0 n
  obtain ⟨h3, -, -⟩ := sq_spec n
  unfold SZ; omega
theorem SZ_le {n : Nat} (hn : 1 ≤ n) : SZ n ≤ n := by
  obtain ⟨h1, h2, h3⟩ := sq_spec n
  unfold SZ
  rcases Nat.lt_or_ge (sq n) 2 with z | z
  · have : sq n = 1 := by omega
    rw [this, Nat.div_one]; omega
  · have h4 := Nat.div_mul_le_self n (sq n)
    have h5 := sq_pos hn
    -- (a-1)(b-1) >= 0 : a*b >= a+b-1
    obtain ⟨a, ha⟩ : ∃ a, sq n = a + 1 := ⟨sq n - 1, by omega⟩
    obtain ⟨b, hb⟩ : ∃ b, n / sq n = b + 1 := ⟨n / sq n - 1, by omega⟩
    rw [ha] at h4 hb ⊢
    rw [hb] at h4 ⊢
    have : (b + 1) * (a + 1) = b * a + b + a + 1 := by rw [Nat.add_mul, Nat.mul_add]; omega
    omega
/-- first part of the row: the divisor is the place and one more -/
theorem qv_lo {n q : Nat} (h : q + 1 < sq n) : qv n q = n / (q + 1) := if_pos h
theorem qv_hi {n q : Nat} (h : sq n ≤ q + 1) : qv n q = SZ n - q := if_neg (by omega)
theorem qv_mid (n : Nat) (hn : 1 ≤ n) : qv n (sq n - 1) = n / sq n := by
  obtain ⟨h1, -, -⟩ := sq_spec n
  rw [qv_hi (by omega)]; unfold SZ; generalize n / sq n = z; omega
/-- for a small d, its quotient's last divisor is d itself -/
theorem div_small {n d : Nat} (h1 : 1 ≤ d) (h : d * (d + 1) ≤ n) : d < n / d ∧ n / (n / d) = d := by
  have a : d + 1 ≤ n / d := (Nat.le_div_iff_mul_le (by omega)).mpr (by rw [Nat.mul_comm]; exact h)
  refine ⟨by omega, ?_⟩
  have h2 := Nat.div_mul_le_self n d
  have h3 := Nat.lt_mul_div_succ n (show 0 < d by omega)
  refine Nat.div_eq_of_lt_le ?_ ?_
  · rw [Nat.mul_comm]; rw [Nat.mul_comm] at h2; rwa [Nat.mul_comm] 
  · have e1 : d * (n / d + 1) = d * (n / d) + d := by rw [Nat.mul_add, Nat.mul_one]
    have e2 : (d + 1) * (n / d) = d * (n / d) + n / d := by rw [Nat.add_mul, Nat.one_mul]
    omega
/-- every number not above its own quotient is a quotient -/
theorem div_big {n u : Nat} (h1 : 1 ≤ u) (h : u * u ≤ n) : u ≤ n / u ∧ n / (n / u) = u := by
  have a : u ≤ n / u := (Nat.le_div_iff_mul_le (by omega)).mpr h
  refine ⟨a, ?_⟩
  have h2 := Nat.div_mul_le_self n u
  have h3 := Nat.lt_mul_div_succ n (show 0 < u by omega)
  refine Nat.div_eq_of_lt_le ?_ ?_
  · rwa [Nat.mul_comm]
  · have e1 : u * (n / u + 1) = u * (n / u) + u := by rw [Nat.mul_add, Nat.mul_one]
    have e2 : (u + 1) * (n / u) = u * (n / u) + n / u := by rw [Nat.add_mul, Nat.one_mul]
    omega
theorem qv_pos {n q : Nat} (hn : 1 ≤ n) (h : q < SZ n) : 1 ≤ qv n q ∧ qv n q ≤ n := by
  obtain ⟨h1, h2, h3⟩ := sq_spec n
  by_cases e : q + 1 < sq n
  · rw [qv_lo e]
    refine ⟨Nat.div_pos ?_ (by omega), Nat.div_le_self _ _⟩
    have : sq n * 1 ≤ sq n * (sq n - 1) := Nat.mul_le_mul_left _ (by omega)
    omega
  · rw [qv_hi (by omega)]
    have h4 := SZ_le hn
    omega
theorem lo_le {n q : Nat} (e : q + 1 < sq n) : (q + 1) * (q + 1 + 1) ≤ n := by
  obtain ⟨h1, h2, h3⟩ := sq_spec n
  have := Nat.mul_le_mul (show q + 1 + 1 ≤ sq n by omega) (show q + 1 ≤ sq n - 1 by omega)
  rw [Nat.mul_comm]; omega
theorem hi_le {n q : Nat} (e : sq n ≤ q + 1) : (SZ n - q) * (SZ n - q) ≤ n := by
  obtain ⟨h1, h2, h3⟩ := sq_spec n
  have h4 := sq_v0 n
  have h5 := Nat.div_mul_le_self n (sq n)
  have h6 : SZ n - q ≤ n / sq n := by unfold SZ; generalize n / sq n = z; omega
  have := Nat.mul_le_mul h6 (Nat.le_trans h6 h4)
  omega
/-- which divisor a loop over the divisors stands at, ahead of the place q: the first one of that quotient -/
def dvr (n q : Nat) : Nat := if q + 1 ≤ sq n then q + 1 else n / (SZ n - q + 1) + 1
theorem dvr_0 (n : Nat) : dvr n 0 = 1 := by
  obtain ⟨h1, -, -⟩ := sq_spec n
  unfold dvr; rw [if_pos (by omega)]
theorem dvr_pos (n q : Nat) : 1 ≤ dvr n q := by
  unfold dvr
  split
  · omega
  · exact Nat.le_add_left 1 _
theorem dvr_v {n q : Nat} (hn : 1 ≤ n) (h : q < SZ n) : n / dvr n q = qv n q := by
  obtain ⟨h1, h2, h3⟩ := sq_spec n
  by_cases e : q + 1 ≤ sq n
  · unfold dvr; rw [if_pos e]
    by_cases e2 : q + 1 < sq n
    · rw [qv_lo e2]
    · rw [show q + 1 = sq n by omega, show q = sq n - 1 by omega, qv_mid n hn]
  · unfold dvr; rw [if_neg e, qv_hi (by omega)]
    obtain ⟨v, hv⟩ : ∃ v, SZ n - q = v := ⟨_, rfl⟩
    rw [hv]
    have hv1 : 1 ≤ v := by omega
    have hle := hi_le (n := n) (q := q - 1) (by omega)
    rw [show SZ n - (q - 1) = v + 1 by omega] at hle
    obtain ⟨a, b⟩ := div_big (by omega) hle
    -- e := n/(v+1) + 1; n / e = v
    have c1 := Nat.div_mul_le_self n (v + 1)
    have c2 := Nat.lt_mul_div_succ n (show 0 < v + 1 by omega)
    obtain ⟨w, hw⟩ : ∃ w, n / (v + 1) = w := ⟨_, rfl⟩
    rw [hw] at a c1 c2 ⊢
    refine Nat.div_eq_of_lt_le ?_ ?_
    · have e1 : (w + 1) * v = w * v + v := by rw [Nat.add_mul, Nat.one_mul]
      have e2 : w * (v + 1) = w * v + w := by rw [Nat.mul_add, Nat.mul_one]
      have e3 : v * (w + 1) = (w + 1) * v := Nat.mul_comm _ _
      omega
    · exact c2
theorem dvr_s {n q : Nat} (hn : 1 ≤ n) (h : q < SZ n) : n / qv n q + 1 = dvr n (q + 1) := by
  obtain ⟨h1, h2, h3⟩ := sq_spec n
  by_cases e : q + 1 < sq n
  · rw [qv_lo e, (div_small (by omega) (lo_le e)).2]
    unfold dvr; rw [if_pos (by omega)]
  · rw [qv_hi (by omega)]
    unfold dvr; rw [if_neg (by omega), show SZ n - (q + 1) + 1 = SZ n - q by omega]
theorem dvr_end {n : Nat} (hn : 1 ≤ n) : n < dvr n (SZ n) := by
  have h := dvr_s (n := n) (q := SZ n - 1) hn (by have := SZ_pos hn; omega)
  have hp := SZ_pos hn
  rw [show SZ n - 1 + 1 = SZ n by omega] at h
  obtain ⟨h1, h2, h3⟩ := sq_spec n
  have h4 := sq_pos hn
  rw [← h, qv_hi (by unfold SZ; omega), show SZ n - (SZ n - 1) = 1 by omega, Nat.div_one]
  omega
theorem dvr_le {n q : Nat} (hn : 1 ≤ n) (h : q < SZ n) : dvr n q ≤ n := by
  have h1 := (qv_pos hn h).1
  rw [← dvr_v hn h] at h1
  rcases Nat.lt_or_ge n (dvr n q) with z | z
  · rw [Nat.div_eq_of_lt z] at h1; omega
  · exact z
/-- where a quotient stands -/
def plc (n v : Nat) : Option Nat := if 1 ≤ v ∧ v ≤ n ∧ n / (n / v) = v then some (if v ≤ n / v then SZ n - v else n / v - 1) else none
theorem qv_q {n q : Nat} (hn : 1 ≤ n) (h : q < SZ n) : n / (n / qv n q) = qv n q := by
  by_cases e : q + 1 < sq n
  · rw [qv_lo e, (div_small (by omega) (lo_le e)).2]
  · rw [qv_hi (by omega)]
    exact (div_big (by omega) (hi_le (by omega))).2
theorem plc_qv {n q : Nat} (hn : 1 ≤ n) (h : q < SZ n) : plc n (qv n q) = some q := by
  have h1 := qv_pos hn h
  unfold plc
  rw [if_pos ⟨h1.1, h1.2, qv_q hn h⟩]
  congr 1
  by_cases e : q + 1 < sq n
  · obtain ⟨a, b⟩ := div_small (by omega) (lo_le e)
    rw [qv_lo e, b, if_neg (by omega)]; omega
  · have hq := qv_hi (n := n) (q := q) (by omega)
    obtain ⟨a, b⟩ := div_big (u := SZ n - q) (by omega) (hi_le (by omega))
    rw [hq, if_pos a]; omega
theorem plc_some {n v q : Nat} (hn : 1 ≤ n) (h : plc n v = some q) : q < SZ n ∧ qv n q = v := by
  obtain ⟨h1, h2, h3⟩ := sq_spec n
  unfold plc at h
  by_cases c : 1 ≤ v ∧ v ≤ n ∧ n / (n / v) = v
  · rw [if_pos c] at h
    have h := Option.some.inj h
    obtain ⟨c1, c2, c3⟩ := c
    have d1 : 1 ≤ n / v := Nat.div_pos c2 (by omega)
    have m1 := Nat.div_mul_le_self n v
    have m2 := Nat.lt_mul_div_succ n (show 0 < v by omega)
    by_cases e : v ≤ n / v
    · rw [if_pos e] at h
      have vv : v * v ≤ n := Nat.le_trans (Nat.mul_le_mul_left v e) (by rw [Nat.mul_comm]; exact m1)
      have hv : v ≤ n / sq n := by
        -- v <= sq n and (if v < sq n then v * sq n <= n)
        have v0 := sq_v0 n
        rcases Nat.lt_or_ge (n / sq n) v with z | z
        · exfalso
          rcases Nat.lt_or_ge v (sq n) with y | y
          · have z1 := (Nat.div_lt_iff_lt_mul (show 0 < sq n by omega)).mp z
            have := Nat.mul_le_mul_right (sq n) (show v ≤ sq n - 1 by omega)
            rw [Nat.mul_comm (sq n - 1)] at this
            omega
          · have z1 := (Nat.div_lt_iff_lt_mul (show 0 < sq n by omega)).mp z
            have := Nat.mul_le_mul_left v y
            omega
        · exact z
      refine ⟨by rw [← h]; unfold SZ; omega, ?_⟩
      rw [← h, qv_hi (by unfold SZ; omega)]; unfold SZ; omega
    · rw [if_neg e] at h
      obtain ⟨d, hd⟩ : ∃ d, n / v = d := ⟨_, rfl⟩
      rw [hd] at h d1 c3 m1 m2 e
      have dd : d * (d + 1) ≤ n := Nat.le_trans (Nat.mul_le_mul_left d (show d + 1 ≤ v by omega)) m1
      have ds : d < sq n := by
        rcases Nat.lt_or_ge d (sq n) with z | z
        · exact z
        · have := Nat.mul_le_mul z (show sq n + 1 ≤ d + 1 by omega); omega
      refine ⟨by rw [← h]; have := sq_pos hn; unfold SZ; omega, ?_⟩
      rw [← h, qv_lo (by omega), show d - 1 + 1 = d by omega, c3]
  · rw [if_neg c] at h; cases h
theorem qv_inj {n q q2 : Nat} (hn : 1 ≤ n) (h : q < SZ n) (h2 : q2 < SZ n) (e : qv n q = qv n q2) : q = q2 := by
  have a := plc_qv hn h
  rw [e, plc_qv hn h2] at a
  exact (Option.some.inj a).symm
theorem plc_none {n v : Nat} (hn : 1 ≤ n) (h : plc n v = none) : ∀ q, q < SZ n → qv n q ≠ v := fun q hq e => by
  have := plc_qv hn hq
  rw [e, h] at this
  cases this
/-- n / d is a quotient -/
theorem plc_div {n d : Nat} (h1 : 1 ≤ d) (h2 : d ≤ n) : ∃ q, plc n (n / d) = some q ∧ q < SZ n ∧ qv n q = n / d := by
  have hn : 1 ≤ n := by omega
  obtain ⟨v, hv⟩ : ∃ v, n / d = v := ⟨_, rfl⟩
  have v1 : 1 ≤ v := by rw [← hv]; exact Nat.div_pos h2 (by omega)
  have v2 : v ≤ n := by rw [← hv]; exact Nat.div_le_self _ _
  have k : n / (n / v) = v := by
    have a1 : d ≤ n / v := (Nat.le_div_iff_mul_le (by omega)).mpr (by rw [← hv, Nat.mul_comm]; exact Nat.div_mul_le_self n d)
    have a2 : n / (n / v) ≤ n / d := Nat.div_le_div_left a1 (by omega)
    have a3 : v ≤ n / (n / v) := (Nat.le_div_iff_mul_le (Nat.div_pos v2 (by omega))).mpr (by rw [Nat.mul_comm]; exact Nat.div_mul_le_self n v)
    omega
  have hp : plc n v = some (if v ≤ n / v then SZ n - v else n / v - 1) := if_pos ⟨v1, v2, k⟩
  rw [hv]
  exact ⟨_, hp, plc_some hn hp⟩
/-- a quotient's quotient -/
theorem plc_sub {n q p : Nat} (hn : 1 ≤ n) (hq : q < SZ n) (hp : 1 ≤ p) (h : p ≤ qv n q) : ∃ s, plc n (qv n q / p) = some s ∧ s < SZ n ∧ qv n s = qv n q / p := by
  have e := dvr_v hn hq
  have d1 := dvr_pos n q
  have h3 : qv n q / p = n / (dvr n q * p) := by rw [← e, Nat.div_div_eq_div_mul]
  rw [h3]
  refine plc_div (Nat.mul_pos d1 hp) ?_
  rw [← e] at h
  have := (Nat.le_div_iff_mul_le (show 0 < dvr n q by omega)).mp h
  rw [Nat.mul_comm]; exact this
theorem qv_dec {n q : Nat} (hn : 1 ≤ n) (h : q + 1 < SZ n) : qv n (q + 1) < qv n q := by
  have e1 := dvr_s hn (show q < SZ n by omega)
  have e2 := dvr_v hn h
  rw [← e1] at e2
  have h1 := (qv_pos hn (show q < SZ n by omega)).1
  have h2 := Nat.lt_mul_div_succ n (show 0 < qv n q by omega)
  have h3 := (Nat.div_lt_iff_lt_mul (x := n) (y := qv n q) (k := n / qv n q + 1) (Nat.succ_pos _)).mpr h2
  omega
theorem qv_anti {n q : Nat} (hn : 1 ≤ n) : ∀ {r : Nat}, q < r → r < SZ n → qv n r < qv n q
  | 0, h, _ => by omega
  | r + 1, h, h2 => by
    have h3 := qv_dec hn h2
    by_cases e : q = r
    · rw [e]; exact h3
    · have := qv_anti hn (q := q) (r := r) (by omega) (by omega); omega
theorem qv_0 {n : Nat} (hn : 1 ≤ n) : qv n 0 = n := by
  rw [← dvr_v hn (SZ_pos hn), dvr_0, Nat.div_one]
