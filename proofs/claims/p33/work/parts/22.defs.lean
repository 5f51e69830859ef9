/-! what the rows hold, in words of numbers -/
theorem spA_sp {k : Nat} (h : k < 65) : spA k = (sp k : Int) := of_decide_eq_true (all_lt (N := 65) (P := fun k => decide (spA k = (sp k : Int))) (by decide +kernel) h)
def vA (fv : Nat → Int) (ts q : Int) : Int := if 0 ≤ q ∧ q < ts then fv q.toNat else 0
def rA (fr : Nat → Int) (ts p r : Int) : Int := if (0 ≤ p ∧ p < ts) ∧ 0 ≤ r ∧ r ≤ 3 then fr (4 * p + r).toNat else 0
def pI (n : Nat) (v : Int) : Int := if v < 1 then -1 else match plc n v.toNat with | some q => (q : Int) | none => -1
theorem pI_rng (n : Nat) (v : Int) : -1 ≤ pI n v := by
  unfold pI
  split
  · omega
  · split <;> omega
theorem pI_lo {n : Nat} {v : Int} (h : v < 1) : pI n v = -1 := if_pos h
theorem pI_nat (n v : Nat) (h : 1 ≤ v) : pI n (v : Int) = match plc n v with | some q => (q : Int) | none => -1 := by
  unfold pI; rw [if_neg (by omega), Int.toNat_natCast]
theorem pI_hi {n : Nat} {v : Int} (h : (n : Int) < v) : pI n v = -1 := by
  by_cases h1 : v < 1
  · exact pI_lo h1
  · obtain ⟨w, rfl⟩ := Int.eq_ofNat_of_zero_le (show 0 ≤ v by omega)
    rw [pI_nat n w (by omega), show plc n w = none from if_neg (by omega)]
theorem pI_bad {n : Nat} {v d : Int} (h1 : 1 ≤ v) (hd : d = (n : Int) / v) (h : (d < 1 ∨ ¬ (n : Int) / d = v)) : pI n v = -1 := by
  obtain ⟨w, rfl⟩ := Int.eq_ofNat_of_zero_le (show 0 ≤ v by omega)
  rw [pI_nat n w (by omega)]
  rw [← Int.natCast_ediv] at hd
  have : ¬ (1 ≤ w ∧ w ≤ n ∧ n / (n / w) = w) := by
    rintro ⟨a, b, c⟩
    rcases h with h | h
    · have := Nat.div_pos b (by omega)
      omega
    · apply h
      rw [hd, ← Int.natCast_ediv, c]
  rw [show plc n w = none from if_neg this]
theorem pI_ok {n : Nat} {v d : Int} (h1 : 1 ≤ v) (h2 : v ≤ n) (hd : d = (n : Int) / v) (h : (n : Int) / d = v) : pI n v = if v ≤ d then (SZ n : Int) - v else d - 1 := by
  obtain ⟨w, rfl⟩ := Int.eq_ofNat_of_zero_le (show 0 ≤ v by omega)
  rw [← Int.natCast_ediv] at hd
  rw [hd, ← Int.natCast_ediv] at h
  have hp := Nat.div_pos (show w ≤ n by omega) (show 0 < w by omega)
  have c : n / (n / w) = w := by omega
  have hs : plc n w = some (if w ≤ n / w then SZ n - w else n / w - 1) := if_pos ⟨by omega, by omega, c⟩
  have hlt := (plc_some (by omega) hs)
  rw [pI_nat n w (by omega), hs, hd]
  have hle : w ≤ n / w → w ≤ SZ n := fun e => by
    have := hlt.2
    rw [if_pos e] at this hlt
    rcases Nat.lt_or_ge (SZ n) w with z | z
    · have := qv_pos (n := n) (by omega) hlt.1
      rw [show SZ n - w = 0 by omega] at this hlt
      have h0 := qv_0 (n := n) (by omega)
      rw [hlt.2] at h0
      rw [h0, Nat.div_self (by omega)] at e
      have := SZ_pos (n := n) (by omega)
      omega
    · exact z
  by_cases e : w ≤ n / w
  · rw [if_pos e, if_pos (by omega)]
    have := hle e
    simp only []
    omega
  · rw [if_neg e, if_neg (by omega)]
    simp only []
    omega
theorem pI_lt {n : Nat} {v : Int} (hn : 1 ≤ n) : pI n v < (SZ n : Int) := by
  have hs := SZ_pos hn
  unfold pI
  split
  · omega
  · split
    · next q hq => have := (plc_some hn hq).1; omega
    · omega
def triA (v : Int) : Int := v * (v + 1) / 2
/-- the rests of the numbers up to v -/
theorem cR_0 (m r v : Nat) (hr : r < 4) : cR m 0 r v = if r = 0 then v / 4 else (v + 4 - r) / 4 := by
  unfold cR
  induction v with
  | zero =>
    rcases (show r = 0 ∨ r = 1 ∨ r = 2 ∨ r = 3 by omega) with rfl | rfl | rfl | rfl <;> rfl
  | succ w ih =>
    rw [ct_s, ih]
    rcases (show r = 0 ∨ r = 1 ∨ r = 2 ∨ r = 3 by omega) with rfl | rfl | rfl | rfl <;> simp [al] <;> split <;> omega
theorem sR_0 (m v : Nat) : 2 * sR m 0 v = v * (v + 1) := by
  unfold sR
  induction v with
  | zero => rfl
  | succ w ih =>
    rw [sm_s, Nat.mul_add, ih]
    simp only [al, if_true]
    rw [← Nat.add_mul, Nat.mul_comm (w + 2)]
/-- the tally of the bound n behind the first t primes, those of m striking -/
def TlOK (n t m : Nat) (tb ts : Int) (fv fr fs : Nat → Int) : Prop :=
  tb = (n : Int) ∧ ts = (SZ n : Int) ∧ ∀ q, q < SZ n → fv q = (qv n q : Int) ∧ (∀ r, r < 4 → fr (4 * q + r) = (cR m t r (qv n q) : Int)) ∧ fs q = (sR m t (qv n q) : Int)
