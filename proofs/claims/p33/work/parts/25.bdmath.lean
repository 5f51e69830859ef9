/-! the board: a bound n, k primes that came, the mask m of those that struck -/
theorem jl_shr {m : Nat} {k : Int} (hm : m < 2 ^ 64) (h0 : 0 ≤ k) (h1 : k < 64) : ((jL (m : Int)).toUInt64 >>> ((iI k).toInt64.toUInt64 &&& Int64.toUInt64 63)).toInt64 = jL ((m / 2 ^ k.toNat : Nat) : Int) := by
  obtain ⟨w, rfl⟩ := Int.eq_ofNat_of_zero_le h0
  rw [← lN_jL, ← lN_jL, ← nI_iI, Int.toNat_natCast]
  exact wb_shr hm (by omega)
theorem jl_shl (m : Nat) {k : Int} (h0 : 0 ≤ k) (h1 : k < 64) : jL (m : Int) <<< ((iI k).toInt64 &&& 63) = jL ((m * 2 ^ k.toNat : Nat) : Int) := by
  obtain ⟨w, rfl⟩ := Int.eq_ofNat_of_zero_le h0
  rw [← lN_jL, ← lN_jL, ← nI_iI, Int.toNat_natCast]
  exact wb_shl m (by omega)
theorem jl_and (a b : Nat) : jL (a : Int) &&& jL (b : Int) = jL ((a &&& b : Nat) : Int) := by
  rw [← lN_jL, ← lN_jL, ← lN_jL]; exact fb_andL a b
theorem jl_or (a b : Nat) : jL (a : Int) ||| jL (b : Int) = jL ((a ||| b : Nat) : Int) := by
  rw [← lN_jL, ← lN_jL, ← lN_jL]; exact fb_orL a b
theorem jl_xor (a b : Nat) : jL (a : Int) ^^^ jL (b : Int) = jL ((a ^^^ b : Nat) : Int) := by
  rw [← lN_jL, ← lN_jL, ← lN_jL]; exact fb_xorL a b
theorem jl_and1 (a : Nat) : jL (a : Int) &&& jL 1 = jL ((a % 2 : Nat) : Int) := by
  rw [← Nat.and_one_is_mod]; exact jl_and a 1
def pA (k : Int) : Int := if 0 ≤ k ∧ k < 40 then spA k.toNat else -1
theorem pA_in {k : Nat} (h : k < 40) : pA (k : Int) = (sp k : Int) := by
  unfold pA; rw [if_pos (by omega), Int.toNat_natCast, spA_sp (by omega)]
theorem pA_rng (k : Int) : -1 ≤ pA k ∧ pA k ≤ 313 := by
  unfold pA
  split
  · next h =>
    rw [spA_sp (by omega)]
    have := sp_le (k := k.toNat) (by omega)
    omega
  · omega
/-- the next prime -/
def nxI (n k : Nat) : Int := if k < 40 ∧ sp k ≤ n then (sp k : Int) else -1
theorem nxI_pA {n k : Nat} (h : k ≤ 40) : nxI n k = if (n : Int) < pA k then -1 else pA k := by
  unfold nxI
  by_cases e : k < 40
  · rw [pA_in e]
    by_cases e2 : sp k ≤ n
    · rw [if_pos ⟨e, e2⟩, if_neg (by omega)]
    · rw [if_neg (fun z => e2 z.2), if_pos (by omega)]
  · have : pA (k : Int) = -1 := if_neg (by omega)
    rw [if_neg (fun z => e z.1), this, if_neg (by omega)]
theorem nxI_some {n k : Nat} (h : ¬ nxI n k = -1) : k < 40 ∧ sp k ≤ n ∧ nxI n k = (sp k : Int) := by
  unfold nxI at *
  by_cases e : k < 40 ∧ sp k ≤ n
  · rw [if_pos e]; exact ⟨e.1, e.2, rfl⟩
  · rw [if_neg e] at h; exact absurd rfl h
theorem nxI_rng (n k : Nat) : -1 ≤ nxI n k ∧ nxI n k ≤ 313 := by
  unfold nxI
  split
  · next h => have := sp_le (k := k) (by omega); omega
  · omega
theorem or_lt {m k : Nat} (h : m < 2 ^ k) : m ||| 2 ^ k < 2 ^ (k + 1) := Nat.or_lt_two_pow (Nat.lt_trans h (Nat.pow_lt_pow_right (by omega) (by omega))) (Nat.pow_lt_pow_right (by omega) (by omega))
theorem or_tb (m k j : Nat) : (m ||| 2 ^ k).testBit j = (m.testBit j || decide (j = k)) := by
  rw [Nat.testBit_or, Nat.testBit_two_pow]
  by_cases h : k = j
  · simp [h]
  · rw [decide_eq_false h, decide_eq_false (fun e => h e.symm)]
theorem TlOK_cong {n t m m2 : Nat} {tb ts : Int} {fv fr fs : Nat → Int} (h : TlOK n t m tb ts fv fr fs) (hm : ∀ j, j < t → m.testBit j = m2.testBit j) : TlOK n t m2 tb ts fv fr fs := by
  refine ⟨h.1, h.2.1, fun q hq => ?_⟩
  obtain ⟨a, b, c⟩ := h.2.2 q hq
  refine ⟨a, fun r hr => ?_, ?_⟩
  · rw [b r hr]; unfold cR
    rw [ct_cong (fun x _ _ => by rw [al_cong hm x])]
  · rw [c]; unfold sR
    rw [sm_cong (fun x _ _ => by rw [al_cong hm x])]
theorem TlOK_spare {n t m : Nat} {tb ts : Int} {fv fr fs : Nat → Int} (h : TlOK n t m tb ts fv fr fs) (hb : m.testBit t = false) : TlOK n (t + 1) m tb ts fv fr fs := by
  refine ⟨h.1, h.2.1, fun q hq => ?_⟩
  obtain ⟨a, b, c⟩ := h.2.2 q hq
  refine ⟨a, fun r hr => ?_, ?_⟩
  · rw [b r hr]; unfold cR
    exact congrArg (fun z : Nat => (z : Int)) (ct_cong (fun x _ _ => by rw [al_spare hb x]))
  · rw [c]; unfold sR
    exact congrArg (fun z : Nat => (z : Int)) (sm_cong (fun x _ _ => by rw [al_spare hb x]))
/-- a board's numbers; its tally is that of the first tl primes, or none -/
def BdS (n k m : Nat) (bd cm sk : Int) : Prop := bd = (n : Int) ∧ cm = (k : Int) ∧ sk = (m : Int) ∧ 1 ≤ n ∧ n ≤ 99999 ∧ k ≤ 40 ∧ m < 2 ^ k
def BdT (n k m : Nat) (tl tb ts : Int) (fv fr fs : Nat → Int) : Prop := tl = -1 ∨ ∃ t : Nat, t ≤ k ∧ tl = (t : Int) ∧ TlOK n t m tb ts fv fr fs
theorem m_lt {k m : Nat} (h : m < 2 ^ k) (hk : k ≤ 40) : m < 2 ^ 64 := Nat.lt_of_lt_of_le h (Nat.pow_le_pow_right (by omega) (by omega))
theorem BdT_next {n k m m2 : Nat} {tl tb ts : Int} {fv fr fs : Nat → Int} (h : BdT n k m tl tb ts fv fr fs) (hm : ∀ j, j < k → m.testBit j = m2.testBit j) : BdT n (k + 1) m2 tl tb ts fv fr fs := by
  rcases h with h | ⟨t, h1, h2, h3⟩
  · exact Or.inl h
  · exact Or.inr ⟨t, by omega, h2, TlOK_cong h3 fun j hj => hm j (by omega)⟩
theorem BdS_next {n k m : Nat} {bd cm sk cm2 sk2 s : Int} (h : BdS n k m bd cm sk) (hk : k < 40) (h1 : cm2 = cm + 1) (h2 : sk2 = if s = 0 then (m : Int) else ((m ||| 2 ^ k : Nat) : Int)) : BdS n (k + 1) (if s = 0 then m else m ||| 2 ^ k) bd cm2 sk2 := by
  obtain ⟨a, b, c, d, e, f, g⟩ := h
  refine ⟨a, by omega, ?_, d, e, by omega, ?_⟩
  · rw [h2]; split <;> rfl
  · split
    · exact Nat.lt_trans g (Nat.pow_lt_pow_right (by omega) (by omega))
    · exact or_lt g
/-- striking up to a number -/
def sjF (n : Nat) (most : Int) : Nat → Nat → Nat
  | 0, _ => 0
  | f + 1, k => if nxI n k ≠ -1 ∧ nxI n k ≤ most then sjF n most f (k + 1) + 1 else 0
def sj (n : Nat) (most : Int) (k : Nat) : Nat := sjF n most 40 k
def msk (m k : Nat) : Nat → Nat
  | 0 => m
  | j + 1 => msk m k j ||| 2 ^ (k + j)
def StoR (n : Nat) (most : Int) (k j : Nat) : Prop := (∀ i, i < j → nxI n (k + i) ≠ -1 ∧ nxI n (k + i) ≤ most) ∧ ¬ (nxI n (k + j) ≠ -1 ∧ nxI n (k + j) ≤ most)
theorem StoR_one {n : Nat} {most : Int} {k j j2 : Nat} (h : StoR n most k j) (h2 : StoR n most k j2) : j = j2 := by
  rcases Nat.lt_or_ge j j2 with z | z
  · exact absurd (h2.1 j z) h.2
  · rcases Nat.lt_or_ge j2 j with y | y
    · exact absurd (h.1 j2 y) h2.2
    · omega
theorem sjF_R {n : Nat} {most : Int} : ∀ (f k : Nat), 40 ≤ k + f → StoR n most k (sjF n most f k)
  | 0, k, h => ⟨fun i hi => absurd hi (Nat.not_lt_zero i), fun z => by have := (nxI_some z.1).1; omega⟩
  | f + 1, k, h => by
    unfold sjF
    by_cases e : nxI n k ≠ -1 ∧ nxI n k ≤ most
    · rw [if_pos e]
      obtain ⟨a, b⟩ := sjF_R (n := n) (most := most) f (k + 1) (by omega)
      refine ⟨fun i hi => ?_, ?_⟩
      · by_cases e2 : i = 0
        · rw [e2]; exact e
        · have := a (i - 1) (by omega)
          rw [show k + 1 + (i - 1) = k + i by omega] at this; exact this
      · rw [show k + (sjF n most f (k + 1) + 1) = k + 1 + sjF n most f (k + 1) by omega]; exact b
    · rw [if_neg e]
      exact ⟨fun i hi => absurd hi (Nat.not_lt_zero i), e⟩
theorem sj_R (n : Nat) (most : Int) (k : Nat) : StoR n most k (sj n most k) := sjF_R 40 k (by omega)
theorem sj_of {n : Nat} {most : Int} {k j : Nat} (h : StoR n most k j) : j = sj n most k := StoR_one h (sj_R n most k)
theorem sj_le (n : Nat) (most : Int) {k : Nat} (hk : k ≤ 40) : k + sj n most k ≤ 40 := by
  rcases Nat.lt_or_ge 40 (k + sj n most k) with z | z
  · have := (sj_R n most k).1 (40 - k) (by omega)
    have := (nxI_some this.1).1
    omega
  · exact z
theorem msk_tb (m k : Nat) : ∀ j i, (msk m k j).testBit i = (m.testBit i || decide (k ≤ i ∧ i < k + j))
  | 0, i => by
    have : ¬ (k ≤ i ∧ i < k + 0) := by omega
    rw [decide_eq_false this, Bool.or_false]; rfl
  | j + 1, i => by
    rw [show msk m k (j + 1) = msk m k j ||| 2 ^ (k + j) from rfl, or_tb, msk_tb m k j i, Bool.or_assoc]
    congr 1
    rw [Bool.eq_iff_iff]
    simp
    omega
theorem msk_lt {m k : Nat} (h : m < 2 ^ k) : ∀ j, msk m k j < 2 ^ (k + j)
  | 0 => h
  | j + 1 => or_lt (msk_lt h j)
theorem BdT_rng {n k m : Nat} {tl tb ts : Int} {fv fr fs : Nat → Int} (h : BdT n k m tl tb ts fv fr fs) : -1 ≤ tl ∧ tl ≤ (k : Int) := by
  rcases h with h | ⟨t, h1, h2, -⟩ <;> omega
