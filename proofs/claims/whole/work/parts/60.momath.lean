/-! the reference: a state of 42 numbers at place J -/
def MS (fs : Nat → Int) (J n k m : Nat) : Prop := fs (42 * J) = (n : Int) ∧ fs (42 * J + 1) = (k : Int) ∧ (∀ i, i < k → fs (42 * J + 2 + i) = if m.testBit i = true then 1 else 0) ∧ Vld (n, k, m)
def MO_ (J : Nat) (fs gs : Nat → Int) : Prop := ∀ q, (q < 42 * J ∨ 42 * J + 42 ≤ q) → gs q = fs q
theorem MO_r {J : Nat} {fs : Nat → Int} : MO_ J fs fs := fun _ _ => rfl
theorem MO_t {J : Nat} {fs gs hs : Nat → Int} (h1 : MO_ J fs gs) (h2 : MO_ J gs hs) : MO_ J fs hs := fun q hq => by rw [h2 q hq, h1 q hq]
theorem MO_u {J p : Nat} {fs gs : Nat → Int} {x : Int} (h : gs = upI fs p x) (hp : 42 * J ≤ p ∧ p < 42 * J + 42) : MO_ J fs gs := fun q hq => by rw [h, upI_n (by omega)]
theorem MS_mo {J I n k m : Nat} {fs gs : Nat → Int} (h : MO_ J fs gs) (hne : I ≠ J) (hs : MS fs I n k m) : MS gs I n k m := by
  obtain ⟨h1, h2, h3, h4⟩ := hs
  have hk := h4.2.2.1
  have hk : k ≤ 40 := hk
  refine ⟨by rw [h _ (by omega)]; exact h1, by rw [h _ (by omega)]; exact h2, fun i hi => by rw [h _ (by omega)]; exact h3 i hi, h4⟩
theorem MS_bound {J n : Nat} {fs g1 g2 : Nat → Int} {x : Int} (hx : x = (n : Int)) (hn : 1 ≤ n ∧ n ≤ 99999) (h1 : g1 = upI fs (42 * J) x) (h2 : g2 = upI g1 (42 * J + 1) 0) : MS g2 J n 0 0 ∧ MO_ J fs g2 := by
  refine ⟨⟨by rw [h2, upI_n (by omega), h1, upI_s, hx], by rw [h2, upI_s]; rfl, fun i hi => absurd hi (Nat.not_lt_zero i), ⟨hn.1, hn.2, by show (0:Nat) ≤ 40; omega, by show (0:Nat) < 2 ^ 0; decide⟩⟩, MO_t (MO_u h1 (by omega)) (MO_u h2 (by omega))⟩
theorem MS_comes {J n k m : Nat} {fs g1 g2 : Nat → Int} {s x : Int} (h : MS fs J n k m) (hk : k < 40) (hs : s = 0 ∨ s = 1) (hx : x = (k : Int) + 1) (h1 : g1 = upI fs (42 * J + 2 + k) s) (h2 : g2 = upI g1 (42 * J + 1) x) : MS g2 J n (k + 1) (if s = 0 then m else m ||| 2 ^ k) ∧ MO_ J fs g2 := by
  obtain ⟨z1, z2, z3, z4⟩ := h
  have hm : m < 2 ^ k := z4.2.2.2
  have hkf : m.testBit k = false := Nat.testBit_lt_two_pow hm
  refine ⟨⟨by rw [h2, upI_n (by omega), h1, upI_n (by omega)]; exact z1, by rw [h2, upI_s, hx, Int.natCast_add]; rfl, fun i hi => ?_, ⟨z4.1, z4.2.1, hk, ?_⟩⟩, MO_t (MO_u h1 (by omega)) (MO_u h2 (by omega))⟩
  · rw [h2, upI_n (by omega), h1]
    by_cases e : i = k
    · subst e
      rw [upI_s]
      rcases hs with rfl | rfl
      · show (0 : Int) = if m.testBit i = true then 1 else 0
        rw [hkf, if_neg (by decide)]
      · show (1 : Int) = if (m ||| 2 ^ i).testBit i = true then 1 else 0
        rw [Nat.testBit_or, Nat.testBit_two_pow, decide_eq_true rfl, Bool.or_true, if_pos rfl]
    · rw [upI_n (by omega), z3 i (by omega)]
      have e2 : (if s = 0 then m else m ||| 2 ^ k).testBit i = m.testBit i := by
        rcases hs with rfl | rfl
        · rfl
        · show (m ||| 2 ^ k).testBit i = _
          rw [Nat.testBit_or, Nat.testBit_two_pow, decide_eq_false (show ¬ k = i by omega), Bool.or_false]
      rw [e2]
  · have hp : (2 : Nat) ^ (k + 1) = 2 ^ k * 2 := Nat.pow_succ 2 k
    show (if s = 0 then m else m ||| 2 ^ k) < 2 ^ (k + 1)
    split
    · omega
    · exact Nat.or_lt_two_pow (by omega) (by omega)

