/-! the reference: states remembered -/
def CpOK (A B : Nat) (fs gs : Nat → Int) : Prop := (∀ i, i < 42 → gs (42 * B + i) = fs (42 * A + i)) ∧ MO_ B fs gs
theorem MS_blk {A B n k m : Nat} {fs gs : Nat → Int} (h : ∀ i, i < 42 → gs (42 * B + i) = fs (42 * A + i)) (hs : MS fs A n k m) : MS gs B n k m := by
  obtain ⟨h1, h2, h3, h4⟩ := hs
  have hk : k ≤ 40 := h4.2.2.1
  refine ⟨?_, ?_, fun i hi => ?_, h4⟩
  · have := h 0 (by omega)
    rw [Nat.add_zero, Nat.add_zero] at this
    rw [this]; exact h1
  · rw [h 1 (by omega)]; exact h2
  · have := h (2 + i) (by omega)
    rw [← Nat.add_assoc, ← Nat.add_assoc] at this
    rw [this]; exact h3 i hi
theorem MS_cp {A B n k m : Nat} {fs gs : Nat → Int} (h : CpOK A B fs gs) (hs : MS fs A n k m) : MS gs B n k m := MS_blk h.1 hs
theorem MS_eq {A n k m : Nat} {fs gs : Nat → Int} (h : ∀ i, i < 42 → gs (42 * A + i) = fs (42 * A + i)) (hs : MS fs A n k m) : MS gs A n k m := by
  obtain ⟨h1, h2, h3, h4⟩ := hs
  have hk : k ≤ 40 := h4.2.2.1
  refine ⟨?_, ?_, fun i hi => ?_, h4⟩
  · have := h 0 (by omega)
    rw [Nat.add_zero] at this
    rw [this]; exact h1
  · rw [h 1 (by omega)]; exact h2
  · have := h (2 + i) (by omega)
    rw [← Nat.add_assoc] at this
    rw [this]; exact h3 i hi
def MR (R : List (Nat × Nat × Nat)) (st : Int) (fs : Nat → Int) : Prop := st = (R.length : Int) ∧ R.length ≤ 14 ∧ ∀ (i : Nat) (x : Nat × Nat × Nat), R[i]? = some x → MS fs (R.length - i) x.1 x.2.1 x.2.2
/-- shifted up to place i -/
def ShI (i : Int) (fs gs : Nat → Int) : Prop := ∀ q : Nat, gs q = if 42 ≤ q ∧ (q : Int) < 42 * i then fs (q + 42) else fs q
theorem ShI_1 {fs : Nat → Int} : ShI 1 fs fs := fun q => by rw [if_neg (by omega)]
theorem ShI_go {i : Int} {fs gs hs : Nat → Int} (hi : 1 ≤ i ∧ i < 14) (h : ShI i fs gs) (hc : CpOK (i + 1).toNat i.toNat gs hs) : ShI (i + 1) fs hs := by
  intro q
  by_cases e : (q : Int) < 42 * i ∨ 42 * i + 42 ≤ (q : Int)
  · rw [hc.2 q (by omega), h q]
    by_cases e2 : 42 ≤ q ∧ (q : Int) < 42 * i
    · rw [if_pos e2, if_pos (by omega)]
    · rw [if_neg e2, if_neg (by omega)]
  · rw [if_pos (by omega)]
    have := hc.1 (q - 42 * i.toNat) (by omega)
    rw [show 42 * i.toNat + (q - 42 * i.toNat) = q by omega] at this
    rw [this, h, if_neg (by omega), show 42 * (i + 1).toNat + (q - 42 * i.toNat) = q + 42 by omega]
theorem MR_push {R : List (Nat × Nat × Nat)} {st st2 : Int} {fs gs hs : Nat → Int} {n k m : Nat} (h : MR R st fs) (h0 : MS fs 0 n k m) (hg : (st ≠ 14 ∧ gs = fs ∧ st2 = st + 1) ∨ (st = 14 ∧ ShI 14 fs gs ∧ st2 = 14)) (hc : CpOK 0 st2.toNat gs hs) : MR (((n, k, m) :: R).take 14) st2 hs ∧ MS hs 0 n k m ∧ ∀ J, 15 ≤ J → ∀ i, i < 42 → hs (42 * J + i) = fs (42 * J + i) := by
  obtain ⟨h1, h2, h3⟩ := h
  have hlen : (((n, k, m) :: R).take 14).length = st2.toNat := by
    rw [List.length_take, List.length_cons]
    rcases hg with ⟨a, b, c⟩ | ⟨a, b, c⟩ <;> omega
  have hs2 : 1 ≤ st2 ∧ st2 ≤ 14 := by rcases hg with ⟨a, b, c⟩ | ⟨a, b, c⟩ <;> omega
  have hg0 : ∀ J, (J = 0 ∨ 15 ≤ J) → ∀ i, i < 42 → gs (42 * J + i) = fs (42 * J + i) := by
    intro J hJ i hi
    rcases hg with ⟨a, b, c⟩ | ⟨a, b, c⟩
    · rw [b]
    · rw [b, if_neg (by omega)]
  have hM0 : MS gs 0 n k m := MS_eq (hg0 0 (Or.inl rfl)) h0
  refine ⟨⟨by rw [hlen]; omega, by rw [hlen]; omega, fun i x hx => ?_⟩, MS_mo hc.2 (by omega) hM0, fun J hJ i hi => by rw [hc.2 _ (by omega)]; exact hg0 J (Or.inr hJ) i hi⟩
  rw [hlen]
  rw [List.getElem?_take] at hx
  split at hx
  · rcases i with _ | i
    · rw [List.getElem?_cons_zero] at hx
      cases hx
      exact MS_cp hc hM0
    · rw [List.getElem?_cons_succ] at hx
      have hi : i < R.length := by
        rcases Nat.lt_or_ge i R.length with z | z
        · exact z
        · rw [List.getElem?_eq_none z] at hx; cases hx
      have hM := h3 i x hx
      refine MS_mo hc.2 (by omega) ?_
      rcases hg with ⟨a, b, c⟩ | ⟨a, b, c⟩
      · rw [b, show st2.toNat - (i + 1) = R.length - i by omega]; exact hM
      · refine MS_blk (A := R.length - i) (B := st2.toNat - (i + 1)) (fs := fs) (gs := gs) (fun q hq => ?_) hM
        rw [b, if_pos (by omega)]
        exact congrArg fs (by omega)
  · cases hx

