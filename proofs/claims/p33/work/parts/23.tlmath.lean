/-! steps of the tally's loops -/
theorem iI_and3 (a : Int) : iI a &&& iI 3 = iI (a % 4) := iI_mask a 2 (by decide)
theorem iI_and31 (a : Int) : iI a &&& iI 31 = iI (a % 32) := iI_mask a 5 (by decide)
theorem mul_rng {a b A B : Int} (a0 : 0 ≤ a) (a1 : a ≤ A) (b0 : 0 ≤ b) (b1 : b ≤ B) : 0 ≤ a * b ∧ a * b ≤ A * B := ⟨Int.mul_nonneg a0 b0, Int.mul_le_mul a1 b1 b0 (by omega)⟩
theorem upI_4 {f g : Nat → Int} {q r k j : Nat} {x : Int} (hr : r < 4) (hj : j < 4) (hg : g = upI f (4 * q + r) x) : g (4 * k + j) = if k = q ∧ j = r then x else f (4 * k + j) := by
  rw [hg]; unfold upI
  by_cases h : k = q ∧ j = r
  · rw [if_pos h, if_pos (by omega)]
  · rw [if_neg h, if_neg (by omega)]
theorem cR_0i (m : Nat) {i v x : Int} (hi : 0 ≤ i ∧ i < 4) (hv : 0 ≤ v) (hx : x = if i = 0 then v / 4 else (v + 4 - i) / 4) : x = (cR m 0 i.toNat v.toNat : Int) := by
  obtain ⟨w, rfl⟩ := Int.eq_ofNat_of_zero_le hv
  obtain ⟨k, rfl⟩ := Int.eq_ofNat_of_zero_le hi.1
  rw [Int.toNat_natCast, Int.toNat_natCast, cR_0 m k w (by omega), hx]
  split <;> split <;> omega
theorem fill_step {f g fr : Nat → Int} {m P : Nat} {p i v x y : Int} (hp : p = (P : Int)) (hv : 0 ≤ v) (hi : 0 ≤ i ∧ i < 4) (hy : y = 4 * p + i) (hx : x = if i = 0 then v / 4 else (v + 4 - i) / 4)
    (hf : ∀ k j, j < 4 → f (4 * k + j) = if k = P ∧ (j : Int) < i then (cR m 0 j v.toNat : Int) else fr (4 * k + j)) (hg : g = upI f y.toNat x) : ∀ k j, j < 4 → g (4 * k + j) = if k = P ∧ (j : Int) < i + 1 then (cR m 0 j v.toNat : Int) else fr (4 * k + j) := by
  intro k j hj
  have hx := cR_0i m hi hv hx
  obtain ⟨r, rfl⟩ := Int.eq_ofNat_of_zero_le hi.1
  rw [show y.toNat = 4 * P + r by omega] at hg
  rw [upI_4 (by omega) hj hg, hf k j hj]
  by_cases h : k = P ∧ j = r
  · rw [if_pos h, if_pos ⟨h.1, by omega⟩, hx, h.2, Int.toNat_natCast]
  · rw [if_neg h]
    by_cases h2 : k = P ∧ (j : Int) < r
    · rw [if_pos h2, if_pos ⟨h2.1, by omega⟩]
    · rw [if_neg h2, if_neg (fun z => h2 ⟨z.1, by rcases z with ⟨z1, z2⟩; have : ¬ j = r := fun e => h ⟨z1, e⟩; omega⟩)]
theorem sR_0i (m : Nat) {v x y : Int} (hv : 0 ≤ v) (hy : y = v * (v + 1)) (hx : x = y / 2) : x = (sR m 0 v.toNat : Int) := by
  obtain ⟨w, rfl⟩ := Int.eq_ofNat_of_zero_le hv
  have h := sR_0 m w
  rw [Int.toNat_natCast]
  have e : ((w : Int) * ((w : Int) + 1)) = ((w * (w + 1) : Nat) : Int) := by rw [Int.natCast_mul, Int.natCast_add]; rfl
  rw [e, ← h] at hy
  omega
/-- the first q places are laid -/
def TlP (n q m : Nat) (fv fr fs : Nat → Int) : Prop := ∀ i, i < q → fv i = (qv n i : Int) ∧ (∀ r, r < 4 → fr (4 * i + r) = (cR m 0 r (qv n i) : Int)) ∧ fs i = (sR m 0 (qv n i) : Int)
theorem TlP_step {n q m : Nat} {fv fr fs fv2 fr2 fs2 : Nat → Int} {v : Int} (hv : v = (qv n q : Int)) (h : TlP n q m fv fr fs) (h1 : ∀ k, fv2 k = if k = q then v else fv k) (h2 : ∀ k j, j < 4 → fr2 (4 * k + j) = if k = q then (cR m 0 j v.toNat : Int) else fr (4 * k + j)) (h3 : ∀ k, fs2 k = if k = q then (sR m 0 v.toNat : Int) else fs k) : TlP n (q + 1) m fv2 fr2 fs2 := by
  intro i hi
  have ev : v.toNat = qv n q := by omega
  by_cases e : i = q
  · subst e
    refine ⟨by rw [h1, if_pos rfl, hv], fun r hr => by rw [h2 _ _ hr, if_pos rfl, ev], by rw [h3, if_pos rfl, ev]⟩
  · obtain ⟨a, b, c⟩ := h i (by omega)
    exact ⟨by rw [h1, if_neg e, a], fun r hr => by rw [h2 _ _ hr, if_neg e, b r hr], by rw [h3, if_neg e, c]⟩
theorem TlP_ok {n m : Nat} {tb ts : Int} {fv fr fs : Nat → Int} (h1 : tb = (n : Int)) (h2 : ts = (SZ n : Int)) (h : TlP n (SZ n) m fv fr fs) : TlOK n 0 m tb ts fv fr fs := ⟨h1, h2, h⟩
/-- what is left at a place, in words of the rows -/
theorem Tl_rA {n t m q : Nat} {tb ts : Int} {fv fr fs : Nat → Int} (h : TlOK n t m tb ts fv fr fs) (hq : q < SZ n) {r : Nat} (hr : r < 4) : rA fr ts (q : Int) (r : Int) = (cR m t r (qv n q) : Int) := by
  unfold rA
  rw [if_pos (by have := h.2.1; omega), ← (h.2.2 q hq).2.1 r hr]
  congr 1
theorem Tl_cnt {n t m q : Nat} {tb ts : Int} {fv fr fs : Nat → Int} (h : TlOK n t m tb ts fv fr fs) (hq : q < SZ n) : rA fr ts (q : Int) 0 + rA fr ts (q : Int) 1 + rA fr ts (q : Int) 2 + rA fr ts (q : Int) 3 = (cA m t (qv n q) : Int) := by
  have e0 := Tl_rA h hq (r := 0) (by omega)
  have e1 := Tl_rA h hq (r := 1) (by omega)
  have e2 := Tl_rA h hq (r := 2) (by omega)
  have e3 := Tl_rA h hq (r := 3) (by omega)
  have s := cR_sum m t (qv n q)
  rw [show ((0 : Nat) : Int) = 0 from rfl] at e0
  rw [show ((1 : Nat) : Int) = 1 from rfl] at e1
  rw [show ((2 : Nat) : Int) = 2 from rfl] at e2
  rw [show ((3 : Nat) : Int) = 3 from rfl] at e3
  omega
theorem rA_out {fr : Nat → Int} {ts p r : Int} (h : ¬ (0 ≤ p ∧ p < ts)) : rA fr ts p r = 0 := if_neg (fun z => h z.1)
theorem Tl_vA {n t m : Nat} {tb ts q : Int} {fv fr fs : Nat → Int} (h : TlOK n t m tb ts fv fr fs) (hq : 0 ≤ q ∧ q < ts) : vA fv ts q = (qv n q.toNat : Int) := by
  unfold vA; rw [if_pos hq]; exact (h.2.2 q.toNat (by have := h.2.1; omega)).1
theorem Tl_sA {n t m : Nat} {tb ts q : Int} {fv fr fs : Nat → Int} (h : TlOK n t m tb ts fv fr fs) (hq : 0 ≤ q ∧ q < ts) : vA fs ts q = (sR m t (qv n q.toNat) : Int) := by
  unfold vA; rw [if_pos hq]; exact (h.2.2 q.toNat (by have := h.2.1; omega)).2.2
/-- striking: the places ahead of i are done -/
def TlR (n t m i : Nat) (fr fs : Nat → Int) : Prop := ∀ k, k < SZ n → (∀ r, r < 4 → fr (4 * k + r) = if k < i then (cR m (t + 1) r (qv n k) : Int) else (cR m t r (qv n k) : Int)) ∧ fs k = if k < i then (sR m (t + 1) (qv n k) : Int) else (sR m t (qv n k) : Int)
theorem TlR_0 {n t m : Nat} {tb ts : Int} {fv fr fs : Nat → Int} (h : TlOK n t m tb ts fv fr fs) : TlR n t m 0 fr fs := fun k hk => ⟨fun r hr => by rw [if_neg (Nat.not_lt_zero _)]; exact (h.2.2 k hk).2.1 r hr, by rw [if_neg (Nat.not_lt_zero _)]; exact (h.2.2 k hk).2.2⟩
theorem TlR_end {n t m i : Nat} {tb ts : Int} {fv fr0 fs0 fr fs : Nat → Int} (hn : 1 ≤ n) (ht : t < 65) (hb : m.testBit t = true) (h0 : TlOK n t m tb ts fv fr0 fs0) (h : TlR n t m i fr fs) (hi : i < SZ n → qv n i < sp t) : TlOK n (t + 1) m tb ts fv fr fs := by
  refine ⟨h0.1, h0.2.1, fun k hk => ?_⟩
  obtain ⟨a, b⟩ := h k hk
  refine ⟨(h0.2.2 k hk).1, fun r hr => ?_, ?_⟩
  · rw [a r hr]
    by_cases e : k < i
    · rw [if_pos e]
    · rw [if_neg e]
      have hv : qv n k < sp t := by
        have := hi (by omega)
        by_cases e2 : k = i
        · rw [e2]; exact this
        · have := qv_anti hn (q := i) (r := k) (by omega) hk; omega
      have s := cR_step ht hb r (qv n k)
      rw [Nat.div_eq_of_lt hv] at s
      rw [← s]; rfl
  · rw [b]
    by_cases e : k < i
    · rw [if_pos e]
    · rw [if_neg e]
      have hv : qv n k < sp t := by
        have := hi (by omega)
        by_cases e2 : k = i
        · rw [e2]; exact this
        · have := qv_anti hn (q := i) (r := k) (by omega) hk; omega
      have s := sR_step ht hb (qv n k)
      rw [Nat.div_eq_of_lt hv] at s
      rw [← s, show sR m t 0 = 0 from rfl, Nat.mul_zero, Nat.add_zero]
/-- what the inner loop has taken from the rest j, r rests through -/
def tk (fr : Nat → Int) (p s j : Nat) : Nat → Int
  | 0 => 0
  | r + 1 => tk fr p s j r + if p * r % 4 = j then fr (4 * s + r) else 0
theorem tk_step {f g fr : Nat → Int} {p s i r w : Nat} {x y : Int} (hs : s ≠ i) (hr : r < 4) (hf : ∀ k j, j < 4 → f (4 * k + j) = fr (4 * k + j) - if k = i then tk fr p s j r else 0) (hw : w = p * r % 4) (hy : y.toNat = 4 * i + w) (hx : x = f (4 * i + w) - f (4 * s + r)) (hg : g = upI f y.toNat x) : ∀ k j, j < 4 → g (4 * k + j) = fr (4 * k + j) - if k = i then tk fr p s j (r + 1) else 0 := by
  intro k j hj
  rw [hy] at hg
  rw [upI_4 (by omega) hj hg]
  have e1 := hf i w (by omega)
  have e2 := hf s r hr
  rw [if_pos rfl] at e1
  rw [if_neg hs] at e2
  by_cases h : k = i ∧ j = w
  · rw [if_pos h, hx, e1, e2, if_pos h.1]
    show _ = _ - (tk fr p s j r + _)
    rw [if_pos (by rw [← hw, h.2]), h.1, h.2]; omega
  · rw [if_neg h, hf k j hj]
    by_cases h2 : k = i
    · rw [if_pos h2, if_pos h2]
      show _ = _ - (tk fr p s j r + _)
      rw [if_neg (fun z => h ⟨h2, by rw [hw]; exact z.symm⟩)]; omega
    · rw [if_neg h2, if_neg h2]
theorem tk_4 {n t m i s : Nat} {fr fs : Nat → Int} (ht : t < 65) (hb : m.testBit t = true) (h : TlR n t m i fr fs) (hs : s < SZ n) (hsi : i ≤ s) (hq : qv n s = qv n i / sp t) {j : Nat} : (cR m t j (qv n i) : Int) - tk fr (sp t) s j 4 = (cR m (t + 1) j (qv n i) : Int) := by
  have st := cR_step ht hb j (qv n i)
  rw [cR_rests, ← hq] at st
  have g : ∀ r, r < 4 → fr (4 * s + r) = (cR m t r (qv n s) : Int) := fun r hr => by rw [(h s hs).1 r hr, if_neg (by omega)]
  have g0 := g 0 (by omega)
  have g1 := g 1 (by omega)
  have g2 := g 2 (by omega)
  have g3 := g 3 (by omega)
  simp only [tk]
  rw [g0, g1, g2, g3, ← st]
  simp only [Int.natCast_add]
  have c : ∀ (P : Prop) (dec : Decidable P) (a : Nat), (((if P then a else 0 : Nat)) : Int) = if P then (a : Int) else 0 := fun P dec a => by split <;> rfl
  rw [c, c, c, c]
  omega
theorem TlR_s {n t m i s : Nat} {fr fs fr2 fs2 : Nat → Int} {x : Int} (ht : t < 65) (hb : m.testBit t = true) (h : TlR n t m i fr fs) (hi : i < SZ n) (hs : s < SZ n) (hsi : i ≤ s) (hq : qv n s = qv n i / sp t) (h1 : ∀ k j, j < 4 → fr2 (4 * k + j) = fr (4 * k + j) - if k = i then tk fr (sp t) s j 4 else 0) (hx : x = fs i - (sp t : Int) * fs s) (h2 : fs2 = upI fs i x) : TlR n t m (i + 1) fr2 fs2 := by
  intro k hk
  obtain ⟨a, b⟩ := h k hk
  by_cases e : k = i
  · subst e
    refine ⟨fun r hr => ?_, ?_⟩
    · rw [h1 k r hr, if_pos rfl, if_pos (by omega), a r hr, if_neg (by omega)]
      exact tk_4 ht hb h hs hsi hq
    · rw [h2, upI_s, if_pos (by omega), hx, b, if_neg (by omega), (h s hs).2, if_neg (by omega)]
      have st := sR_step ht hb (qv n k)
      rw [← hq] at st
      rw [← st, Int.natCast_add, Int.natCast_mul]; omega
  · refine ⟨fun r hr => ?_, ?_⟩
    · rw [h1 k r hr, if_neg e, a r hr]
      by_cases z : k < i
      · rw [if_pos z, if_pos (by omega)]; omega
      · rw [if_neg z, if_neg (by omega)]; omega
    · rw [h2, upI_n e, b]
      by_cases z : k < i
      · rw [if_pos z, if_pos (by omega)]
      · rw [if_neg z, if_neg (by omega)]
/-- the source of a place -/
theorem src_of {n t i : Nat} (hn : 1 ≤ n) (hi : i < SZ n) (ht : t < 65) (h : sp t ≤ qv n i) : ∃ s : Nat, pI n ((qv n i : Int) / (sp t : Int)) = (s : Int) ∧ s < SZ n ∧ i < s ∧ qv n s = qv n i / sp t := by
  have h2 := sp_ge2 ht
  obtain ⟨s, a, b, c⟩ := plc_sub hn hi (show 1 ≤ sp t by omega) h
  have d1 : 1 ≤ qv n i / sp t := Nat.div_pos h (by omega)
  refine ⟨s, ?_, b, ?_, c⟩
  · rw [← Int.natCast_ediv, pI_nat n _ d1, a]
  · have lt : qv n i / sp t < qv n i := Nat.div_lt_self (by omega) h2
    rcases Nat.lt_or_ge i s with z | z
    · exact z
    · by_cases e : s = i
      · rw [e] at c; omega
      · have := qv_anti hn (q := s) (r := i) (by omega) hi; omega
theorem dvr_ub (n q : Nat) : dvr n q ≤ n + 1 := by
  unfold dvr
  split
  · next h =>
    obtain ⟨a, b, c⟩ := sq_spec n
    rcases Nat.lt_or_ge (sq n) 2 with z | z
    · omega
    · have := Nat.mul_le_mul_left (sq n) (show 1 ≤ sq n - 1 by omega)
      omega
  · have := Nat.div_le_self n (SZ n - q + 1)
    omega
theorem Tl_vA_rng {n t m : Nat} {tb ts q : Int} {fv fr fs : Nat → Int} (hn : 1 ≤ n) (h : TlOK n t m tb ts fv fr fs) : 0 ≤ vA fv ts q ∧ vA fv ts q ≤ (n : Int) := by
  by_cases e : 0 ≤ q ∧ q < ts
  · rw [Tl_vA h e]
    have := qv_pos hn (show q.toNat < SZ n by have := h.2.1; omega)
    omega
  · unfold vA; rw [if_neg e]; omega
