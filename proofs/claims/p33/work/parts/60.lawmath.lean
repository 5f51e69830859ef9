/-! the mathematics of p33's law: what is left, what strikes, what came -/
theorem BdT_msk {n k m : Nat} {tl tb ts : Int} {fv fr fs : Nat → Int} (h : BdT n k m tl tb ts fv fr fs) : ∀ j, BdT n (k + j) (msk m k j) tl tb ts fv fr fs
  | 0 => h
  | j + 1 => BdT_next (BdT_msk h j) fun i hi => or_lo hi
theorem BdS_0 {x : Int} (hx : 1 ≤ x ∧ x ≤ 99999) : BdS x.toNat 0 0 x 0 0 := ⟨by omega, rfl, rfl, by omega, by omega, by decide, by decide⟩
theorem BdS_ag {n k m : Nat} {bd cm sk : Int} (h : BdS n k m bd cm sk) : BdS n 0 0 bd 0 0 := ⟨h.1, rfl, rfl, h.2.2.2.1, h.2.2.2.2.1, by decide, by decide⟩
theorem al_1 {m t : Nat} (ht : t ≤ 65) : al m t 1 = true := al_iff.mpr fun j hj _ hd => by
  have h1 := sp_ge2 (k := j) (by omega)
  have h2 := Nat.le_of_dvd (by decide) hd
  omega
theorem cA_1 {m t : Nat} (ht : t ≤ 65) : cA m t 1 = 1 := by
  show ct (fun x => al m t x) (0 + 1) = 1
  rw [ct_s, if_pos (al_1 ht)]; rfl
theorem sR_1 {m t : Nat} (ht : t ≤ 65) : sR m t 1 = 1 := by
  show sm (fun x => if al m t x then x else 0) (0 + 1) = 1
  rw [sm_s, if_pos (al_1 ht)]; rfl
theorem cA_mono {m t a b : Nat} (h : a ≤ b) : cA m t a ≤ cA m t b := ct_mono _ h
theorem cA_le (m t v : Nat) : cA m t v ≤ v := ct_le _ v
theorem cA_pos {m t v : Nat} (ht : t ≤ 65) (h : 1 ≤ v) : 1 ≤ cA m t v := by
  have := cA_mono (m := m) (t := t) h
  rwa [cA_1 ht] at this
theorem cA_sR (m t v : Nat) : cA m t v ≤ sR m t v := by
  unfold cA sR
  rw [ct_sm]
  refine sm_le fun x h1 h2 => ?_
  by_cases e : al m t x = true
  · rw [if_pos e, if_pos e]; exact h1
  · rw [if_neg e, if_neg e]; exact Nat.le_refl _
theorem sR_le (m t : Nat) : ∀ v, sR m t v ≤ v * v
  | 0 => Nat.le_refl _
  | v + 1 => by
    have ih := sR_le m t v
    have e : sR m t (v + 1) = sR m t v + (if al m t (v + 1) then v + 1 else 0) := rfl
    have h : (if al m t (v + 1) then v + 1 else 0) ≤ v + 1 := by split <;> omega
    have e2 : (v + 1) * (v + 1) = v * v + (v + (v + 1)) := by rw [Nat.mul_add, Nat.add_mul]; omega
    omega
theorem sR_lt {m t v : Nat} (h : v ≤ 99999) : (sR m t v : Int) ≤ 9999800001 := by
  have h1 := sR_le m t v
  have h2 := Nat.mul_le_mul h h
  omega
theorem ct_all {P : Nat → Bool} : ∀ {n : Nat}, (∀ x, P x = true) → ct P n = n
  | 0, _ => rfl
  | n + 1, h => by rw [ct_s, ct_all h, if_pos (h _)]
theorem cA_0 (m v : Nat) : cA m 0 v = v := ct_all fun _ => rfl
theorem qv_last {n : Nat} (hn : 1 ≤ n) : qv n (SZ n - 1) = 1 := by
  have h1 := SZ_pos hn
  have h2 := sq_pos hn
  have h3 := (sq_spec n).1
  have h4 : SZ n = sq n - 1 + n / sq n := rfl
  rw [qv_hi (by omega)]; omega
theorem qvI_last {n : Nat} {i : Int} (hn : 1 ≤ n) (hi : i = (SZ n : Int) - 1) : qv n i.toNat = 1 := by
  have h1 := SZ_pos hn
  rw [show i.toNat = SZ n - 1 by omega]; exact qv_last hn
theorem qvI_0 {n : Nat} (hn : 1 ≤ n) : qv n (Int.toNat 0) = n := qv_0 hn
theorem pI_qv {n : Nat} {q : Int} (hn : 1 ≤ n) (h : 0 ≤ q ∧ q < (SZ n : Int)) : pI n (qv n q.toNat : Int) = q := by
  have h1 := qv_pos hn (q := q.toNat) (by omega)
  rw [pI_nat n _ h1.1, plc_qv hn (by omega)]
  show ((q.toNat : Nat) : Int) = q
  omega
theorem qv_two {n : Nat} {q : Int} (hn : 1 ≤ n) (h : 0 ≤ q ∧ q < (SZ n : Int)) {v a b : Int} (hv : v = (qv n q.toNat : Int)) (ha : a = (n : Int) / v) (hb : b = (n : Int) / a) : 1 ≤ a ∧ a ≤ (n : Int) ∧ b = v := by
  have h1 := qv_pos hn (q := q.toNat) (by omega)
  have h2 := qv_q hn (q := q.toNat) (by omega)
  have e1 : a = ((n / qv n q.toNat : Nat) : Int) := by rw [ha, hv]; rfl
  have e2 : b = ((n / (n / qv n q.toNat) : Nat) : Int) := by rw [hb, e1]; rfl
  have h3 : 1 ≤ n / qv n q.toNat := Nat.div_pos h1.2 h1.1
  have h4 : n / qv n q.toNat ≤ n := Nat.div_le_self _ _
  rw [h2] at e2
  omega
/-- what holds at a quotient's number -/
theorem qv_step {n k m : Nat} {q : Int} (hn : 1 ≤ n) (hk : k ≤ 65) (h : 0 ≤ q ∧ q < (SZ n : Int)) : (1 ≤ (qv n q.toNat : Int) ∧ (qv n q.toNat : Int) ≤ (n : Int)) ∧ (1 ≤ (cA m k (qv n q.toNat) : Int) ∧ (cA m k (qv n q.toNat) : Int) ≤ (qv n q.toNat : Int)) ∧ (q + 1 < (SZ n : Int) → (qv n (q + 1).toNat : Int) < (qv n q.toNat : Int) ∧ (cA m k (qv n (q + 1).toNat) : Int) ≤ (cA m k (qv n q.toNat) : Int)) := by
  have h1 := qv_pos hn (q := q.toNat) (by omega)
  have h2 := cA_pos (m := m) hk h1.1
  have h3 := cA_le m k (qv n q.toNat)
  refine ⟨by omega, by omega, fun h4 => ?_⟩
  have h5 := qv_dec hn (q := q.toNat) (by omega)
  rw [show (q + 1).toNat = q.toNat + 1 by omega]
  have h6 := cA_mono (m := m) (t := k) (Nat.le_of_lt h5)
  omega
theorem ws_le {n k m : Nat} {i : Int} : wsI n k m i ≤ (cA m k (qv n i.toNat) : Int) ∧ 0 ≤ wsI n k m i := by
  unfold wsI
  by_cases h : nxI n k = -1
  · rw [if_pos h]; omega
  · rw [if_neg h]
    have := cA_mono (m := m) (t := k) (Nat.div_le_self (qv n i.toNat) (sp k))
    omega
theorem ws_some {n k m : Nat} (hn : 1 ≤ n) (h : ¬ nxI n k = -1) : wsI n k m 0 = (cA m k (n / sp k) : Int) ∧ 1 ≤ wsI n k m 0 := by
  obtain ⟨h1, h2, h3⟩ := nxI_some h
  have e : wsI n k m 0 = (cA m k (n / sp k) : Int) := by
    unfold wsI; rw [if_neg h, qvI_0 hn]
  have h4 := sp_ge2 (k := k) (by omega)
  have h5 : 1 ≤ n / sp k := Nat.div_pos h2 (by omega)
  have h6 := cA_pos (m := m) (t := k) (by omega) h5
  omega
theorem ws_none {n k m : Nat} (h : nxI n k = -1) : wsI n k m 0 = 0 := if_pos h
theorem mb_k {m k : Nat} (h : m < 2 ^ k) : m.testBit k = false := Nat.testBit_lt_two_pow h
theorem cA_spare {m k n : Nat} (h : m < 2 ^ k) : cA m (k + 1) n = cA m k n := ct_cong fun x _ _ => al_spare (mb_k h) x
theorem cA_strike {n k m : Nat} (hn : 1 ≤ n) (h : ¬ nxI n k = -1) : (cA m k n : Int) - (cA (m ||| 2 ^ k) (k + 1) n : Int) = wsI n k m 0 := by
  obtain ⟨h1, h2, h3⟩ := nxI_some h
  rw [(ws_some hn h).1]
  have e1 : ∀ v, cA (m ||| 2 ^ k) k v = cA m k v := fun v => ct_cong fun x _ _ => al_cong (fun j hj => (or_lo hj).symm) x
  have e2 := cA_step (m := m ||| 2 ^ k) (t := k) (by omega) (by rw [or_tb]; simp) n
  rw [e1, e1] at e2
  omega
theorem ce_s (P : Nat → Bool) (n : Nat) : ce P (n + 1) = ce P n + if P n then 1 else 0 := rfl
theorem ce_p1 {m j : Nat} (h : m.testBit j = true) : ce (fun b => m.testBit b) (j + 1) = ce (fun b => m.testBit b) j + 1 := by
  show ce (fun b => m.testBit b) j + (if m.testBit j = true then 1 else 0) = _
  rw [if_pos h]
theorem ce_p0 {m j : Nat} (h : m.testBit j = false) : ce (fun b => m.testBit b) (j + 1) = ce (fun b => m.testBit b) j := by
  show ce (fun b => m.testBit b) j + (if m.testBit j = true then 1 else 0) = _
  rw [if_neg (by rw [h]; decide)]; rfl
theorem ce_r {P : Nat → Bool} {a : Nat} : ∀ {n : Nat}, a ≤ n → (∀ e, a ≤ e → P e = false) → ce P n = ce P a
  | 0, h, _ => by rw [show a = 0 by omega]
  | n + 1, h, h0 => by
    rcases Nat.eq_or_lt_of_le h with e | e
    · rw [e]
    · rw [ce_s, ce_r (by omega : a ≤ n) h0, if_neg (by rw [h0 n (by omega)]; decide)]; rfl
theorem popc_ce {m k : Nat} (h : m < 2 ^ k) (hk : k ≤ 64) : popc m = ce (fun b => m.testBit b) k :=
  ce_r hk fun e h1 => Nat.testBit_lt_two_pow (Nat.lt_of_lt_of_le h (Nat.pow_le_pow_right (by decide) h1))
theorem popc_or {m k : Nat} (h : m < 2 ^ k) (hk : k < 64) : popc (m ||| 2 ^ k) = popc m + 1 := by
  rw [popc_ce h (by omega), popc_ce (or_lt h) (by omega), ce_s, if_pos (by rw [or_tb]; simp)]
  rw [ce_cong (fun j hj => (or_lo hj).symm)]
theorem popc_msk {m k : Nat} (h : m < 2 ^ k) : ∀ {j : Nat}, k + j ≤ 64 → popc (msk m k j) = popc m + j
  | 0, _ => rfl
  | j + 1, hj => by
    show popc (msk m k j ||| 2 ^ (k + j)) = _
    rw [popc_or (msk_lt h j) (by omega), popc_msk h (by omega)]; rfl
theorem pA_at {j : Int} (h : 0 ≤ j ∧ j < 40) : pA j = (sp j.toNat : Int) := by
  have := pA_in (k := j.toNat) (by omega)
  rwa [Int.toNat_of_nonneg h.1] at this
theorem pA_2 {j : Int} (h : 0 ≤ j ∧ j < 40) : 2 ≤ pA j ∧ pA j ≤ 313 := by
  have h1 := sp_ge2 (k := j.toNat) (by omega)
  have h2 := sp_le (k := j.toNat) (by omega)
  rw [pA_at h]; omega
theorem pA_neg : pA (-1) = -1 := by decide
theorem pA_lt {j : Int} (h : 0 ≤ j ∧ j < 40) : pA (j - 1) < pA j := by
  rcases (show j = 0 ∨ 1 ≤ j by omega) with e | e
  · rw [e]; decide
  · have := sp_lt (i := (j - 1).toNat) (j := j.toNat) (by omega) (by omega)
    rw [pA_at h, pA_at (show 0 ≤ j - 1 ∧ j - 1 < 40 by omega)]; omega
theorem nxI_at {n k : Nat} (h : ¬ nxI n k = -1) : pA ((k : Int) - 1) < nxI n k ∧ 2 ≤ nxI n k ∧ nxI n k ≤ (n : Int) ∧ nxI n k = pA (k : Int) := by
  obtain ⟨h1, h2, h3⟩ := nxI_some h
  have h4 := pA_at (j := (k : Int)) (by omega)
  have h5 := pA_lt (j := (k : Int)) (by omega)
  have h6 := sp_ge2 (k := k) (by omega)
  rw [Int.toNat_natCast] at h4
  omega
theorem cm_out {k m : Nat} {j : Int} (h : ¬ j < (k : Int)) : cmI k m j = 0 := if_neg h
theorem cm_in {k m : Nat} {j : Int} (h0 : 0 ≤ j) (h : j < (k : Int)) (hk : k ≤ 40) : (m.testBit j.toNat = true ∧ cmI k m j = pA j) ∨ (m.testBit j.toNat = false ∧ cmI k m j = -(pA j)) := by
  rw [pA_at (by omega)]
  unfold cmI
  rw [if_pos h]
  by_cases e : m.testBit j.toNat = true
  · exact Or.inl ⟨e, if_pos e⟩
  · exact Or.inr ⟨by simpa using e, if_neg e⟩
theorem cm_rng (k m : Nat) (j : Int) : -313 ≤ cmI k m j ∧ cmI k m j ≤ 313 ∨ (k : Int) > 40 ∨ j < 0 := by
  by_cases h0 : j < 0
  · exact Or.inr (Or.inr h0)
  · by_cases h : j < (k : Int)
    · by_cases h2 : (k : Int) > 40
      · exact Or.inr (Or.inl h2)
      · rcases cm_in (m := m) (by omega : 0 ≤ j) h (by omega) with y | y <;> have := pA_2 (j := j) (by omega) <;> omega
    · rw [cm_out h]; omega
theorem ab_0 (n k m : Nat) : abI n k m 0 = (n : Int) := by simp [abI]
theorem ab_1 (n k m : Nat) : abI n k m 1 = (SZ n : Int) := by simp [abI]
theorem ab_2 (n k m : Nat) : abI n k m 2 = (popc m : Int) := by simp [abI]
theorem ab_3 (n k m : Nat) : abI n k m 3 = (k : Int) - (popc m : Int) := by simp [abI]
theorem ab_4 (n k m : Nat) : abI n k m 4 = (cA m k n : Int) := by simp [abI]
theorem ab_5 (n k m : Nat) : abI n k m 5 = nxI n k := by simp [abI]
theorem ab_6 (n k m : Nat) : abI n k m 6 = pA ((k : Int) - 1) := by simp [abI]
/-- strikeTo: what it says of the next prime and of the last -/
theorem sj_0 {n k : Nat} {x : Int} (h : sj n x k = 0) : nxI n k = -1 ∨ x < nxI n k := by
  have h2 := (sj_R n x k).2
  rw [h] at h2
  simp only [Nat.add_zero] at h2
  by_cases e : nxI n k = -1
  · exact Or.inl e
  · exact Or.inr (Int.not_le.mp fun z => h2 ⟨e, z⟩)
theorem sj_nx (n : Nat) (x : Int) (k : Nat) : nxI n (k + sj n x k) = -1 ∨ x < nxI n (k + sj n x k) := by
  have h2 := (sj_R n x k).2
  by_cases e : nxI n (k + sj n x k) = -1
  · exact Or.inl e
  · exact Or.inr (Int.not_le.mp fun z => h2 ⟨e, z⟩)
theorem sj_la {n k : Nat} {x : Int} (h : 1 ≤ sj n x k) : pA (((k + sj n x k : Nat) : Int) - 1) ≤ x := by
  have h1 := (sj_R n x k).1 (sj n x k - 1) (by omega)
  have h2 := (nxI_at h1.1).2.2.2
  rw [show ((k + sj n x k : Nat) : Int) - 1 = ((k + (sj n x k - 1) : Nat) : Int) by omega, ← h2]
  exact h1.2
theorem take_ne {α : Type} {x : α} {R : List α} : ((x :: R).take 14) = x :: R.take 13 := rfl
theorem iI_and31b (a : Int) : iI a &&& iI 2147483647 = iI (a % 2147483648) := iI_mask a 31 (by decide)
