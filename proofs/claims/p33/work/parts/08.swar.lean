/-! Long.bitCount, byte by byte -/
/-- masks of k bytes -/
def mB (c : Nat) : Nat → Nat
  | 0 => 0
  | k + 1 => c + 256 * mB c k
theorem and_byte (x m c : Nat) (hc : c < 256) : x &&& (c + 256 * m) = (x % 256 &&& c) + 256 * (x / 256 &&& m) := by
  have h8 : (256 : Nat) = 2 ^ 8 := by decide
  apply Nat.eq_of_testBit_eq
  intro j
  have lt : x % 256 &&& c < 2 ^ 8 := Nat.lt_of_le_of_lt Nat.and_le_right (by omega)
  rw [Nat.add_comm (x % 256 &&& c), Nat.add_comm c, h8, Nat.testBit_two_pow_mul_add _ (by omega), Nat.testBit_and, Nat.testBit_two_pow_mul_add _ (by omega), Nat.testBit_and, Nat.testBit_and, Nat.testBit_mod_two_pow, Nat.testBit_div_two_pow]
  by_cases h : j < 8
  · simp [h]
  · simp only [h, if_false]
    rw [show j - 8 + 8 = j by omega]
def s1 (x : Nat) (k : Nat) : Nat := x - (x / 2 &&& mB 85 k)
def s2 (x : Nat) (k : Nat) : Nat := (x &&& mB 51 k) + (x / 4 &&& mB 51 k)
def s3 (x : Nat) (k : Nat) : Nat := (x + x / 16) &&& mB 15 k
def p8 (b : Nat) : Nat := ce (fun j => b.testBit j) 8
theorem byte1 : ∀ b, b < 256 → ∀ c, c < 2 → (b / 2 + 128 * c) % 256 &&& 85 = b / 2 &&& 85 ∧ (b / 2 &&& 85) ≤ b := by
  intro b hb c hc
  have h := all_lt (N := 256) (P := fun b => (List.range 2).all fun c => decide ((b / 2 + 128 * c) % 256 &&& 85 = b / 2 &&& 85) && decide ((b / 2 &&& 85) ≤ b)) (by decide +kernel) hb
  have h2 := all_lt h hc
  simp only [Bool.and_eq_true, decide_eq_true_eq] at h2
  exact h2
theorem byte2 : ∀ b, b < 256 → ∀ c, c < 4 → (b / 4 + 64 * c) % 256 &&& 51 = b / 4 &&& 51 := by
  intro b hb c hc
  have h := all_lt (N := 256) (P := fun b => (List.range 4).all fun c => decide ((b / 4 + 64 * c) % 256 &&& 51 = b / 4 &&& 51)) (by decide +kernel) hb
  exact of_decide_eq_true (all_lt h hc)
theorem byteV : ∀ b, b < 256 → (b - (b / 2 &&& 85)) < 256 ∧ (((b - (b / 2 &&& 85)) &&& 51) + ((b - (b / 2 &&& 85)) / 4 &&& 51)) % 16 ≤ 4 ∧ (((b - (b / 2 &&& 85)) &&& 51) + ((b - (b / 2 &&& 85)) / 4 &&& 51)) ≤ 68 ∧ (((b - (b / 2 &&& 85)) &&& 51) + ((b - (b / 2 &&& 85)) / 4 &&& 51)) % 16 + (((b - (b / 2 &&& 85)) &&& 51) + ((b - (b / 2 &&& 85)) / 4 &&& 51)) / 16 = p8 b := by
  intro b hb
  have h := all_lt (N := 256) (P := fun b => decide ((b - (b / 2 &&& 85)) < 256) && decide ((((b - (b / 2 &&& 85)) &&& 51) + ((b - (b / 2 &&& 85)) / 4 &&& 51)) % 16 ≤ 4) && decide ((((b - (b / 2 &&& 85)) &&& 51) + ((b - (b / 2 &&& 85)) / 4 &&& 51)) ≤ 68) && decide ((((b - (b / 2 &&& 85)) &&& 51) + ((b - (b / 2 &&& 85)) / 4 &&& 51)) % 16 + (((b - (b / 2 &&& 85)) &&& 51) + ((b - (b / 2 &&& 85)) / 4 &&& 51)) / 16 = p8 b)) (by decide +kernel) hb
  simp only [Bool.and_eq_true, decide_eq_true_eq] at h
  exact ⟨h.1.1.1, h.1.1.2, h.1.2, h.2⟩
theorem s1_b (x k : Nat) : s1 x (k + 1) = (x % 256 - (x % 256 / 2 &&& 85)) + 256 * s1 (x / 256) k := by
  unfold s1
  have hb := Nat.mod_lt x (show 0 < 256 by decide)
  obtain ⟨b, hb0⟩ : ∃ b, x % 256 = b := ⟨_, rfl⟩
  obtain ⟨c, hc0⟩ : ∃ c, x / 256 = c := ⟨_, rfl⟩
  have hx : x = b + 256 * c := by omega
  rw [hb0, hc0]
  rw [hb0] at hb
  show x - (x / 2 &&& (85 + 256 * mB 85 k)) = _
  rw [and_byte _ _ _ (by decide)]
  have e1 : x / 2 % 256 = (b / 2 + 128 * (c % 2)) % 256 := by omega
  have e2 : x / 2 / 256 = c / 2 := by omega
  obtain ⟨f1, f2⟩ := byte1 b hb (c % 2) (by omega)
  rw [e1, e2, f1]
  have f3 : (c / 2 &&& mB 85 k) ≤ c := Nat.le_trans Nat.and_le_left (by omega)
  generalize (b / 2 &&& 85) = u at *
  generalize (c / 2 &&& mB 85 k) = v at *
  omega
theorem s2_b (x k : Nat) : s2 x (k + 1) = ((x % 256 &&& 51) + (x % 256 / 4 &&& 51)) + 256 * s2 (x / 256) k := by
  unfold s2
  have hb := Nat.mod_lt x (show 0 < 256 by decide)
  obtain ⟨b, hb0⟩ : ∃ b, x % 256 = b := ⟨_, rfl⟩
  obtain ⟨c, hc0⟩ : ∃ c, x / 256 = c := ⟨_, rfl⟩
  have hx : x = b + 256 * c := by omega
  show (x &&& (51 + 256 * mB 51 k)) + (x / 4 &&& (51 + 256 * mB 51 k)) = _
  rw [and_byte _ _ _ (by decide), and_byte _ _ _ (by decide)]
  have e1 : x / 4 % 256 = (b / 4 + 64 * (c % 4)) % 256 := by omega
  have e2 : x / 4 / 256 = c / 4 := by omega
  rw [e1, e2, byte2 b (by omega) (c % 4) (by omega), hb0, hc0]
  omega
theorem s3_b (x k : Nat) (h1 : x % 256 ≤ 68) (h2 : x / 256 % 16 ≤ 4) : s3 x (k + 1) = (x % 256 % 16 + x % 256 / 16) % 16 + 256 * s3 (x / 256) k := by
  unfold s3
  obtain ⟨b, hb0⟩ : ∃ b, x % 256 = b := ⟨_, rfl⟩
  obtain ⟨c, hc0⟩ : ∃ c, x / 256 = c := ⟨_, rfl⟩
  have hx : x = b + 256 * c := by omega
  show (x + x / 16 &&& (15 + 256 * mB 15 k)) = _
  rw [and_byte _ _ _ (by decide)]
  obtain ⟨u, hu⟩ : ∃ u, c / 16 = u := ⟨_, rfl⟩
  obtain ⟨v, hv⟩ : ∃ v, c % 16 = v := ⟨_, rfl⟩
  have hc2 : c = 16 * u + v := by omega
  have e0 : x + x / 16 = (b + b / 16 + 16 * v) + 256 * (c + u) := by omega
  have hlt : b + b / 16 + 16 * v < 256 := by omega
  have e1 : (x + x / 16) % 256 = b + b / 16 + 16 * (c % 16) := by rw [e0, Nat.add_mul_mod_self_left, Nat.mod_eq_of_lt hlt, hv]
  have e2 : (x + x / 16) / 256 = c + c / 16 := by rw [e0, Nat.add_mul_div_left _ _ (by decide), Nat.div_eq_of_lt hlt, hu, Nat.zero_add]
  rw [e1, e2, hb0, hc0, show (15 : Nat) = 2 ^ 4 - 1 from rfl, Nat.and_two_pow_sub_one_eq_mod]
  omega
theorem ce8 (w : Nat) : ∀ k, ce (fun j => w.testBit j) (8 * (k + 1)) = p8 (w % 256) + ce (fun j => (w / 256).testBit j) (8 * k) := by
  intro k
  rw [show 8 * (k + 1) = 8 + 8 * k by omega, ce_add]
  congr 1
  · exact ce_cong fun j hj => by rw [show (256 : Nat) = 2 ^ 8 from rfl, Nat.testBit_mod_two_pow]; simp [hj]
  · exact ce_cong fun j hj => by rw [show (256 : Nat) = 2 ^ 8 from rfl, Nat.testBit_div_two_pow, Nat.add_comm]
/-- the three first steps put each byte's count in its byte -/
def pB (w : Nat) : Nat → Nat
  | 0 => 0
  | k + 1 => p8 (w % 256) + 256 * pB (w / 256) k
theorem swar3 : ∀ (k w : Nat), s3 (s2 (s1 w k) k) k = pB w k ∧ (0 < k → s2 (s1 w k) k % 16 ≤ 4)
  | 0, w => ⟨by simp [s3, pB, mB], fun h => absurd h (Nat.lt_irrefl 0)⟩
  | k + 1, w => by
    have hb := Nat.mod_lt w (show 0 < 256 by decide)
    obtain ⟨v1, v2, v3, v4⟩ := byteV (w % 256) hb
    obtain ⟨i1, i2⟩ := swar3 k (w / 256)
    have a1 := s1_b w k
    have a2 := s2_b (s1 w (k + 1)) k
    generalize hy : w % 256 - (w % 256 / 2 &&& 85) = y at *
    have b1 : s1 w (k + 1) % 256 = y := by omega
    have b2 : s1 w (k + 1) / 256 = s1 (w / 256) k := by omega
    rw [b1, b2] at a2
    generalize hz : (y &&& 51) + (y / 4 &&& 51) = z at *
    have c1 : s2 (s1 w (k + 1)) (k + 1) % 256 = z := by omega
    have c2 : s2 (s1 w (k + 1)) (k + 1) / 256 = s2 (s1 (w / 256) k) k := by omega
    have hk : s2 (s1 (w / 256) k) k % 16 ≤ 4 := by
      rcases Nat.eq_zero_or_pos k with e | e
      · subst e; simp [s2, mB]
      · exact i2 e
    refine ⟨?_, fun _ => by omega⟩
    rw [s3_b _ _ (by rw [c1]; exact v3) (by rw [c2]; exact hk), c1, c2, i1]
    show _ = p8 (w % 256) + 256 * pB (w / 256) k
    omega
theorem p8_le (b : Nat) : p8 b ≤ 8 := ce_le _ 8
/-- the sum of the eight bytes -/
theorem swar_end (w : Nat) : ∃ a0 a1 a2 a3 a4 a5 a6 a7 : Nat, a0 ≤ 8 ∧ a1 ≤ 8 ∧ a2 ≤ 8 ∧ a3 ≤ 8 ∧ a4 ≤ 8 ∧ a5 ≤ 8 ∧ a6 ≤ 8 ∧ a7 ≤ 8 ∧ pB w 8 = a0 + 256 * (a1 + 256 * (a2 + 256 * (a3 + 256 * (a4 + 256 * (a5 + 256 * (a6 + 256 * a7)))))) ∧ popc w = a0 + a1 + a2 + a3 + a4 + a5 + a6 + a7 := by
  refine ⟨_, _, _, _, _, _, _, _, p8_le _, p8_le _, p8_le _, p8_le _, p8_le _, p8_le _, p8_le _, p8_le _, rfl, ?_⟩
  unfold popc
  rw [show 64 = 8 * (7 + 1) from rfl, ce8, ce8 _ 6, ce8 _ 5, ce8 _ 4, ce8 _ 3, ce8 _ 2, ce8 _ 1, ce8 _ 0]
  simp only [ce]
  omega
def fold3 (y : Nat) : Nat := ((y + y / 256) + (y + y / 256) / 65536 + ((y + y / 256) + (y + y / 256) / 65536) / 4294967296) % 128
theorem swar (w : Nat) : fold3 (s3 (s2 (s1 w 8) 8) 8) = popc w := by
  rw [(swar3 8 w).1]
  obtain ⟨a0, a1, a2, a3, a4, a5, a6, a7, h0, h1, h2, h3, h4, h5, h6, h7, e, e2⟩ := swar_end w
  rw [e2]
  obtain ⟨t7, f7⟩ : ∃ t, t = a7 := ⟨_, rfl⟩
  rw [← f7] at e
  obtain ⟨t6, f6⟩ : ∃ t, t = a6 + 256 * t7 := ⟨_, rfl⟩
  rw [← f6] at e
  obtain ⟨t5, f5⟩ : ∃ t, t = a5 + 256 * t6 := ⟨_, rfl⟩
  rw [← f5] at e
  obtain ⟨t4, f4⟩ : ∃ t, t = a4 + 256 * t5 := ⟨_, rfl⟩
  rw [← f4] at e
  obtain ⟨t3, f3⟩ : ∃ t, t = a3 + 256 * t4 := ⟨_, rfl⟩
  rw [← f3] at e
  obtain ⟨t2, f2⟩ : ∃ t, t = a2 + 256 * t3 := ⟨_, rfl⟩
  rw [← f2] at e
  obtain ⟨t1, f1⟩ : ∃ t, t = a1 + 256 * t2 := ⟨_, rfl⟩
  rw [← f1] at e
  rw [e]
  unfold fold3
  have y1 : (a0 + 256 * t1) / 256 = t1 := by omega
  rw [y1]
  have z1 : (a0 + 256 * t1 + t1) / 65536 = t2 + t3 := by omega
  rw [z1]
  have w1 : (a0 + 256 * t1 + t1 + (t2 + t3)) / 4294967296 = t4 + t5 + t6 + t7 := by omega
  rw [w1]
  omega
theorem s1_le (w : Nat) : s1 w 8 ≤ w := Nat.sub_le _ _
theorem mB_lt (c : Nat) (hc : c < 256) : ∀ k, mB c k < 256 ^ k
  | 0 => Nat.zero_lt_one
  | k + 1 => by
    have := mB_lt c hc k
    show c + 256 * mB c k < 256 ^ (k + 1)
    rw [Nat.pow_succ]; omega
