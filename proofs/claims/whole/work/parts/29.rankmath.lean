theorem odd_rank {e : Nat} (h : 1 ≤ e) (he : e < 50048) : ct isP (od e) = 1 + ce (fun e => isP (od e)) (e + 1) := by
  rw [primes_ce (by unfold od; omega), if_pos (by unfold od; omega), ce_rest (a := e + 1) (by omega) (fun j h1 _ => pb_out (by unfold od; omega))]
  congr 1
  exact ce_cong fun j hj => by unfold pb; rw [decide_eq_true (show od j ≤ od e by unfold od; omega), Bool.and_true]
theorem total : 9591 ≤ ce (fun e => isP (od e)) 50048 := Nat.le_trans total0 (ce_mono _ (by decide))
theorem pi_gen {e x N : Nat} (h1 : 1 ≤ e) (h2 : e < 50048) (hx : od e = x) (hN : e + 1 = N) (h : 9591 ≤ ce (fun e => isP (od e)) N) : 9592 ≤ ct isP x := by
  subst hx
  subst hN
  rw [odd_rank h1 h2]
  omega
theorem pi_99999 : 9592 ≤ ct isP 99999 := pi_gen (e := 49999) (by decide) (by decide) (by decide) (by decide) total0
theorem rank_gen {p K x : Nat} (hp : isP p = true) (h : ct isP p = K) (hK : K ≤ 9592) (hx : 9592 ≤ ct isP x) : p ≤ x := by
  rcases Nat.lt_or_ge x p with z | z
  · obtain ⟨c, rfl⟩ : ∃ c, p = c + 1 := ⟨p - 1, by omega⟩
    have := ct_mono isP (show x ≤ c by omega)
    rw [ct_s, if_pos hp] at h; omega
  · exact z
theorem rank_le {p K : Nat} (hp : isP p = true) (h : ct isP p = K) (hK : K ≤ 9592) : p ≤ 99999 := rank_gen hp h hK pi_99999
theorem wd_tb {i j : Nat} (h : j < 64) : (wd i).testBit j = isP (od (64 * i + j)) := by rw [wd, bN_tb, decide_eq_true h, Bool.true_and]
theorem wd_ce {i c : Nat} (h : c ≤ 64) : ce (fun e => isP (od e)) (64 * i + c) = ce (fun e => isP (od e)) (64 * i) + ce (fun b => (wd i).testBit b) c := by
  rw [ce_add]
  congr 1
  exact ce_cong fun j hj => (wd_tb (by omega)).symm
/-- the lowest bits of a word are gone up to c -/
def Cut (W w c : Nat) : Prop := ∀ j, w.testBit j = (W.testBit j && decide (c ≤ j))
theorem Cut_0 (W : Nat) : Cut W W 0 := fun j => by simp
theorem Cut_popc {W w c : Nat} (h : Cut W w c) (hc : c ≤ 64) : popc w + ce (fun b => W.testBit b) c = popc W := by
  obtain ⟨d, hd⟩ := Nat.le.dest hc
  unfold popc
  rw [← hd, ce_add, ce_add, ce_0 (n := c) (fun j hj => by rw [h j, decide_eq_false (by omega)]; simp), Nat.zero_add, Nat.add_comm]
  congr 1
  exact ce_cong fun j hj => by rw [h (c + j), decide_eq_true (by omega)]; simp
theorem Cut_step {W w c b : Nat} (h : Cut W w c) (hb : w.testBit b = true) (hl : ∀ j, j < b → w.testBit j = false) (hb64 : b < 64) : Cut W (w &&& (w - 1)) (b + 1) ∧ ce (fun b => W.testBit b) (b + 1) = ce (fun b => W.testBit b) c + 1 ∧ W.testBit b = true ∧ c ≤ b := by
  have hb2 := hb
  rw [h b, Bool.and_eq_true] at hb2
  have hcb : c ≤ b := of_decide_eq_true hb2.2
  refine ⟨fun j => ?_, ?_, hb2.1, hcb⟩
  · rw [low_clear hb hl j, h j]
    by_cases e : c ≤ j
    · by_cases e2 : j ≤ b
      · by_cases e3 : j = b
        · subst e3; simp
        · have := hl j (by omega)
          rw [h j, decide_eq_true e, Bool.and_true] at this
          rw [this]; simp
      · simp [e, show j ≠ b by omega, show b + 1 ≤ j by omega]
    · simp [e, show ¬ b + 1 ≤ j by omega]
  · show ce _ b + _ = _
    have e1 : ce (fun b => W.testBit b) b = ce (fun b => W.testBit b) c := ce_rest hcb fun j h1 h2 => by
      have := hl j h2
      rw [h j, decide_eq_true h1, Bool.and_true] at this
      exact this
    rw [e1]; simp [hb2.1]
theorem ct2 : ct isP 2 = 1 := by decide
