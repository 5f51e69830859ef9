theorem se_popc0 {g : Nat → Nat} {w : Nat} (h : popc w = 0) : se g (fun j => w.testBit j) 64 = 0 := by
  have key : ∀ n, n ≤ 64 → se g (fun j => w.testBit j) n = 0 := by
    intro n
    induction n with
    | zero => intro _; rfl
    | succ n ih =>
      intro hn
      show se g _ n + _ = 0
      rw [ih (by omega)]
      have h1 := ce_mono (fun b => w.testBit b) (show n + 1 ≤ 64 by omega)
      have h2 : ce (fun b => w.testBit b) (n + 1) = ce (fun b => w.testBit b) n + if w.testBit n then 1 else 0 := rfl
      unfold popc at h
      by_cases q : w.testBit n = true
      · rw [if_pos q] at h2; omega
      · rw [if_neg q]
  exact key 64 (Nat.le_refl _)
theorem mask5 (j : Nat) : Nat.testBit 6148914691236517205 (j % 64) = (j % 2 == 0) := by
  have h := all_lt (N := 64) (P := fun j => Nat.testBit 6148914691236517205 j == (j % 2 == 0)) (by decide +kernel) (Nat.mod_lt j (show 0 < 64 by decide))
  rw [eq_of_beq h, show j % 64 % 2 = j % 2 by omega]
theorem maskA (j : Nat) : Nat.testBit 12297829382473034410 (j % 64) = (j % 2 == 1) := by
  have h := all_lt (N := 64) (P := fun j => Nat.testBit 12297829382473034410 j == (j % 2 == 1)) (by decide +kernel) (Nat.mod_lt j (show 0 < 64 by decide))
  rw [eq_of_beq h, show j % 64 % 2 = j % 2 by omega]
