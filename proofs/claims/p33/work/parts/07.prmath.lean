/-! words of bits; primes as bits of the odd numbers -/
def bN (P : Nat → Bool) : Nat → Nat
  | 0 => 0
  | n + 1 => bN P n + if P n then 2 ^ n else 0
theorem if_cg {a b : Prop} [Decidable a] [Decidable b] {x y : Nat} (h : a ↔ b) : (if a then x else y) = if b then x else y := by
  by_cases q : b
  · rw [if_pos q, if_pos (h.mpr q)]
  · rw [if_neg q, if_neg (fun z => q (h.mp z))]
theorem bN_lt (P : Nat → Bool) : ∀ n, bN P n < 2 ^ n
  | 0 => Nat.zero_lt_one
  | n + 1 => by
    have h := bN_lt P n
    rw [Nat.pow_succ]
    show bN P n + _ < _
    split <;> omega
theorem bN_tb (P : Nat → Bool) : ∀ n j, (bN P n).testBit j = (decide (j < n) && P j)
  | 0, j => by simp [bN]
  | n + 1, j => by
    show (bN P n + if P n then 2 ^ n else 0).testBit j = _
    have h := bN_lt P n
    by_cases e : P n = true
    · rw [if_pos e, show bN P n + 2 ^ n = 2 ^ n * 1 + bN P n by omega, Nat.testBit_two_pow_mul_add _ h]
      by_cases e2 : j < n
      · rw [if_pos e2, bN_tb P n j, decide_eq_true e2, decide_eq_true (show j < n + 1 by omega)]
      · rw [if_neg e2, show (1 : Nat) = 2 ^ 0 from rfl, Nat.testBit_two_pow]
        by_cases e3 : j = n
        · subst e3; simp [e]
        · rw [decide_eq_false (show ¬ 0 = j - n by omega), decide_eq_false (show ¬ j < n + 1 by omega)]; rfl
    · rw [if_neg e, Nat.add_zero, bN_tb P n j]
      rw [Bool.eq_iff_iff]
      simp
      intro h3
      constructor
      · intro; omega
      · intro h4
        by_cases e2 : j = n
        · subst e2; exact absurd h3 e
        · omega
theorem bN_of {P : Nat → Bool} {n w : Nat} (hw : w < 2 ^ n) (h : ∀ j, j < n → w.testBit j = P j) : w = bN P n := by
  apply Nat.eq_of_testBit_eq
  intro j
  rw [bN_tb]
  by_cases e : j < n
  · rw [h j e]; simp [e]
  · rw [Nat.testBit_lt_two_pow (Nat.lt_of_lt_of_le hw (Nat.pow_le_pow_right (by omega) (by omega)))]
    simp [e]
theorem bN_cong {P Q : Nat → Bool} {n : Nat} (h : ∀ j, j < n → P j = Q j) : bN P n = bN Q n := bN_of (bN_lt P n) fun j hj => by rw [bN_tb, h j hj]; simp [hj]
/-- how many numbers below n -/
def ce (P : Nat → Bool) : Nat → Nat
  | 0 => 0
  | n + 1 => ce P n + if P n then 1 else 0
theorem ce_add (P : Nat → Bool) (a : Nat) : ∀ n, ce P (a + n) = ce P a + ce (fun b => P (a + b)) n
  | 0 => rfl
  | n + 1 => by
    show ce P (a + n) + _ = _ + (ce _ n + _)
    rw [ce_add P a n, Nat.add_assoc]; rfl
theorem ce_cong {P Q : Nat → Bool} : ∀ {n : Nat}, (∀ j, j < n → P j = Q j) → ce P n = ce Q n
  | 0, _ => rfl
  | n + 1, h => by
    show ce P n + _ = ce Q n + _
    rw [ce_cong (fun j hj => h j (by omega)), h n (by omega)]
theorem ce_0 {P : Nat → Bool} : ∀ {n : Nat}, (∀ j, j < n → P j = false) → ce P n = 0
  | 0, _ => rfl
  | n + 1, h => by
    show ce P n + _ = 0
    rw [ce_0 (fun j hj => h j (by omega)), h n (by omega)]; rfl
theorem ce_le (P : Nat → Bool) : ∀ n, ce P n ≤ n
  | 0 => Nat.le_refl _
  | n + 1 => by
    have := ce_le P n
    show ce P n + _ ≤ _
    split <;> omega
theorem ce_mono (P : Nat → Bool) {a b : Nat} (h : a ≤ b) : ce P a ≤ ce P b := by
  obtain ⟨c, rfl⟩ := Nat.le.dest h
  rw [ce_add]; omega
def popc (w : Nat) : Nat := ce (fun b => w.testBit b) 64
theorem popc_bN (P : Nat → Bool) : popc (bN P 64) = ce P 64 := ce_cong fun j hj => by rw [bN_tb]; simp [hj]
theorem popc_le (w : Nat) : popc w ≤ 64 := ce_le _ 64
/-- sums over the bits set -/
def se (g : Nat → Nat) (P : Nat → Bool) : Nat → Nat
  | 0 => 0
  | n + 1 => se g P n + if P n then g n else 0
theorem se_add (g : Nat → Nat) (P : Nat → Bool) (a : Nat) : ∀ n, se g P (a + n) = se g P a + se (fun b => g (a + b)) (fun b => P (a + b)) n
  | 0 => rfl
  | n + 1 => by
    show se g P (a + n) + _ = _ + (se _ _ n + _)
    rw [se_add g P a n, Nat.add_assoc]; rfl
theorem se_cong {g : Nat → Nat} {P Q : Nat → Bool} : ∀ {n : Nat}, (∀ j, j < n → P j = Q j) → se g P n = se g Q n
  | 0, _ => rfl
  | n + 1, h => by
    show se g P n + _ = se g Q n + _
    rw [se_cong (fun j hj => h j (by omega)), h n (by omega)]
/-- the lowest bit set -/
theorem low_ex {w : Nat} (h : popc w ≠ 0) : ∃ b, b < 64 ∧ w.testBit b = true ∧ ∀ j, j < b → w.testBit j = false := by
  have key : ∀ n, ce (fun b => w.testBit b) n ≠ 0 → ∃ b, b < n ∧ w.testBit b = true ∧ ∀ j, j < b → w.testBit j = false := by
    intro n
    induction n with
    | zero => intro h; exact absurd rfl h
    | succ n ih =>
      intro h
      by_cases e : ce (fun b => w.testBit b) n = 0
      · refine ⟨n, by omega, ?_, fun j hj => ?_⟩
        · cases e2 : w.testBit n with
          | true => rfl
          | false =>
            exfalso; apply h
            show ce _ n + _ = 0
            rw [e]; simp [e2]
        · cases e2 : w.testBit j with
          | false => rfl
          | true =>
            exfalso
            have h1 := ce_mono (fun b => w.testBit b) (show j + 1 ≤ n by omega)
            have : ce (fun b => w.testBit b) (j + 1) = ce (fun b => w.testBit b) j + 1 := by
              show ce _ j + _ = _
              simp [e2]
            omega
      · obtain ⟨b, a1, a2, a3⟩ := ih e
        exact ⟨b, by omega, a2, a3⟩
  exact key 64 h
theorem low_form {w b : Nat} (hb : w.testBit b = true) (h : ∀ j, j < b → w.testBit j = false) : ∃ c, w = 2 ^ b * (2 * c + 1) := by
  have h1 : w % 2 ^ b = 0 := by
    apply Nat.eq_of_testBit_eq
    intro j
    rw [Nat.testBit_mod_two_pow, Nat.zero_testBit]
    by_cases e : j < b
    · rw [h j e]; simp
    · simp [e]
  rw [tb_mod] at hb
  have h2 := of_decide_eq_true hb
  refine ⟨w / 2 ^ b / 2, ?_⟩
  have h3 := Nat.div_add_mod w (2 ^ b)
  rw [h1, Nat.add_zero] at h3
  have h4 := Nat.div_add_mod (w / 2 ^ b) 2
  rw [h2] at h4
  rw [h4, h3]
theorem odd_tb (b c j : Nat) : (2 ^ b * (2 * c + 1)).testBit j = (decide (b ≤ j) && (2 * c + 1).testBit (j - b)) := by
  rw [Nat.testBit_two_pow_mul]
/-- taking one away clears the lowest bit -/
theorem low_clear {w b : Nat} (hb : w.testBit b = true) (h : ∀ j, j < b → w.testBit j = false) (j : Nat) : (w &&& (w - 1)).testBit j = (w.testBit j && decide (j ≠ b)) := by
  obtain ⟨c, rfl⟩ := low_form hb h
  have hp : 0 < 2 ^ b := Nat.two_pow_pos b
  have e : 2 ^ b * (2 * c + 1) - 1 = 2 ^ b * (2 * c) + (2 ^ b - 1) := by
    rw [Nat.mul_add, Nat.mul_one]; omega
  rw [Nat.testBit_and, e, Nat.testBit_two_pow_mul_add _ (by omega), odd_tb]
  by_cases h1 : j < b
  · rw [if_pos h1]; simp [show ¬ b ≤ j by omega]
  · rw [if_neg h1]
    by_cases h2 : j = b
    · subst h2; simp
    · obtain ⟨d, hd⟩ : ∃ d, j - b = d + 1 := ⟨j - b - 1, by omega⟩
      rw [hd]
      have e1 : (2 * c).testBit (d + 1) = c.testBit d := by
        rw [Nat.testBit_succ]; congr 1; omega
      have e2 : (2 * c + 1).testBit (d + 1) = c.testBit d := by
        rw [Nat.testBit_succ]; congr 1; omega
      rw [e1, e2]
      simp [show b ≤ j by omega, h2]
/-- and with its negative only the lowest bit is left -/
theorem low_one {w b : Nat} (hw : w < 2 ^ 64) (hb : w.testBit b = true) (h : ∀ j, j < b → w.testBit j = false) : w &&& (2 ^ 64 - w) = 2 ^ b := by
  have hb64 : b < 64 := by
    rcases Nat.lt_or_ge b 64 with z | z
    · exact z
    · rw [Nat.testBit_lt_two_pow (Nat.lt_of_lt_of_le hw (Nat.pow_le_pow_right (by omega) z))] at hb; cases hb
  apply Nat.eq_of_testBit_eq
  intro j
  rw [Nat.testBit_two_pow, Nat.testBit_and]
  have e : 2 ^ 64 - w = 2 ^ 64 - (w - 1 + 1) := by
    have : w ≠ 0 := fun z => by rw [z, Nat.zero_testBit] at hb; cases hb
    omega
  rw [e, Nat.testBit_two_pow_sub_succ (by omega)]
  have hc := low_clear hb h j
  rw [Nat.testBit_and] at hc
  by_cases h1 : j < 64
  · by_cases h2 : b = j
    · subst h2
      rw [hb] at hc ⊢
      simp at hc
      simp [h1, hc]
    · have : ¬ j = b := fun z => h2 z.symm
      simp [this] at hc
      cases h3 : w.testBit j with
      | false => simp [h2]
      | true => simp [hc h3, h2]
  · rw [Nat.testBit_lt_two_pow (Nat.lt_of_lt_of_le hw (Nat.pow_le_pow_right (by omega) (by omega)))]
    have : ¬ b = j := by omega
    simp [this]
theorem popc_pow {b : Nat} (h : b ≤ 64) : popc (2 ^ b - 1) = b := by
  unfold popc
  have e : ∀ n, n ≤ 64 → ce (fun j => (2 ^ b - 1).testBit j) n = min n b := by
    intro n
    induction n with
    | zero => intro _; simp [ce]
    | succ n ih =>
      intro hn
      show ce _ n + _ = _
      rw [ih (by omega)]
      by_cases q : n < b
      · simp [Nat.testBit_two_pow_sub_one, q]; omega
      · simp [Nat.testBit_two_pow_sub_one, q]; omega
  rw [e 64 (Nat.le_refl _)]; omega
theorem se_clear {w b : Nat} (g : Nat → Nat) (hb : w.testBit b = true) (h : ∀ j, j < b → w.testBit j = false) (hlt : b < 64) : se g (fun j => w.testBit j) 64 = g b + se g (fun j => (w &&& (w - 1)).testBit j) 64 := by
  have key : ∀ n, se g (fun j => w.testBit j) n = (if b < n then g b else 0) + se g (fun j => (w &&& (w - 1)).testBit j) n := by
    intro n
    induction n with
    | zero => simp [se]
    | succ n ih =>
      show se g _ n + _ = _ + (se g _ n + _)
      rw [ih]
      simp only [low_clear hb h n]
      by_cases e : n = b
      · subst e; simp [hb, Nat.add_comm]
      · by_cases e2 : b < n
        · rw [if_pos e2, if_pos (show b < n + 1 by omega)]; simp [e]; omega
        · rw [if_neg e2, if_neg (show ¬ b < n + 1 by omega)]; simp [h n (show n < b by omega)]
  rw [key 64, if_pos hlt]
theorem se_one (P : Nat → Bool) : ∀ n, se (fun _ => 1) P n = ce P n
  | 0 => rfl
  | n + 1 => by show se _ P n + _ = ce P n + _; rw [se_one P n]
theorem popc_clear {w b : Nat} (hb : w.testBit b = true) (h : ∀ j, j < b → w.testBit j = false) (hlt : b < 64) : popc w = 1 + popc (w &&& (w - 1)) := by
  unfold popc
  rw [← se_one, ← se_one]; exact se_clear (fun _ => 1) hb h hlt
/-- the words of the primes -/
def od (e : Nat) : Nat := 2 * e + 1
def pb (x e : Nat) : Bool := isP (od e) && decide (od e ≤ x)
def wdx (i x : Nat) : Nat := bN (fun b => pb x (64 * i + b)) 64
def wd (i : Nat) : Nat := bN (fun b => isP (od (64 * i + b))) 64
def RowOK (fw : Nat → Int) : Prop := ∀ i, i < 782 → fw i = (wd i : Int)
theorem wd_lt (i : Nat) : wd i < 2 ^ 64 := bN_lt _ 64
theorem wdx_lt (i x : Nat) : wdx i x < 2 ^ 64 := bN_lt _ 64
theorem wdx_all {i x : Nat} (h : 128 * i + 127 ≤ x) : wdx i x = wd i := bN_cong fun j hj => by unfold pb od; rw [decide_eq_true (by omega)]; simp
theorem wdx_none {i x : Nat} (h : x ≤ 128 * i) : wdx i x = 0 := by
  have : wdx i x = bN (fun _ => false) 64 := bN_cong fun j hj => by unfold pb od; rw [decide_eq_false (by omega)]; simp
  rw [this]
  have z : ∀ n, bN (fun _ => false) n = 0 := by
    intro n
    induction n with
    | zero => rfl
    | succ n ih => show bN _ n + _ = 0; rw [ih]; rfl
  exact z 64
theorem wdx_part {i x c : Nat} (hc : c < 64) (h : (x + 1) / 2 = 64 * i + c) : wd i &&& (2 ^ c - 1) = wdx i x := by
  have hw : wd i &&& (2 ^ c - 1) < 2 ^ 64 := Nat.lt_of_le_of_lt Nat.and_le_left (wd_lt i)
  refine bN_of hw fun j hj => ?_
  rw [Nat.testBit_and, Nat.testBit_two_pow_sub_one, wd, bN_tb]
  unfold pb
  have : (od (64 * i + j) ≤ x) ↔ j < c := by unfold od; omega
  rw [show decide (od (64 * i + j) ≤ x) = decide (j < c) from by simp [this]]
  simp [hj]
/-- counting primes by the words -/
theorem ct_odd {x : Nat} (P : Nat → Bool) : ∀ {N : Nat}, x ≤ 2 * N → ct (fun y => isP y && P y) x = (if 2 ≤ x ∧ P 2 = true then 1 else 0) + ce (fun e => pb x e && P (od e)) N := by
  have h2 : isP 2 = true := by decide
  have hev : ∀ y, 2 < y → y % 2 = 0 → isP y = false := fun y h1 h3 => by
    cases e : isP y with
    | false => rfl
    | true => have := isP_dvd e (Nat.le_refl 2) (Nat.dvd_of_mod_eq_zero h3); omega
  induction x with
  | zero =>
    intro N _
    rw [ce_0 (fun j _ => by unfold pb od; rw [decide_eq_false (by omega)]; simp)]
    rfl
  | succ x ih =>
    intro N hN
    rw [ct_s, ih (N := N) (by omega)]
    rcases Nat.mod_two_eq_zero_or_one x with hx | hx
    · -- x + 1 is odd
      obtain ⟨e0, he0⟩ : ∃ e0, x = 2 * e0 := ⟨x / 2, by omega⟩
      have hlt : e0 < N := by omega
      obtain ⟨d, hd⟩ : ∃ d, N = e0 + (1 + d) := ⟨N - e0 - 1, by omega⟩
      have key : ce (fun e => pb (x + 1) e && P (od e)) N = ce (fun e => pb x e && P (od e)) N + (if isP (x + 1) && P (x + 1) then 1 else 0) := by
        have g : ∀ Q : Nat → Bool, ce Q N = ce Q e0 + ((if Q e0 then 1 else 0) + ce (fun b => Q (e0 + (1 + b))) d) := fun Q => by
          rw [hd, ce_add, ce_add]
          congr 2
          show 0 + _ = _
          rw [Nat.zero_add]; rfl
        rw [g, g]
        have a1 : ce (fun e => pb (x + 1) e && P (od e)) e0 = ce (fun e => pb x e && P (od e)) e0 := ce_cong fun j hj => by
          unfold pb od; rw [show decide (2 * j + 1 ≤ x + 1) = decide (2 * j + 1 ≤ x) from by simp; omega]
        have a2 : ∀ y, y ≤ x + 1 → ce (fun b => pb y (e0 + (1 + b)) && P (od (e0 + (1 + b)))) d = 0 := fun y hy => ce_0 fun j _ => by
          unfold pb od; rw [decide_eq_false (by omega)]; simp
        rw [a1, a2 (x + 1) (Nat.le_refl _), a2 x (by omega)]
        have o : od e0 = x + 1 := by unfold od; omega
        unfold pb
        simp only [o]
        simp
        intro _ z
        omega
      rw [key]
      have : (2 ≤ x + 1 ∧ P 2 = true) ↔ (2 ≤ x ∧ P 2 = true) := ⟨fun h => ⟨by omega, h.2⟩, fun h => ⟨by omega, h.2⟩⟩
      rw [if_cg this]; omega
    · have key : ce (fun e => pb (x + 1) e && P (od e)) N = ce (fun e => pb x e && P (od e)) N := ce_cong fun j hj => by
        unfold pb od; rw [show decide (2 * j + 1 ≤ x + 1) = decide (2 * j + 1 ≤ x) from by simp; omega]
      rw [key]
      by_cases e : x = 1
      · subst e
        rw [h2, if_neg (fun z => by omega)]
        by_cases q : P 2 = true
        · rw [if_pos (by simp [q]), if_pos ⟨by omega, q⟩]; omega
        · rw [if_neg (by simp [q]), if_neg (fun z => q z.2)]; omega
      · rw [hev (x + 1) (by omega) (by omega)]
        have : (2 ≤ x + 1 ∧ P 2 = true) ↔ (2 ≤ x ∧ P 2 = true) := ⟨fun h => ⟨by omega, h.2⟩, fun h => ⟨by omega, h.2⟩⟩
        rw [if_cg this]; simp
