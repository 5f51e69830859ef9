/-! counts, sums, least factors, the small primes -/
def ct (P : Nat → Bool) : Nat → Nat
  | 0 => 0
  | n + 1 => ct P n + (if P (n + 1) then 1 else 0)
def sm (f : Nat → Nat) : Nat → Nat
  | 0 => 0
  | n + 1 => sm f n + f (n + 1)
theorem ct_s (P : Nat → Bool) (n : Nat) : ct P (n + 1) = ct P n + (if P (n + 1) then 1 else 0) := rfl
theorem sm_s (f : Nat → Nat) (n : Nat) : sm f (n + 1) = sm f n + f (n + 1) := rfl
theorem ct_sm (P : Nat → Bool) : ∀ n, ct P n = sm (fun x => if P x then 1 else 0) n
  | 0 => rfl
  | n + 1 => by rw [ct_s, sm_s, ct_sm P n]
theorem sm_cong {f g : Nat → Nat} : ∀ {n : Nat}, (∀ x, 1 ≤ x → x ≤ n → f x = g x) → sm f n = sm g n
  | 0, _ => rfl
  | n + 1, h => by rw [sm_s, sm_s, sm_cong (fun x h1 h2 => h x h1 (by omega)), h (n + 1) (by omega) (by omega)]
theorem ct_cong {P Q : Nat → Bool} {n : Nat} (h : ∀ x, 1 ≤ x → x ≤ n → P x = Q x) : ct P n = ct Q n := by
  rw [ct_sm, ct_sm]
  exact sm_cong fun x h1 h2 => by rw [h x h1 h2]
theorem ct_le (P : Nat → Bool) : ∀ n, ct P n ≤ n
  | 0 => Nat.le_refl _
  | n + 1 => by
    have h := ct_le P n
    rw [ct_s]
    by_cases q : P (n + 1) = true
    · rw [if_pos q]; omega
    · rw [if_neg q]; omega
theorem sm_mono (f : Nat → Nat) {a : Nat} : ∀ {b : Nat}, a ≤ b → sm f a ≤ sm f b
  | 0, h => by rw [show a = 0 by omega]; exact Nat.le_refl _
  | b + 1, h => by
    by_cases e : a = b + 1
    · rw [e]; exact Nat.le_refl _
    · have := sm_mono f (a := a) (b := b) (by omega)
      rw [sm_s]; omega
theorem ct_mono (P : Nat → Bool) {a b : Nat} (h : a ≤ b) : ct P a ≤ ct P b := by
  rw [ct_sm, ct_sm]; exact sm_mono _ h
theorem sm_add (f g : Nat → Nat) : ∀ n, sm (fun x => f x + g x) n = sm f n + sm g n
  | 0 => rfl
  | n + 1 => by rw [sm_s, sm_s, sm_s, sm_add f g n]; omega
theorem sm_c (c : Nat) (f : Nat → Nat) : ∀ n, sm (fun x => c * f x) n = c * sm f n
  | 0 => rfl
  | n + 1 => by rw [sm_s, sm_s, sm_c c f n, Nat.mul_add]
theorem sm_0 {f : Nat → Nat} {n : Nat} (h : ∀ x, 1 ≤ x → x ≤ n → f x = 0) : sm f n = 0 := by
  rw [sm_cong (g := fun _ => 0) h]
  induction n with
  | zero => rfl
  | succ n ih => rw [sm_s, ih (fun x h1 h2 => h x h1 (by omega))]
theorem sm_le {f g : Nat → Nat} : ∀ {n : Nat}, (∀ x, 1 ≤ x → x ≤ n → f x ≤ g x) → sm f n ≤ sm g n
  | 0, _ => Nat.le_refl _
  | n + 1, h => by
    have h1 := sm_le (f := f) (g := g) (n := n) (fun x a b => h x a (by omega))
    have h2 := h (n + 1) (by omega) (by omega)
    rw [sm_s, sm_s]; omega
/-- the multiples of p up to v -/
theorem sm_mult (f : Nat → Nat) {p : Nat} (hp : 0 < p) : ∀ v, sm (fun x => if x % p = 0 then f x else 0) v = sm (fun y => f (p * y)) (v / p)
  | 0 => by rw [Nat.zero_div]; rfl
  | v + 1 => by
    rw [sm_s, sm_mult f hp v, Nat.succ_div]
    by_cases h : (v + 1) % p = 0
    · have hd := Nat.dvd_of_mod_eq_zero h
      rw [if_pos h, if_pos hd, sm_s]
      have e : p * (v / p + 1) = v + 1 := by
        have h2 : (v + 1) / p = v / p + 1 := by rw [Nat.succ_div, if_pos hd]
        rw [← h2]; exact Nat.mul_div_cancel' hd
      rw [e]
    · rw [if_neg h, if_neg (fun z => h (Nat.mod_eq_zero_of_dvd z))]
      rfl
def spN : List Nat := [2, 3, 5, 7, 11, 13, 17, 19, 23, 29, 31, 37, 41, 43, 47, 53, 59, 61, 67, 71, 73, 79, 83, 89, 97, 101, 103, 107, 109, 113, 127, 131, 137, 139, 149, 151, 157, 163, 167, 173, 179, 181, 191, 193, 197, 199, 211, 223, 227, 229, 233, 239, 241, 251, 257, 263, 269, 271, 277, 281, 283, 293, 307, 311, 313]
def sp (k : Nat) : Nat := spN.getD k 0
theorem all_lt {N : Nat} {P : Nat → Bool} (h : (List.range N).all P = true) {i : Nat} (hi : i < N) : P i = true := List.all_eq_true.mp h i (List.mem_range.mpr hi)
theorem sp_ge2 {k : Nat} (h : k < 65) : 2 ≤ sp k := of_decide_eq_true (all_lt (N := 65) (P := fun k => decide (2 ≤ sp k)) (by decide +kernel) h)
theorem sp_le {k : Nat} (h : k < 65) : sp k ≤ 313 := of_decide_eq_true (all_lt (N := 65) (P := fun k => decide (sp k ≤ 313)) (by decide +kernel) h)
theorem sp_cop {i j : Nat} (hi : i < 65) (hj : j < i) : Nat.gcd (sp j) (sp i) = 1 := of_decide_eq_true (all_lt (N := i) (P := fun j => decide (Nat.gcd (sp j) (sp i) = 1)) (all_lt (N := 65) (P := fun i => (List.range i).all (fun j => decide (Nat.gcd (sp j) (sp i) = 1))) (by decide +kernel) hi) hj)
theorem sp_lt1 {k : Nat} (h : k + 1 < 65) : sp k < sp (k + 1) := of_decide_eq_true (all_lt (N := 64) (P := fun k => decide (sp k < sp (k + 1))) (by decide +kernel) (by omega))
theorem sp_lt {i j : Nat} (h : i < j) (hj : j < 65) : sp i < sp j := by
  induction j with
  | zero => omega
  | succ j ih =>
    have h1 := sp_lt1 hj
    by_cases e : i = j
    · rw [e]; exact h1
    · have := ih (by omega) (by omega); omega
theorem sp_inj {i j : Nat} (hi : i < 65) (hj : j < 65) (h : sp i = sp j) : i = j := by
  rcases Nat.lt_or_ge i j with q | q
  · have := sp_lt q hj; omega
  · rcases Nat.lt_or_ge j i with q2 | q2
    · have := sp_lt q2 hi; omega
    · omega
/-- the least factor -/
def lfF (x : Nat) : Nat → Nat → Nat
  | 0, _ => x
  | f + 1, d => if x % d = 0 then d else lfF x f (d + 1)
def lf (x : Nat) : Nat := lfF x x 2
theorem lfF_spec (x : Nat) : ∀ (f d : Nat), 2 ≤ d → d ≤ x → x < d + f → (∀ e, 2 ≤ e → e < d → ¬ e ∣ x) → 2 ≤ lfF x f d ∧ lfF x f d ∣ x ∧ ∀ e, 2 ≤ e → e ∣ x → lfF x f d ≤ e
  | 0, d, _, h2, h3, _ => by omega
  | f + 1, d, h1, h2, h3, h4 => by
    unfold lfF
    by_cases h : x % d = 0
    · rw [if_pos h]
      exact ⟨h1, Nat.dvd_of_mod_eq_zero h, fun e e1 e2 => Nat.le_of_not_lt fun z => h4 e e1 z e2⟩
    · rw [if_neg h]
      have hne : d ≠ x := fun z => h (by rw [z]; exact Nat.mod_self x)
      exact lfF_spec x f (d + 1) (by omega) (by omega) (by omega) fun e e1 e2 e3 => by
        by_cases q : e = d
        · exact h (by rw [← q]; exact Nat.mod_eq_zero_of_dvd e3)
        · exact h4 e e1 (by omega) e3
theorem lf_spec {x : Nat} (h : 2 ≤ x) : 2 ≤ lf x ∧ lf x ∣ x ∧ ∀ e, 2 ≤ e → e ∣ x → lf x ≤ e := lfF_spec x x 2 (Nat.le_refl 2) h (by omega) fun e e1 e2 => by omega
theorem lf_of {x d : Nat} (h : 2 ≤ x) (h1 : 2 ≤ d) (h2 : d ∣ x) (h3 : ∀ e, 2 ≤ e → e ∣ x → d ≤ e) : lf x = d := by
  obtain ⟨a, b, c⟩ := lf_spec h
  have := c d h1 h2
  have := h3 _ a b
  omega
theorem lf_le {x : Nat} (h : 2 ≤ x) : lf x ≤ x := (lf_spec h).2.2 x h (Nat.dvd_refl x)
def isP (x : Nat) : Bool := decide (2 ≤ x) && lf x == x
theorem isP_iff {x : Nat} : isP x = true ↔ 2 ≤ x ∧ lf x = x := by simp [isP]
theorem isP_2 {x : Nat} (h : isP x = true) : 2 ≤ x := (isP_iff.mp h).1
theorem isP_dvd {p e : Nat} (h : isP p = true) (h1 : 2 ≤ e) (h2 : e ∣ p) : e = p := by
  obtain ⟨a, b⟩ := isP_iff.mp h
  have h3 := (lf_spec a).2.2 e h1 h2
  have h4 := Nat.le_of_dvd (by omega) h2
  omega
theorem isP_of {p : Nat} (h : 2 ≤ p) (h2 : ∀ e, 2 ≤ e → e ∣ p → e = p) : isP p = true := isP_iff.mpr ⟨h, lf_of h h (Nat.dvd_refl p) fun e a b => by rw [h2 e a b]; exact Nat.le_refl _⟩
theorem lf_isP {x : Nat} (h : 2 ≤ x) : isP (lf x) = true := by
  obtain ⟨a, b, c⟩ := lf_spec h
  refine isP_of a fun e e1 e2 => ?_
  have h1 := c e e1 (Nat.dvd_trans e2 b)
  have h2 := Nat.le_of_dvd (by omega) e2
  omega
/-- a number that is no prime has its least factor not above its root -/
theorem lf_root {x : Nat} (h : 2 ≤ x) (hn : lf x ≠ x) : lf x * lf x ≤ x := by
  obtain ⟨a, ⟨k, hk⟩, c⟩ := lf_spec h
  have hk2 : 2 ≤ k := by
    rcases k with _ | _ | k
    · rw [Nat.mul_zero] at hk; omega
    · rw [Nat.zero_add, Nat.mul_one] at hk; exact absurd hk.symm hn
    · omega
  have := c k hk2 ⟨lf x, by rw [Nat.mul_comm]; exact hk⟩
  calc lf x * lf x ≤ lf x * k := Nat.mul_le_mul_left _ this
    _ = x := hk.symm
theorem isP_cop {p q : Nat} (hp : isP p = true) (h : ¬ p ∣ q) : Nat.gcd p q = 1 := by
  have h1 := Nat.gcd_dvd_left p q
  have h2 := Nat.gcd_dvd_right p q
  have h0 : 0 < Nat.gcd p q := Nat.gcd_pos_of_pos_left q (by have := isP_2 hp; omega)
  rcases Nat.lt_or_ge (Nat.gcd p q) 2 with z | z
  · omega
  · rw [isP_dvd hp z h1] at h2; exact absurd h2 h
theorem isP_mul {p a b : Nat} (hp : isP p = true) (h : p ∣ a * b) : p ∣ a ∨ p ∣ b := by
  by_cases q : p ∣ a
  · exact Or.inl q
  · exact Or.inr (Nat.Coprime.dvd_of_dvd_mul_left (isP_cop hp q) h)
theorem sp_isP {k : Nat} (h : k < 65) : isP (sp k) = true := all_lt (N := 65) (P := fun k => isP (sp k)) (by decide +kernel) h
theorem sp_all {q : Nat} (h : q < 317) (hq : isP q = true) : ∃ i, i < 65 ∧ sp i = q := by
  have h1 := all_lt (N := 317) (P := fun q => !isP q || spN.any (fun z => z == q)) (by decide +kernel) h
  rw [hq] at h1
  have h2 : q ∈ spN := by simpa using h1
  obtain ⟨i, hi, h3⟩ := List.getElem_of_mem h2
  exact ⟨i, hi, by rw [sp, List.getD_eq_getElem?_getD, List.getElem?_eq_getElem hi]; exact h3⟩
/-- trial division -/
theorem trial {x i : Nat} (h : 2 ≤ x) (hx : x < 100489) (hi : i ≤ 65) (hd : ∀ j, j < i → ¬ sp j ∣ x) (he : i = 65 ∨ x < sp i * sp i) : lf x = x := by
  by_cases hn : lf x = x
  · exact hn
  · have hr := lf_root h hn
    have hlt : lf x < 317 := by
      rcases Nat.lt_or_ge (lf x) 317 with z | z
      · exact z
      · have := Nat.mul_le_mul z z; omega
    obtain ⟨j, hj, e⟩ := sp_all hlt (lf_isP h)
    have hdv := (lf_spec h).2.1
    rw [← e] at hdv hr
    rcases Nat.lt_or_ge j i with z | z
    · exact absurd hdv (hd j z)
    · rcases he with he | he
      · omega
      · have : sp i ≤ sp j := by
          rcases Nat.lt_or_ge i j with y | y
          · exact Nat.le_of_lt (sp_lt y hj)
          · rw [show i = j by omega]; exact Nat.le_refl _
        have := Nat.mul_le_mul this this
        omega
theorem trial2 {x i : Nat} (h : 2 ≤ x) (hi : i < 65) (hd : ∀ j, j < i → ¬ sp j ∣ x) (he : sp i ∣ x) : lf x = sp i := by
  have h1 := (lf_spec h).2.2 (sp i) (sp_ge2 hi) he
  have h2 := sp_le hi
  obtain ⟨j, hj, e⟩ := sp_all (q := lf x) (by omega) (lf_isP h)
  have hdv := (lf_spec h).2.1
  rw [← e] at hdv h1 ⊢
  rcases Nat.lt_or_ge j i with z | z
  · exact absurd hdv (hd j z)
  · rcases Nat.lt_or_ge i j with y | y
    · have := sp_lt y hj; omega
    · rw [show i = j by omega]
/-- what is left: x is not divided by any of the first t primes whose bit in m is set -/
def al (m : Nat) : Nat → Nat → Bool
  | 0, _ => true
  | t + 1, x => al m t x && !(m.testBit t && x % sp t == 0)
def cR (m t r v : Nat) : Nat := ct (fun x => al m t x && x % 4 == r) v
def cA (m t v : Nat) : Nat := ct (fun x => al m t x) v
def sR (m t v : Nat) : Nat := sm (fun x => if al m t x then x else 0) v
theorem al_mul {m : Nat} : ∀ {t p : Nat}, t ≤ 65 → (∀ j, j < t → Nat.gcd (sp j) p = 1) → ∀ y, al m t (p * y) = al m t y
  | 0, _, _, _, _ => rfl
  | t + 1, p, ht, hc, y => by
    unfold al
    rw [al_mul (by omega) (fun j hj => hc j (by omega)) y]
    have e : ((p * y) % sp t == 0) = (y % sp t == 0) := by
      rw [Bool.eq_iff_iff, beq_iff_eq, beq_iff_eq]
      constructor
      · intro h
        exact Nat.mod_eq_zero_of_dvd (Nat.Coprime.dvd_of_dvd_mul_left (hc t (by omega)) (Nat.dvd_of_mod_eq_zero h))
      · intro h
        exact Nat.mod_eq_zero_of_dvd (Nat.dvd_mul_left_of_dvd (Nat.dvd_of_mod_eq_zero h) p)
    rw [e]
/-- what a prime that strikes takes away, and what is left -/
theorem sm_strike {m t : Nat} (ht : t < 65) (hb : m.testBit t = true) (f : Nat → Nat) (v : Nat) : sm (fun x => if al m (t + 1) x then f x else 0) v + sm (fun y => if al m t y then f (sp t * y) else 0) (v / sp t) = sm (fun x => if al m t x then f x else 0) v := by
  have hp : 0 < sp t := by have := sp_ge2 ht; omega
  have e1 : sm (fun y => if al m t y then f (sp t * y) else 0) (v / sp t) = sm (fun x => if x % sp t = 0 then (if al m t x then f x else 0) else 0) v := by
    rw [sm_mult _ hp]
    exact sm_cong fun y _ _ => by
      rw [al_mul (by omega) (fun j hj => sp_cop ht hj)]
  rw [e1, ← sm_add]
  refine sm_cong fun x _ _ => ?_
  rw [show al m (t + 1) x = (al m t x && !(m.testBit t && x % sp t == 0)) from rfl, hb]
  by_cases h1 : al m t x = true <;> by_cases h2 : x % sp t = 0 <;> simp [h1, h2]
theorem al_spare {m t : Nat} (hb : m.testBit t = false) (x : Nat) : al m (t + 1) x = al m t x := by
  rw [show al m (t + 1) x = (al m t x && !(m.testBit t && x % sp t == 0)) from rfl, hb]
  simp
theorem al_cong {m m2 : Nat} : ∀ {t : Nat}, (∀ j, j < t → m.testBit j = m2.testBit j) → ∀ x, al m t x = al m2 t x
  | 0, _, _ => rfl
  | t + 1, h, x => by
    unfold al
    rw [al_cong (fun j hj => h j (by omega)) x, h t (by omega)]
theorem al_iff {m x : Nat} : ∀ {t : Nat}, al m t x = true ↔ ∀ j, j < t → m.testBit j = true → ¬ sp j ∣ x
  | 0 => ⟨fun _ j hj => absurd hj (Nat.not_lt_zero j), fun _ => rfl⟩
  | t + 1 => by
    rw [show al m (t + 1) x = (al m t x && !(m.testBit t && x % sp t == 0)) from rfl, Bool.and_eq_true, al_iff (t := t)]
    constructor
    · intro ⟨h1, h2⟩ j hj hb hd
      by_cases e : j = t
      · rw [e] at hb hd
        rw [hb, Nat.mod_eq_zero_of_dvd hd] at h2
        simp at h2
      · exact h1 j (by omega) hb hd
    · intro h
      refine ⟨fun j hj hb => h j (by omega) hb, ?_⟩
      by_cases hb : m.testBit t = true
      · have := h t (by omega) hb
        have h3 : ¬ x % sp t = 0 := fun z => this (Nat.dvd_of_mod_eq_zero z)
        simp [h3]
      · simp [hb]
theorem sR_step {m t : Nat} (ht : t < 65) (hb : m.testBit t = true) (v : Nat) : sR m (t + 1) v + sp t * sR m t (v / sp t) = sR m t v := by
  rw [sR, sR, sR, ← sm_strike ht hb (fun x => x) v, ← sm_c]
  congr 1
  exact sm_cong fun y _ _ => by by_cases h : al m t y = true <;> simp [h]
theorem cR_step {m t : Nat} (ht : t < 65) (hb : m.testBit t = true) (r v : Nat) : cR m (t + 1) r v + ct (fun y => al m t y && (sp t * y) % 4 == r) (v / sp t) = cR m t r v := by
  have h := sm_strike ht hb (fun x => if x % 4 = r then 1 else 0) v
  rw [cR, cR, ct_sm, ct_sm, ct_sm]
  have g : ∀ (u : Nat → Bool) (w : Nat → Nat), (fun x => if (u x && w x == r) = true then 1 else 0) = (fun x => if u x = true then (if w x = r then 1 else 0) else 0) := fun u w => by
    funext x
    by_cases h1 : u x = true <;> by_cases h2 : w x = r <;> simp [h1, h2]
  rw [g, g, g]
  exact h
/-- the multiples, by their own rests -/
theorem cR_restsG (m t r w : Nat) (g : Nat → Nat) : ct (fun y => al m t y && g (y % 4) == r) w = (if g 0 = r then cR m t 0 w else 0) + (if g 1 = r then cR m t 1 w else 0) + (if g 2 = r then cR m t 2 w else 0) + (if g 3 = r then cR m t 3 w else 0) := by
  simp only [cR]
  induction w with
  | zero => simp only [ct]; (repeat' split) <;> rfl
  | succ w ih =>
    simp only [ct_s]
    rw [ih]
    have hr : (w + 1) % 4 = 0 ∨ (w + 1) % 4 = 1 ∨ (w + 1) % 4 = 2 ∨ (w + 1) % 4 = 3 := by omega
    by_cases h0 : al m t (w + 1) = true
    · by_cases q0 : g 0 = r <;> by_cases q1 : g 1 = r <;> by_cases q2 : g 2 = r <;> by_cases q3 : g 3 = r <;> rcases hr with h | h | h | h <;> simp [h0, h, q0, q1, q2, q3] <;> omega
    · simp [h0]
theorem cR_rests (m t p r w : Nat) : ct (fun y => al m t y && (p * y) % 4 == r) w = (if p * 0 % 4 = r then cR m t 0 w else 0) + (if p * 1 % 4 = r then cR m t 1 w else 0) + (if p * 2 % 4 = r then cR m t 2 w else 0) + (if p * 3 % 4 = r then cR m t 3 w else 0) := by
  rw [← cR_restsG m t r w (fun i => p * i % 4)]
  exact ct_cong fun y _ _ => by
    have : (p * y) % 4 = (p * (y % 4)) % 4 := by rw [Nat.mul_mod, Nat.mul_mod p (y % 4), Nat.mod_mod]
    rw [this]
theorem cR_sum (m t v : Nat) : cR m t 0 v + cR m t 1 v + cR m t 2 v + cR m t 3 v = cA m t v := by
  simp only [cR, cA]
  induction v with
  | zero => rfl
  | succ w ih =>
    simp only [ct_s]
    have hr : (w + 1) % 4 = 0 ∨ (w + 1) % 4 = 1 ∨ (w + 1) % 4 = 2 ∨ (w + 1) % 4 = 3 := by omega
    by_cases h0 : al m t (w + 1) = true
    · rcases hr with h | h | h | h <;> simp [h0, h] <;> omega
    · simp [h0]; omega
theorem cA_step {m t : Nat} (ht : t < 65) (hb : m.testBit t = true) (v : Nat) : cA m (t + 1) v + cA m t (v / sp t) = cA m t v := by
  have h := sm_strike ht hb (fun _ => 1) v
  rw [cA, cA, cA, ct_sm, ct_sm, ct_sm]
  exact h
theorem tb_mod (m k : Nat) : m.testBit k = decide (m / 2 ^ k % 2 = 1) := Nat.testBit_eq_decide_div_mod_eq
