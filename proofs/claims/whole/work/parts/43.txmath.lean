/-! reading a text: words, numbers, faults -/
def tA (f : Nat → Int) (L : Int) (i : Nat) : Int := if (i : Int) < L then f i else 0
theorem tA_lt {f : Nat → Int} {L : Int} {i : Nat} (h : (i : Int) < L) : tA f L i = f i := if_pos h
theorem tA_ge {f : Nat → Int} {L : Int} {i : Nat} (h : L ≤ (i : Int)) : tA f L i = 0 := if_neg (by omega)
def csn (T : Nat → Int) (a i : Nat) : Nat → Nat
  | 0 => 0
  | k + 1 => if csn T a i k = k ∧ T (a + k) = wc i k then k + 1 else csn T a i k
theorem csn_s {T : Nat → Int} {a i k : Nat} : csn T a i (k + 1) = if csn T a i k = k ∧ T (a + k) = wc i k then k + 1 else csn T a i k := rfl
theorem csn_step {T : Nat → Int} {a i s : Nat} (h : csn T a i s = s) (h2 : T (a + s) = wc i s) : csn T a i (s + 1) = s + 1 := by
  show (if _ then _ else _) = _
  rw [if_pos ⟨h, h2⟩]
theorem csn_le {T : Nat → Int} {a i : Nat} : ∀ k, csn T a i k ≤ k
  | 0 => Nat.le_refl _
  | k + 1 => by
    rw [csn_s]
    have := csn_le (T := T) (a := a) (i := i) k
    split <;> omega
theorem csn_stop {T : Nat → Int} {a i s : Nat} (h : csn T a i s = s) (h2 : ¬ T (a + s) = wc i s) : ∀ k, csn T a i (s + k) = s
  | 0 => h
  | k + 1 => by
    have ih := csn_stop h h2 k
    rw [← Nat.add_assoc, csn_s, if_neg]
    · exact ih
    · rintro ⟨z1, z2⟩
      rcases k with _ | k
      · exact h2 z2
      · omega
theorem csn_stop' {T : Nat → Int} {a i s k : Nat} (h : csn T a i s = s) (h2 : ¬ T (a + s) = wc i s) (hk : s ≤ k) : csn T a i k = s := by
  have := csn_stop h h2 (k - s)
  rwa [show s + (k - s) = k by omega] at this
theorem csn_mono {T : Nat → Int} {a i s : Nat} (h : csn T a i s = s) : ∀ k, s ≤ csn T a i (s + k)
  | 0 => Nat.le_of_eq h.symm
  | k + 1 => by
    have ih := csn_mono h k
    rw [← Nat.add_assoc, csn_s]
    split <;> omega
theorem csn_mono' {T : Nat → Int} {a i s k : Nat} (h : csn T a i s = s) (hk : s ≤ k) : s ≤ csn T a i k := by
  have := csn_mono h (k - s)
  rwa [show s + (k - s) = k by omega] at this
def sW (T : Nat → Int) (a : Nat) : Nat := if T a = 98 then 0 else if T a = 97 then 3 else if T a = 115 then (if T (a + 1) = 112 then 2 else 1) else 4
def csA (T : Nat → Int) (a : Nat) : Nat := if sW T a = 4 then 0 else csn T a (sW T a) (wl (sW T a))
def Ful (T : Nat → Int) (a : Nat) : Prop := sW T a < 4 ∧ csA T a = wl (sW T a)
theorem sW_le (T : Nat → Int) (a : Nat) : sW T a ≤ 4 := by
  unfold sW; split <;> (try split) <;> (try split) <;> (try split) <;> omega
def fmx (T : Nat → Int) (a : Nat) : Nat → Nat
  | 0 => 0
  | i + 1 => max (fmx T a i) (csn T a i (wl i))
def wsel (T : Nat → Int) (a : Nat) : Nat → Nat
  | 0 => 4
  | i + 1 => if csn T a i (wl i) = wl i then i else wsel T a i
theorem csn_z {T : Nat → Int} {a i k : Nat} (h : ¬ T a = wc i 0) : csn T a i k = 0 := csn_stop' (s := 0) rfl h (Nat.zero_le _)
theorem csn_1 {T : Nat → Int} {a i : Nat} (h : T a = wc i 0) : csn T a i 1 = 1 := csn_step (s := 0) rfl h
theorem read_sel (T : Nat → Int) (a : Nat) : fmx T a 4 = csA T a ∧ (Ful T a → wsel T a 4 = sW T a) ∧ (¬ Ful T a → wsel T a 4 = 4) := by
  have w0 : wc 0 0 = 98 := by decide
  have w1 : wc 1 0 = 115 := by decide
  have w2 : wc 2 0 = 115 := by decide
  have w3 : wc 3 0 = 97 := by decide
  have w11 : wc 1 1 = 116 := by decide
  have w21 : wc 2 1 = 112 := by decide
  have l0 : wl 0 = 5 := by decide
  have l1 : wl 1 = 6 := by decide
  have l2 : wl 2 = 5 := by decide
  have l3 : wl 3 = 5 := by decide
  have key : ∀ i, sW T a = i → (∀ q, q < 4 → q ≠ i → csn T a q (wl q) ≤ 1) → (i < 4 → 1 ≤ csn T a i (wl i)) → (i = 4 → ∀ q, q < 4 → csn T a q (wl q) = 0) → fmx T a 4 = csA T a ∧ (Ful T a → wsel T a 4 = sW T a) ∧ (¬ Ful T a → wsel T a 4 = 4) := by
    intro i hi h1 h2 h3
    have h4 : i ≤ 4 := hi ▸ sW_le T a
    have e : csA T a = if i = 4 then 0 else csn T a i (wl i) := by unfold csA; rw [hi]
    have ef : Ful T a ↔ i < 4 ∧ csA T a = wl i := by unfold Ful; rw [hi]
    rw [ef, e, hi]
    show max (max (max (max 0 (csn T a 0 (wl 0))) (csn T a 1 (wl 1))) (csn T a 2 (wl 2))) (csn T a 3 (wl 3)) = _ ∧ (_ → (if csn T a 3 (wl 3) = wl 3 then 3 else if csn T a 2 (wl 2) = wl 2 then 2 else if csn T a 1 (wl 1) = wl 1 then 1 else if csn T a 0 (wl 0) = wl 0 then 0 else 4) = i) ∧ (_ → (if csn T a 3 (wl 3) = wl 3 then 3 else if csn T a 2 (wl 2) = wl 2 then 2 else if csn T a 1 (wl 1) = wl 1 then 1 else if csn T a 0 (wl 0) = wl 0 then 0 else 4) = 4)
    have a0 := h1 0 (by omega); have a1 := h1 1 (by omega); have a2 := h1 2 (by omega); have a3 := h1 3 (by omega)
    rcases (show i = 0 ∨ i = 1 ∨ i = 2 ∨ i = 3 ∨ i = 4 by omega) with rfl | rfl | rfl | rfl | rfl
    · have b1 := a1 (by omega); have b2 := a2 (by omega); have b3 := a3 (by omega); have bb := h2 (by omega)
      clear a0 a1 a2 a3 h1 h2 h3 e ef
      generalize csn T a 0 (wl 0) = c0 at *; generalize csn T a 1 (wl 1) = c1 at *; generalize csn T a 2 (wl 2) = c2 at *; generalize csn T a 3 (wl 3) = c3 at *
      rw [if_neg (show ¬ (0 : Nat) = 4 by omega)]
      refine ⟨by omega, fun h => ?_, fun h => ?_⟩ <;> (repeat' split) <;> omega
    · have b0 := a0 (by omega); have b2 := a2 (by omega); have b3 := a3 (by omega); have bb := h2 (by omega)
      clear a0 a1 a2 a3 h1 h2 h3 e ef
      generalize csn T a 0 (wl 0) = c0 at *; generalize csn T a 1 (wl 1) = c1 at *; generalize csn T a 2 (wl 2) = c2 at *; generalize csn T a 3 (wl 3) = c3 at *
      rw [if_neg (show ¬ (1 : Nat) = 4 by omega)]
      refine ⟨by omega, fun h => ?_, fun h => ?_⟩ <;> (repeat' split) <;> omega
    · have b0 := a0 (by omega); have b1 := a1 (by omega); have b3 := a3 (by omega); have bb := h2 (by omega)
      clear a0 a1 a2 a3 h1 h2 h3 e ef
      generalize csn T a 0 (wl 0) = c0 at *; generalize csn T a 1 (wl 1) = c1 at *; generalize csn T a 2 (wl 2) = c2 at *; generalize csn T a 3 (wl 3) = c3 at *
      rw [if_neg (show ¬ (2 : Nat) = 4 by omega)]
      refine ⟨by omega, fun h => ?_, fun h => ?_⟩ <;> (repeat' split) <;> omega
    · have b0 := a0 (by omega); have b1 := a1 (by omega); have b2 := a2 (by omega); have bb := h2 (by omega)
      clear a0 a1 a2 a3 h1 h2 h3 e ef
      generalize csn T a 0 (wl 0) = c0 at *; generalize csn T a 1 (wl 1) = c1 at *; generalize csn T a 2 (wl 2) = c2 at *; generalize csn T a 3 (wl 3) = c3 at *
      rw [if_neg (show ¬ (3 : Nat) = 4 by omega)]
      refine ⟨by omega, fun h => ?_, fun h => ?_⟩ <;> (repeat' split) <;> omega
    · have z := h3 rfl
      have b0 := z 0 (by omega); have b1 := z 1 (by omega); have b2 := z 2 (by omega); have b3 := z 3 (by omega)
      clear a0 a1 a2 a3 h1 h2 h3 e ef z
      generalize csn T a 0 (wl 0) = c0 at *; generalize csn T a 1 (wl 1) = c1 at *; generalize csn T a 2 (wl 2) = c2 at *; generalize csn T a 3 (wl 3) = c3 at *
      rw [if_pos (show (4 : Nat) = 4 from rfl)]
      refine ⟨by omega, fun h => ?_, fun h => ?_⟩ <;> (repeat' split) <;> omega
  have z4 : ∀ {q : Nat}, ¬ T a = wc q 0 → csn T a q (wl q) ≤ 1 := fun h => by rw [csn_z h]; omega
  by_cases h98 : T a = 98
  · refine key 0 (by unfold sW; rw [if_pos h98]) (fun q hq hne => z4 ?_) (fun _ => by rw [l0]; exact csn_mono' (csn_1 (by rw [h98, w0])) (by omega)) (fun h => absurd h (by omega))
    rcases (show q = 1 ∨ q = 2 ∨ q = 3 by omega) with rfl | rfl | rfl <;> (try rw [w1]) <;> (try rw [w2]) <;> (try rw [w3]) <;> omega
  by_cases h97 : T a = 97
  · refine key 3 (by unfold sW; rw [if_neg h98, if_pos h97]) (fun q hq hne => z4 ?_) (fun _ => by rw [l3]; exact csn_mono' (csn_1 (by rw [h97, w3])) (by omega)) (fun h => absurd h (by omega))
    rcases (show q = 0 ∨ q = 1 ∨ q = 2 by omega) with rfl | rfl | rfl <;> (try rw [w0]) <;> (try rw [w1]) <;> (try rw [w2]) <;> omega
  by_cases h115 : T a = 115
  · have c1 : csn T a 1 1 = 1 := csn_1 (by rw [h115, w1])
    have c2 : csn T a 2 1 = 1 := csn_1 (by rw [h115, w2])
    by_cases hp : T (a + 1) = 112
    · refine key 2 (by unfold sW; rw [if_neg h98, if_neg h97, if_pos h115, if_pos hp]) (fun q hq hne => ?_) (fun _ => by rw [l2]; exact csn_mono' c2 (by omega)) (fun h => absurd h (by omega))
      rcases (show q = 0 ∨ q = 1 ∨ q = 3 by omega) with rfl | rfl | rfl
      · exact z4 (by rw [w0]; omega)
      · rw [l1, csn_stop' c1 (by rw [w11]; omega) (by omega)]; omega
      · exact z4 (by rw [w3]; omega)
    · refine key 1 (by unfold sW; rw [if_neg h98, if_neg h97, if_pos h115, if_neg hp]) (fun q hq hne => ?_) (fun _ => by rw [l1]; exact csn_mono' c1 (by omega)) (fun h => absurd h (by omega))
      rcases (show q = 0 ∨ q = 2 ∨ q = 3 by omega) with rfl | rfl | rfl
      · exact z4 (by rw [w0]; omega)
      · rw [l2, csn_stop' c2 (by rw [w21]; omega) (by omega)]; omega
      · exact z4 (by rw [w3]; omega)
  · have hz : ∀ q, q < 4 → csn T a q (wl q) = 0 := fun q hq => csn_z (by
      rcases (show q = 0 ∨ q = 1 ∨ q = 2 ∨ q = 3 by omega) with rfl | rfl | rfl | rfl <;> (try rw [w0]) <;> (try rw [w1]) <;> (try rw [w2]) <;> (try rw [w3]) <;> omega)
    exact key 4 (by unfold sW; rw [if_neg h98, if_neg h97, if_neg h115]) (fun q hq _ => by rw [hz q hq]; omega) (fun h => absurd h (by omega)) (fun _ => hz)
def nmR (T : Nat → Int) (i : Nat) : Nat → Nat → Int → Nat × Int
  | 0, p, m => (p, m)
  | k + 1, p, m => if (48 ≤ T p ∧ T p ≤ 57) ∧ wlo i ≤ 10 * m + (T p - 48) ∧ 10 * m + (T p - 48) ≤ whi i then nmR T i k (p + 1) (10 * m + (T p - 48)) else (p, m)
def nmr (T : Nat → Int) (a : Nat) : Nat × Int := nmR T (sW T a) 6 (a + csA T a) 0
theorem nmR_go {T : Nat → Int} {i k p : Nat} {m : Int} (h1 : 48 ≤ T p ∧ T p ≤ 57) (h2 : wlo i ≤ 10 * m + (T p - 48) ∧ 10 * m + (T p - 48) ≤ whi i) : nmR T i (k + 1) p m = nmR T i k (p + 1) (10 * m + (T p - 48)) := if_pos ⟨h1, h2⟩
theorem nmR_end {T : Nat → Int} {i k p : Nat} {m : Int} (h : ¬ ((48 ≤ T p ∧ T p ≤ 57) ∧ wlo i ≤ 10 * m + (T p - 48) ∧ 10 * m + (T p - 48) ≤ whi i)) : nmR T i (k + 1) p m = (p, m) := if_neg h
def nmK (k : Nat) (m : Int) : Prop := (k = 6 ∧ m = 0) ∨ (k = 5 ∧ 1 ≤ m) ∨ (k = 4 ∧ 10 ≤ m) ∨ (k = 3 ∧ 100 ≤ m) ∨ (k = 2 ∧ 1000 ≤ m) ∨ (k = 1 ∧ 10000 ≤ m)
def NmI (T : Nat → Int) (i : Nat) (a p : Nat) (m : Int) : Prop := ∃ k, nmK (k + 1) m ∧ nmR T i (k + 1) p m = nmR T i 6 a 0
theorem NmI_0 {T : Nat → Int} {i a : Nat} : NmI T i a a 0 := ⟨5, Or.inl ⟨rfl, rfl⟩, rfl⟩
theorem w_bd {i : Nat} (hi : i < 4) : 1 ≤ wlo i ∧ wlo i ≤ 2 ∧ 0 ≤ whi i ∧ whi i ≤ 99999 ∧ 0 ≤ wnn i ∧ wnn i ≤ 1 := of_decide_eq_true (all_lt (N := 4) (P := fun i => decide (1 ≤ wlo i ∧ wlo i ≤ 2 ∧ 0 ≤ whi i ∧ whi i ≤ 99999 ∧ 0 ≤ wnn i ∧ wnn i ≤ 1)) (by decide +kernel) hi)
theorem NmI_go {T : Nat → Int} {i a p : Nat} {m x : Int} (hi : i < 4) (h : NmI T i a p m) (h1 : 48 ≤ T p ∧ T p ≤ 57) (hx : x = 10 * m + (T p - 48)) (h2 : wlo i ≤ x ∧ x ≤ whi i) : NmI T i a (p + 1) x := by
  obtain ⟨k, hk, e⟩ := h
  have hw := w_bd hi
  subst hx
  rw [nmR_go h1 h2] at e
  unfold nmK at hk
  rcases k with _ | k
  · omega
  · exact ⟨k, by unfold nmK; omega, e⟩
theorem NmI_end {T : Nat → Int} {i a p : Nat} {m : Int} (h : NmI T i a p m) (h2 : ¬ ((48 ≤ T p ∧ T p ≤ 57) ∧ wlo i ≤ 10 * m + (T p - 48) ∧ 10 * m + (T p - 48) ≤ whi i)) : nmR T i 6 a 0 = (p, m) := by
  obtain ⟨k, hk, e⟩ := h
  rw [← e, nmR_end h2]
/-- a word's reading: 0 a fault at a place, 1 the end, 2 a word due at a place -/
def stp (T : Nat → Int) (L a : Nat) : Nat × Nat :=
  if ¬ (sW T a < 4 ∧ csA T a = wl (sW T a)) then (0, a + csA T a) else if (nmr T a).2 = 0 ∧ wnn (sW T a) = 1 then (0, (nmr T a).1) else if L ≤ (nmr T a).1 then (1, (nmr T a).1) else if ¬ T (nmr T a).1 = 44 then (0, (nmr T a).1) else (2, (nmr T a).1 + 1)
def flt (T : Nat → Int) (L : Nat) : Nat → Nat → Int
  | 0, _ => -1
  | k + 1, a => if (stp T L a).1 = 0 then ((stp T L a).2 : Int) else if (stp T L a).1 = 1 then -1 else flt T L k (stp T L a).2
