/-! the store: states remembered, states kept -/
def Vld (x : Nat × Nat × Nat) : Prop := 1 ≤ x.1 ∧ x.1 ≤ 99999 ∧ x.2.1 ≤ 40 ∧ x.2.2 < 2 ^ x.2.1
def Has (fb fc fk : Nat → Int) (p : Nat) (x : Nat × Nat × Nat) : Prop := fb p = (x.1 : Int) ∧ fc p = (x.2.1 : Int) ∧ fk p = (x.2.2 : Int)
def StR (R : List (Nat × Nat × Nat)) (nw rb : Int) (fb fc fk : Nat → Int) : Prop := (0 ≤ nw ∧ nw < 14) ∧ rb = (R.length : Int) ∧ R.length ≤ 14 ∧ ∀ (i : Nat) (x : Nat × Nat × Nat), R[i]? = some x → Vld x ∧ Has fb fc fk ((nw.toNat + 14 - i) % 14) x
def StV (sv : Nat → Option (Nat × Nat × Nat)) (fb fc fk : Nat → Int) : Prop := ∀ j : Nat, j < 2 → (sv j = none → fb (14 + j) = 0) ∧ ∀ x, sv j = some x → Vld x ∧ Has fb fc fk (14 + j) x
def StOK (R : List (Nat × Nat × Nat)) (sv : Nat → Option (Nat × Nat × Nat)) (nw rb : Int) (fb fc fk : Nat → Int) : Prop := StR R nw rb fb fc fk ∧ StV sv fb fc fk
theorem Has_s {fb fc fk gb gc gk : Nat → Int} {p : Nat} {x : Nat × Nat × Nat} (h1 : gb = upI fb p (x.1 : Int)) (h2 : gc = upI fc p (x.2.1 : Int)) (h3 : gk = upI fk p (x.2.2 : Int)) : Has gb gc gk p x := by
  refine ⟨?_, ?_, ?_⟩
  · rw [h1, upI_s]
  · rw [h2, upI_s]
  · rw [h3, upI_s]
theorem Has_n {fb fc fk gb gc gk : Nat → Int} {p q : Nat} {a b c : Int} {x : Nat × Nat × Nat} (h1 : gb = upI fb p a) (h2 : gc = upI fc p b) (h3 : gk = upI fk p c) (hq : ¬ q = p) (h : Has fb fc fk q x) : Has gb gc gk q x := by
  refine ⟨?_, ?_, ?_⟩
  · rw [h1, upI_n hq]; exact h.1
  · rw [h2, upI_n hq]; exact h.2.1
  · rw [h3, upI_n hq]; exact h.2.2
theorem Vld_of {n k m : Nat} {bd cm sk : Int} (h : BdS n k m bd cm sk) : Vld (n, k, m) := ⟨h.2.2.2.1, h.2.2.2.2.1, h.2.2.2.2.2.1, h.2.2.2.2.2.2⟩
theorem BdS_of {x : Nat × Nat × Nat} {bd cm sk : Int} (h : Vld x) (h1 : bd = (x.1 : Int)) (h2 : cm = (x.2.1 : Int)) (h3 : sk = (x.2.2 : Int)) : BdS x.1 x.2.1 x.2.2 bd cm sk := ⟨h1, h2, h3, h.1, h.2.1, h.2.2.1, h.2.2.2⟩
theorem St_rem {R : List (Nat × Nat × Nat)} {sv : Nat → Option (Nat × Nat × Nat)} {nw rb nw' rb' : Int} {fb fc fk gb gc gk : Nat → Int} {n k m : Nat} {bd cm sk : Int} (h : StOK R sv nw rb fb fc fk) (hS : BdS n k m bd cm sk)
    (hu : nw' = (nw + 1) % 14 ∧ (rb' = if rb = 14 then 14 else rb + 1) ∧ gb = upI fb ((nw + 1) % 14).toNat bd ∧ gc = upI fc ((nw + 1) % 14).toNat cm ∧ gk = upI fk ((nw + 1) % 14).toNat sk) : StOK (((n, k, m) :: R).take 14) sv nw' rb' gb gc gk := by
  obtain ⟨⟨h1, h2, h3, h4⟩, h5⟩ := h
  obtain ⟨u1, u2, u3, u4, u5⟩ := hu
  rw [hS.1] at u3; rw [hS.2.1] at u4; rw [hS.2.2.1] at u5
  have hp : ((nw + 1) % 14).toNat = nw'.toNat := by rw [u1]
  rw [hp] at u3 u4 u5
  refine ⟨⟨by omega, ?_, by rw [List.length_take]; exact Nat.min_le_left _ _, fun i x hx => ?_⟩, fun j hj => ⟨fun hn => ?_, fun x hx => ?_⟩⟩
  · rw [u2, List.length_take, List.length_cons]
    split <;> omega
  · rw [List.getElem?_take] at hx
    split at hx
    · rcases i with _ | i
      · rw [List.getElem?_cons_zero] at hx
        cases hx
        refine ⟨Vld_of hS, ?_⟩
        rw [show (nw'.toNat + 14 - 0) % 14 = nw'.toNat by omega]
        exact Has_s (x := (n, k, m)) u3 u4 u5
      · rw [List.getElem?_cons_succ] at hx
        obtain ⟨z1, z2⟩ := h4 i x hx
        refine ⟨z1, ?_⟩
        rw [show (nw'.toNat + 14 - (i + 1)) % 14 = (nw.toNat + 14 - i) % 14 by omega]
        exact Has_n u3 u4 u5 (by omega) z2
    · cases hx
  · rw [u3, upI_n (by omega)]; exact (h5 j hj).1 hn
  · obtain ⟨z1, z2⟩ := (h5 j hj).2 x hx
    exact ⟨z1, Has_n u3 u4 u5 (by omega) z2⟩
theorem St_take {R : List (Nat × Nat × Nat)} {sv : Nat → Option (Nat × Nat × Nat)} {nw rb nw' rb' bd cm sk : Int} {fb fc fk : Nat → Int} (h : StOK R sv nw rb fb fc fk) (h0 : 1 ≤ rb)
    (hu : nw' = (nw + 13) % 14 ∧ rb' = rb - 1 ∧ bd = fb nw.toNat ∧ cm = fc nw.toNat ∧ sk = fk nw.toNat) : ∃ x R', R = x :: R' ∧ Vld x ∧ (bd = (x.1 : Int) ∧ cm = (x.2.1 : Int) ∧ sk = (x.2.2 : Int)) ∧ StOK R' sv nw' rb' fb fc fk := by
  obtain ⟨⟨h1, h2, h3, h4⟩, h5⟩ := h
  obtain ⟨u1, u2, u3, u4, u5⟩ := hu
  rcases R with _ | ⟨x, R'⟩
  · exact absurd h2 (by rw [List.length_nil]; omega)
  · rw [List.length_cons] at h2 h3
    obtain ⟨z1, z2⟩ := h4 0 x rfl
    rw [show (nw.toNat + 14 - 0) % 14 = nw.toNat by omega] at z2
    refine ⟨x, R', rfl, z1, ⟨by rw [u3]; exact z2.1, by rw [u4]; exact z2.2.1, by rw [u5]; exact z2.2.2⟩, ⟨⟨by omega, by omega, by omega, fun i y hy => ?_⟩, h5⟩⟩
    have hi : i < R'.length := by
      rcases Nat.lt_or_ge i R'.length with z | z
      · exact z
      · rw [List.getElem?_eq_none z] at hy; cases hy
    obtain ⟨y1, y2⟩ := h4 (i + 1) y (by rw [List.getElem?_cons_succ]; exact hy)
    refine ⟨y1, ?_⟩
    rw [show (nw'.toNat + 14 - i) % 14 = (nw.toNat + 14 - (i + 1)) % 14 by omega]
    exact y2
def svU (sv : Nat → Option (Nat × Nat × Nat)) (j : Nat) (x : Nat × Nat × Nat) : Nat → Option (Nat × Nat × Nat) := fun i => if i = j then some x else sv i
theorem St_slot {R : List (Nat × Nat × Nat)} {sv : Nat → Option (Nat × Nat × Nat)} {nw rb sl : Int} {fb fc fk gb gc gk : Nat → Int} {n k m : Nat} {bd cm sk : Int} (h : StOK R sv nw rb fb fc fk) (hS : BdS n k m bd cm sk) (hs : 0 ≤ sl ∧ sl ≤ 1)
    (hu : gb = upI fb (14 + sl).toNat bd ∧ gc = upI fc (14 + sl).toNat cm ∧ gk = upI fk (14 + sl).toNat sk) : StOK R (svU sv sl.toNat (n, k, m)) nw rb gb gc gk := by
  obtain ⟨⟨h1, h2, h3, h4⟩, h5⟩ := h
  obtain ⟨u3, u4, u5⟩ := hu
  rw [hS.1] at u3; rw [hS.2.1] at u4; rw [hS.2.2.1] at u5
  have hp : (14 + sl).toNat = 14 + sl.toNat := by omega
  rw [hp] at u3 u4 u5
  refine ⟨⟨h1, h2, h3, fun i x hx => ?_⟩, fun j hj => ⟨fun hn => ?_, fun x hx => ?_⟩⟩
  · obtain ⟨z1, z2⟩ := h4 i x hx
    exact ⟨z1, Has_n u3 u4 u5 (by omega) z2⟩
  · unfold svU at hn
    split at hn
    · cases hn
    · rename_i e
      rw [u3, upI_n (by omega)]; exact (h5 j hj).1 hn
  · unfold svU at hx
    split at hx
    · rename_i e
      cases hx
      rw [e]
      exact ⟨Vld_of hS, Has_s (x := (n, k, m)) u3 u4 u5⟩
    · rename_i e
      obtain ⟨z1, z2⟩ := (h5 j hj).2 x hx
      exact ⟨z1, Has_n u3 u4 u5 (by omega) z2⟩
theorem St_kept {R : List (Nat × Nat × Nat)} {sv : Nat → Option (Nat × Nat × Nat)} {nw rb sl : Int} {fb fc fk : Nat → Int} (h : StOK R sv nw rb fb fc fk) (hs : 0 ≤ sl ∧ sl ≤ 1) : (fb (14 + sl).toNat = 0 ∧ sv sl.toNat = none) ∨ ∃ x, sv sl.toNat = some x ∧ Vld x ∧ Has fb fc fk (14 + sl).toNat x ∧ ¬ fb (14 + sl).toNat = 0 := by
  have hp : (14 + sl).toNat = 14 + sl.toNat := by omega
  rw [hp]
  obtain ⟨z1, z2⟩ := h.2 sl.toNat (by omega)
  cases e : sv sl.toNat with
  | none => exact Or.inl ⟨z1 e, rfl⟩
  | some x =>
    obtain ⟨y1, y2⟩ := z2 x e
    refine Or.inr ⟨x, rfl, y1, y2, ?_⟩
    have := y2.1
    have := y1.1
    omega
theorem St_clear {R : List (Nat × Nat × Nat)} {sv : Nat → Option (Nat × Nat × Nat)} {nw rb : Int} {fb fc fk : Nat → Int} (h : StOK R sv nw rb fb fc fk) : StOK [] sv nw 0 fb fc fk :=
  ⟨⟨h.1.1, rfl, by decide, fun i x hx => by rw [List.getElem?_nil] at hx; cases hx⟩, h.2⟩
theorem St_empty {nw : Int} {fb fc fk : Nat → Int} (h : 0 ≤ nw ∧ nw < 14) (h2 : fb 14 = 0 ∧ fb 15 = 0) : StOK [] (fun _ => none) nw 0 fb fc fk :=
  ⟨⟨h, rfl, by decide, fun i x hx => by rw [List.getElem?_nil] at hx; cases hx⟩, fun j hj => ⟨fun _ => by
    rcases (show j = 0 ∨ j = 1 by omega) with rfl | rfl
    · exact h2.1
    · exact h2.2, fun x hx => by cases hx⟩⟩
theorem St_rng {R : List (Nat × Nat × Nat)} {sv : Nat → Option (Nat × Nat × Nat)} {nw rb : Int} {fb fc fk : Nat → Int} (h : StOK R sv nw rb fb fc fk) : (0 ≤ nw ∧ nw < 14) ∧ 0 ≤ rb ∧ rb ≤ 14 ∧ (rb = 0 ↔ R = []) := by
  obtain ⟨⟨h1, h2, h3, h4⟩, h5⟩ := h
  refine ⟨h1, by omega, by omega, fun z => ?_, fun z => ?_⟩
  · exact List.length_eq_zero_iff.mp (by omega)
  · rw [h2, z]; rfl
