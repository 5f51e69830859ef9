/-! the reference's whole state -/
def SvM (sw : Nat → Option (Nat × Nat × Nat)) (fs fv : Nat → Int) : Prop := ∀ i : Nat, i < 2 → (fv i = 1 ∧ ∃ x, sw i = some x ∧ MS fs (15 + i) x.1 x.2.1 x.2.2) ∨ (fv i = 0 ∧ sw i = none)
def MI (R : List (Nat × Nat × Nat)) (sw : Nat → Option (Nat × Nat × Nat)) (n k m : Nat) (st : Int) (fs fv : Nat → Int) : Prop := MR R st fs ∧ MS fs 0 n k m ∧ SvM sw fs fv
theorem MR_hi {R : List (Nat × Nat × Nat)} {st : Int} {fs gs : Nat → Int} (h : ∀ q, 42 ≤ q → q < 630 → gs q = fs q) (hr : MR R st fs) : MR R st gs := by
  obtain ⟨h1, h2, h3⟩ := hr
  refine ⟨h1, h2, fun i x hx => ?_⟩
  have hi : i < R.length := by
    rcases Nat.lt_or_ge i R.length with z | z
    · exact z
    · rw [List.getElem?_eq_none z] at hx; cases hx
  exact MS_eq (fun q hq => h _ (by omega) (by omega)) (h3 i x hx)
theorem SvM_hi {sw : Nat → Option (Nat × Nat × Nat)} {fs gs fv : Nat → Int} (h : ∀ q, 630 ≤ q → q < 714 → gs q = fs q) (hs : SvM sw fs fv) : SvM sw gs fv := fun i hi => by
  rcases hs i hi with ⟨a, x, b, c⟩ | ⟨a, b⟩
  · exact Or.inl ⟨a, x, b, MS_eq (fun q hq => h _ (by omega) (by omega)) c⟩
  · exact Or.inr ⟨a, b⟩
theorem MI_0 {R : List (Nat × Nat × Nat)} {sw : Nat → Option (Nat × Nat × Nat)} {n k m n2 k2 m2 : Nat} {st : Int} {fs gs fv : Nat → Int} (h : MI R sw n k m st fs fv) (hm : MO_ 0 fs gs) (hs : MS gs 0 n2 k2 m2) : MI R sw n2 k2 m2 st gs fv := ⟨MR_hi (fun q a _ => hm q (Or.inr a)) h.1, hs, SvM_hi (fun q a _ => hm q (Or.inr (by omega))) h.2.2⟩
theorem MI_17 {R : List (Nat × Nat × Nat)} {sw : Nat → Option (Nat × Nat × Nat)} {n k m : Nat} {st : Int} {fs gs fv : Nat → Int} (h : MI R sw n k m st fs fv) (hm : MO_ 17 fs gs) : MI R sw n k m st gs fv := ⟨MR_hi (fun q _ b => hm q (Or.inl (by omega))) h.1, MS_mo hm (by decide) h.2.1, SvM_hi (fun q _ b => hm q (Or.inl (by omega))) h.2.2⟩
theorem MI_rem {R : List (Nat × Nat × Nat)} {sw : Nat → Option (Nat × Nat × Nat)} {n k m : Nat} {st st2 : Int} {fs gs fv : Nat → Int} (h : MI R sw n k m st fs fv) (hu : MR (((n, k, m) :: R).take 14) st2 gs ∧ MS gs 0 n k m ∧ ∀ J, 15 ≤ J → ∀ i, i < 42 → gs (42 * J + i) = fs (42 * J + i)) : MI (((n, k, m) :: R).take 14) sw n k m st2 gs fv := ⟨hu.1, hu.2.1, SvM_hi (fun q a b => by
  have := hu.2.2 (q / 42) (by omega) (q % 42) (by omega)
  rwa [Nat.div_add_mod] at this) h.2.2⟩
theorem MI_save {R : List (Nat × Nat × Nat)} {sw : Nat → Option (Nat × Nat × Nat)} {n k m : Nat} {st : Int} {fs gs fv f2 : Nat → Int} {sl p : Nat} (h : MI R sw n k m st fs fv) (hs : sl < 2) (hp : p = 15 + sl) (hc : CpOK 0 p fs gs) (h2 : f2 = upI fv sl 1) : MI R (svU sw sl (n, k, m)) n k m st gs f2 := by
  subst hp
  refine ⟨MR_hi (fun q a b => hc.2 q (by omega)) h.1, MS_mo hc.2 (by omega) h.2.1, fun i hi => ?_⟩
  rw [h2]
  by_cases e : i = sl
  · subst e
    exact Or.inl ⟨upI_s, (n, k, m), if_pos rfl, MS_cp hc h.2.1⟩
  · have e2 : svU sw sl (n, k, m) i = sw i := if_neg e
    rw [upI_n e, e2]
    rcases h.2.2 i hi with ⟨a, x, b, c⟩ | ⟨a, b⟩
    · exact Or.inl ⟨a, x, b, MS_mo hc.2 (by omega) c⟩
    · exact Or.inr ⟨a, b⟩
theorem MR_nil {fs : Nat → Int} : MR [] 0 fs := ⟨rfl, by decide, fun i x hx => by cases hx⟩
theorem MI_restore {R : List (Nat × Nat × Nat)} {sw : Nat → Option (Nat × Nat × Nat)} {n k m : Nat} {st : Int} {fs gs fv : Nat → Int} {sl p : Nat} {x : Nat × Nat × Nat} (h : MI R sw n k m st fs fv) (hp : p = 15 + sl) (hx : MS fs (15 + sl) x.1 x.2.1 x.2.2) (hc : CpOK p 0 fs gs) : MI [] sw x.1 x.2.1 x.2.2 0 gs fv := by
  subst hp
  exact ⟨MR_nil, MS_cp hc hx, SvM_hi (fun q a b => hc.2 q (by omega)) h.2.2⟩
theorem MI_undo {x : Nat × Nat × Nat} {R : List (Nat × Nat × Nat)} {sw : Nat → Option (Nat × Nat × Nat)} {n k m : Nat} {st st2 : Int} {fs gs fv : Nat → Int} {p : Nat} (h : MI (x :: R) sw n k m st fs fv) (hp : p = st.toNat) (hc : CpOK p 0 fs gs) (h2 : st2 = st - 1) : MI R sw x.1 x.2.1 x.2.2 st2 gs fv := by
  subst hp
  obtain ⟨⟨h1, h3, h4⟩, h5, h6⟩ := h
  rw [List.length_cons] at h1 h3
  have hM := h4 0 x rfl
  rw [List.length_cons, show R.length + 1 - 0 = st.toNat by omega] at hM
  refine ⟨⟨by omega, by omega, fun i y hy => ?_⟩, MS_cp hc hM, SvM_hi (fun q a b => hc.2 q (by omega)) h6⟩
  have hi : i < R.length := by
    rcases Nat.lt_or_ge i R.length with z | z
    · exact z
    · rw [List.getElem?_eq_none z] at hy; cases hy
  have := h4 (i + 1) y (by rw [List.getElem?_cons_succ]; exact hy)
  rw [List.length_cons, show R.length + 1 - (i + 1) = R.length - i by omega] at this
  exact MS_mo hc.2 (by omega) this
theorem MI_new {fs : Nat → Int} {n : Nat} (h : MS fs 0 n 0 0) {fv : Nat → Int} (hv : ∀ i, i < 2 → fv i = 0) : MI [] (fun _ => none) n 0 0 0 fs fv := ⟨MR_nil, h, fun i hi => Or.inr ⟨hv i hi, rfl⟩⟩
theorem mP_cA {m k p v : Nat} (hk : k ≤ 40) (hp : p = sp k) : ct (mP m k p) v = cA m k (v / p) := by
  subst hp
  have h2 : 2 ≤ sp k := sp_ge2 (by omega)
  have e1 : ct (mP m k (sp k)) v = sm (fun x => if x % sp k = 0 then (if al m k x = true then 1 else 0) else 0) v := by
    rw [ct_sm]
    refine sm_cong fun x _ _ => ?_
    unfold mP
    by_cases a : al m k x = true
    · by_cases b : x % sp k = 0
      · rw [a, b]; rfl
      · rw [a, if_neg b]; simp [b]
    · by_cases b : x % sp k = 0
      · rw [if_neg (by rw [Bool.and_eq_true]; exact fun z => a z.1), if_pos b, if_neg a]
      · rw [if_neg (by rw [Bool.and_eq_true]; exact fun z => a z.1), if_neg b]
  rw [e1, sm_mult (fun x => if al m k x = true then 1 else 0) (by omega : 0 < sp k)]
  unfold cA
  rw [ct_sm]
  refine sm_cong fun x _ _ => ?_
  show (if al m k (sp k * x) = true then 1 else 0) = _
  rw [al_mul (m := m) (t := k) (p := sp k) (by omega) (fun j hj => sp_cop (by omega) hj) x]
theorem testBit_or_self (m k : Nat) : (m ||| 2 ^ k).testBit k = true := by
  rw [Nat.testBit_or, Nat.testBit_two_pow, decide_eq_true rfl, Bool.or_true]
theorem cA_strike {m k v : Nat} (hk : k < 40) (hm : m < 2 ^ k) : cA (m ||| 2 ^ k) (k + 1) v + cA m k (v / sp k) = cA m k v := by
  have hc : ∀ x, al (m ||| 2 ^ k) k x = al m k x := fun x => al_cong (fun j hj => by
    rw [Nat.testBit_or, Nat.testBit_two_pow, decide_eq_false (by omega), Bool.or_false]) x
  have h := cA_step (m := m ||| 2 ^ k) (t := k) (by omega) (testBit_or_self m k) v
  have e : ∀ w, cA (m ||| 2 ^ k) k w = cA m k w := fun w => ct_cong fun x _ _ => hc x
  rw [e, e] at h
  exact h
def popk (m k : Nat) : Nat := ce (fun b => m.testBit b) k
theorem popk_s {m k : Nat} : popk m (k + 1) = popk m k + (if m.testBit k then 1 else 0) := rfl
theorem popk_popc {m k : Nat} (hk : k ≤ 40) (hm : m < 2 ^ k) : popk m k = popc m := by
  unfold popc popk
  exact (ce_rest (by omega) fun e h1 _ => Nat.testBit_lt_two_pow (Nat.lt_of_lt_of_le hm (Nat.pow_le_pow_right (by decide) h1))).symm
theorem popk_le (m k : Nat) : popk m k ≤ k := ce_le _ k
theorem MS_ag {J n k m : Nat} {fs gs : Nat → Int} (h : MS fs J n k m) (hg : gs = upI fs (42 * J + 1) 0) : MS gs J n 0 0 ∧ MO_ J fs gs := by
  obtain ⟨h1, h2, h3, h4⟩ := h
  exact ⟨⟨by rw [hg, upI_n (by omega)]; exact h1, by rw [hg, upI_s]; rfl, fun i hi => absurd hi (Nat.not_lt_zero i), ⟨h4.1, h4.2.1, by show (0:Nat) ≤ 40; omega, by show (0:Nat) < 2 ^ 0; decide⟩⟩, MO_u hg (by omega)⟩
theorem MI_new2 {fs : Nat → Int} {n k m : Nat} (h : MS fs 0 n k m) {fv : Nat → Int} (hv : ∀ i, i < 2 → fv i = 0) : MI [] (fun _ => none) n k m 0 fs fv := ⟨MR_nil, h, fun i hi => Or.inr ⟨hv i hi, rfl⟩⟩
theorem nxI_or (n k : Nat) : nxI n k = -1 ∨ (2 ≤ nxI n k ∧ nxI n k ≤ 313) := by
  by_cases e : nxI n k = -1
  · exact Or.inl e
  · obtain ⟨h1, h2, h3⟩ := nxI_some e
    have := sp_ge2 (show k < 65 by omega)
    have := sp_le (show k < 65 by omega)
    exact Or.inr (by omega)

