theorem obR_z {n : Nat} {s : Bool} {k m : Nat} (h : nxI n k = -1) : ∀ t, obR n s t k m = (k, m, t)
  | 0 => rfl
  | t + 1 => obR_no h
def ObJ (n : Nat) (s : Bool) (T : Nat × Nat × Nat) (t kq mq oq : Nat) : Prop := (obR n s t kq mq).1 = T.1 ∧ (obR n s t kq mq).2.1 = T.2.1 ∧ oq + (obR n s t kq mq).2.2 = T.2.2
theorem ObJ_0 {n : Nat} {s : Bool} {k m t : Nat} : ObJ n s (obR n s t k m) t k m 0 := ⟨rfl, rfl, Nat.zero_add _⟩
theorem ObJ_go {n : Nat} {s : Bool} {T : Nat × Nat × Nat} {t t2 kq mq m2 oq : Nat} (h : ObJ n s T t kq mq oq) (ht : t = t2 + 1) (hn : ¬ nxI n kq = -1) (hm : m2 = if s = true then mq ||| 2 ^ kq else mq) : ObJ n s T t2 (kq + 1) m2 oq := by
  subst ht hm
  unfold ObJ at h
  rw [obR_go hn] at h
  exact h
theorem ObJ_no {n : Nat} {s : Bool} {T : Nat × Nat × Nat} {t t2 kq mq oq : Nat} (h : ObJ n s T t kq mq oq) (ht : t = t2 + 1) (hn : nxI n kq = -1) : ObJ n s T t2 kq mq (oq + 1) := by
  subst ht
  unfold ObJ at *
  rw [obR_z hn] at *
  have h3 : oq + (t2 + 1) = T.2.2 := h.2.2
  exact ⟨h.1, h.2.1, show oq + 1 + t2 = T.2.2 by omega⟩
theorem ObJ_end {n : Nat} {s : Bool} {T : Nat × Nat × Nat} {t kq mq oq : Nat} (h : ObJ n s T t kq mq oq) (ht : t = 0) : kq = T.1 ∧ mq = T.2.1 ∧ oq = T.2.2 := by
  subst ht
  exact ⟨h.1, h.2.1, h.2.2⟩
theorem does_end {w x : Int} {n k m kq mq oq : Nat} {fs s1 : Nat → Int} {om om1 : Int} {t : Nat} (hw : 0 ≤ w ∧ w ≤ 3) (h0 : ¬ w = 0) (h3 : ¬ w = 3) (hx : 1 ≤ x) (hM : MS s1 0 n kq mq) (hO : MO_ 0 fs s1) (hom : om1 = om + (oq : Int)) (h : ObJ n (decide (w.toNat = 1)) (obR n (decide (w.toNat = 1)) x.toNat k m) t kq mq oq) (ht : t = 0) : MS s1 0 (obW w.toNat x n k m).1 (obW w.toNat x n k m).2.1 (obW w.toNat x n k m).2.2.1 ∧ MO_ 0 fs s1 ∧ om1 = om + ((obW w.toNat x n k m).2.2.2 : Int) := by
  obtain ⟨a, b, c⟩ := ObJ_end h ht
  rw [obW_r (by omega) (by omega), show (max 1 x).toNat = x.toNat by omega]
  exact ⟨by rw [← a, ← b]; exact hM, hO, by rw [hom, c]⟩
/-! the text, as the reference reads it -/
theorem sW_0 {T : Nat → Int} {a : Nat} (h : T a = 98) : sW T a = 0 := if_pos h
theorem sW_3 {T : Nat → Int} {a : Nat} (h0 : ¬ T a = 98) (h : T a = 97) : sW T a = 3 := by unfold sW; rw [if_neg h0, if_pos h]
theorem sW_2 {T : Nat → Int} {a : Nat} (h0 : ¬ T a = 98) (h1 : ¬ T a = 97) (h : T a = 115) (h2 : T (a + 1) = 112) : sW T a = 2 := by unfold sW; rw [if_neg h0, if_neg h1, if_pos h, if_pos h2]
theorem sW_1 {T : Nat → Int} {a : Nat} (h0 : ¬ T a = 98) (h1 : ¬ T a = 97) (h : T a = 115) (h2 : ¬ T (a + 1) = 112) : sW T a = 1 := by unfold sW; rw [if_neg h0, if_neg h1, if_pos h, if_neg h2]
theorem sW_4 {T : Nat → Int} {a : Nat} (h0 : ¬ T a = 98) (h1 : ¬ T a = 97) (h : ¬ T a = 115) : sW T a = 4 := by unfold sW; rw [if_neg h0, if_neg h1, if_neg h]
theorem fl_s {T : Nat → Int} {L f a : Nat} (hf : 1 ≤ f) (h : (stp T L a).1 = 0) : flt T L f a = ((stp T L a).2 : Int) := by
  rw [show f = f - 1 + 1 by omega]; exact flt_0 h
theorem fl_none {T : Nat → Int} {L f a : Nat} (hf : 1 ≤ f) (h : sW T a = 4) : flt T L f a = (a : Int) := by
  have e : stp T L a = (0, a + csA T a) := stp_nf fun z => absurd z.1 (by omega)
  have c : csA T a = 0 := by unfold csA; rw [if_pos h]
  rw [fl_s hf (by rw [e]), e, c]; rfl
theorem csA_w {T : Nat → Int} {a : Nat} (h : sW T a < 4) : csA T a = csn T a (sW T a) (wl (sW T a)) := by unfold csA; rw [if_neg (by omega)]
theorem fl_sp {T : Nat → Int} {L f a s : Nat} (hf : 1 ≤ f) (hw : sW T a < 4) (h1 : csn T a (sW T a) s = s) (h2 : ¬ T (a + s) = wc (sW T a) s) (hs : s < wl (sW T a)) : flt T L f a = ((a + s : Nat) : Int) := by
  have c : csA T a = s := by rw [csA_w hw]; exact csn_stop' h1 h2 (by omega)
  have e : stp T L a = (0, a + csA T a) := stp_nf fun z => by have := z.2; omega
  rw [fl_s hf (by rw [e]), e, c]
theorem ful_of {T : Nat → Int} {a s : Nat} (hw : sW T a < 4) (h : csn T a (sW T a) s = s) (hs : s = wl (sW T a)) : Ful T a := by
  subst hs
  exact ⟨hw, by rw [csA_w hw]; exact h⟩
theorem wc_z {i s : Nat} (hi : i < 4) (hs : s ≤ wl i) (h : wc i s = 0) : s = wl i := by
  rcases Nat.lt_or_ge s (wl i) with z | z
  · have := wc_rng hi z; omega
  · omega
theorem wc_w {i s : Nat} (hi : i < 4) (hs : s ≤ wl i) (h : ¬ wc i s = 0) : s < wl i := by
  rcases Nat.lt_or_ge s (wl i) with z | z
  · exact z
  · have e : s = wl i := by omega
    subst e
    exact absurd (of_decide_eq_true (all_lt (N := 4) (P := fun i => decide (wc i (wl i) = 0)) (by decide +kernel) hi)) h
theorem fl_nn {T : Nat → Int} {L f a P : Nat} (hf : 1 ≤ f) (hF : Ful T a) (hw : sW T a = 0) (hN : nmr T a = (P, 0)) : flt T L f a = (P : Int) := by
  have e := stp_nn (L := L) hF ⟨by rw [hN], by rw [hw]; decide⟩
  rw [fl_s hf (by rw [e]), e, hN]
theorem fl_ft {T : Nat → Int} {L f a P : Nat} {V : Int} (hf : 1 ≤ f) (hF : Ful T a) (hN : nmr T a = (P, V)) (hn : ¬ (V = 0 ∧ wnn (sW T a) = 1)) (h3 : ¬ L ≤ P) (h4 : ¬ T P = 44) : flt T L f a = (P : Int) := by
  have e := stp_ft (L := L) hF (by rw [hN]; exact hn) (by rw [hN]; exact h3) (by rw [hN]; exact h4)
  rw [fl_s hf (by rw [e]), e, hN]
theorem fl_end {T : Nat → Int} {L f a P : Nat} {V : Int} (hf : 1 ≤ f) (hF : Ful T a) (hN : nmr T a = (P, V)) (hn : ¬ (V = 0 ∧ wnn (sW T a) = 1)) (h3 : L ≤ P) : stp T L a = (1, P) ∧ flt T L f a = -1 := by
  have e := stp_end (L := L) hF (by rw [hN]; exact hn) (by rw [hN]; exact h3)
  rw [hN] at e
  exact ⟨e, by rw [show f = f - 1 + 1 by omega]; exact flt_1 (by rw [e])⟩
theorem fl_nx {T : Nat → Int} {L f a P : Nat} {V : Int} (hf : 1 ≤ f) (hF : Ful T a) (hN : nmr T a = (P, V)) (hn : ¬ (V = 0 ∧ wnn (sW T a) = 1)) (h3 : ¬ L ≤ P) (h4 : T P = 44) : stp T L a = (2, P + 1) ∧ flt T L f a = flt T L (f - 1) (P + 1) := by
  have e := stp_nx (L := L) hF (by rw [hN]; exact hn) (by rw [hN]; exact h3) (by rw [hN]; exact h4)
  rw [hN] at e
  have h := flt_2 (T := T) (L := L) (k := f - 1) (a := a) (by rw [e])
  rw [e] at h
  exact ⟨e, by rw [show f = f - 1 + 1 by omega]; exact h⟩
theorem nmr_f {T : Nat → Int} {a s : Nat} (hF : Ful T a) (hs : s = wl (sW T a)) : nmr T a = nmR T (sW T a) 6 (a + s) 0 := by
  unfold nmr; rw [hF.2, hs]
theorem nm_3 {T : Nat → Int} {a s : Nat} (hF : Ful T a) (hs : s = wl (sW T a)) (hw : sW T a = 3) : nmr T a = (a + s, 0) := by
  rw [nmr_f hF hs, hw]
  exact nmR_end fun z => by
    have h1 : wlo 3 = 1 := by decide
    have h2 : whi 3 = 0 := by decide
    omega
theorem nm_n {T : Nat → Int} {a s : Nat} (hF : Ful T a) (hs : s = wl (sW T a)) (hw : sW T a = 1 ∨ sW T a = 2) (hn : ¬ (50 ≤ T (a + s) ∧ T (a + s) ≤ 57)) : nmr T a = (a + s, 0) := by
  rw [nmr_f hF hs]
  refine nmR_end fun z => hn ?_
  rcases hw with e | e <;> rw [e] at z
  · have h1 : wlo 1 = 2 := by decide
    omega
  · have h1 : wlo 2 = 2 := by decide
    omega
theorem nm_y {T : Nat → Int} {a s : Nat} (hF : Ful T a) (hs : s = wl (sW T a)) (hw : sW T a = 1 ∨ sW T a = 2) (hn : 50 ≤ T (a + s) ∧ T (a + s) ≤ 57) : nmr T a = (a + s + 1, T (a + s) - 48) := by
  have hb : wlo (sW T a) = 2 ∧ whi (sW T a) = 9 := by rcases hw with e | e <;> rw [e] <;> decide
  rw [nmr_f hF hs, nmR_go (by omega) (by omega), nmR_end (by omega)]
  congr 1
  omega
theorem nm_b0 {T : Nat → Int} {a s : Nat} (hF : Ful T a) (hs : s = wl (sW T a)) (hw : sW T a = 0) (hn : ¬ (49 ≤ T (a + s) ∧ T (a + s) ≤ 57)) : nmr T a = (a + s, 0) := by
  rw [nmr_f hF hs, hw]
  refine nmR_end fun z => hn ?_
  have h1 : wlo 0 = 1 := by decide
  omega
def Dgt (q : Nat) (x : Int) : Prop := (q = 0 ∧ x = 0) ∨ (q = 1 ∧ 1 ≤ x ∧ x ≤ 9) ∨ (q = 2 ∧ 10 ≤ x ∧ x ≤ 99) ∨ (q = 3 ∧ 100 ≤ x ∧ x ≤ 999) ∨ (q = 4 ∧ 1000 ≤ x ∧ x ≤ 9999) ∨ (q = 5 ∧ 10000 ≤ x ∧ x ≤ 99999)
theorem nm_be {T : Nat → Int} {a s q : Nat} {x : Int} (hF : Ful T a) (hs : s = wl (sW T a)) (hw : sW T a = 0) (h : NmI T 0 (a + s) (a + s + q) x) (hd : Dgt q x) (h1 : 49 ≤ T (a + s) ∧ T (a + s) ≤ 57) (hn : q = 5 ∨ ¬ (48 ≤ T (a + s + q) ∧ T (a + s + q) ≤ 57)) : nmr T a = (a + s + q, x) ∧ 1 ≤ x ∧ x ≤ 99999 := by
  have w1 : wlo 0 = 1 := by decide
  have w2 : whi 0 = 99999 := by decide
  unfold Dgt at hd
  have hq : q ≠ 0 := fun e => by
    subst e
    rw [Nat.add_zero] at hn
    omega
  refine ⟨?_, by omega, by omega⟩
  rw [nmr_f hF hs, hw]
  exact NmI_end h (by omega)
theorem nm_bg {T : Nat → Int} {p q : Nat} {b : Nat} {x x2 : Int} (h : NmI T 0 b p x) (hd : Dgt q x) (hq : q < 5) (h1 : 48 ≤ T p ∧ T p ≤ 57) (h0 : q = 0 → 49 ≤ T p) (hx : x2 = 10 * x + (T p - 48)) : NmI T 0 b (p + 1) x2 ∧ Dgt (q + 1) x2 := by
  have w1 : wlo 0 = 1 := by decide
  have w2 : whi 0 = 99999 := by decide
  unfold Dgt at *
  exact ⟨NmI_go (by decide) h h1 hx (by omega), by omega⟩
theorem obW_1 {i : Nat} {x : Int} {n k m : Nat} (hi : ¬ i = 0) : obW i x n k m = obW i (max 1 x) n k m := by
  unfold obW
  rw [if_neg hi, if_neg hi, show max 1 (max 1 x) = max 1 x by omega]
theorem ob_X {T : Nat → Int} {a : Nat} {V X : Int} (h : V = X ∨ (¬ sW T a = 0 ∧ X = max 1 V)) : ∀ n k m, obW (sW T a) V n k m = obW (sW T a) X n k m := fun n k m => by
  rcases h with h | ⟨h1, h2⟩
  · rw [h]
  · rw [h2]; exact obW_1 h1
theorem pi_nx {v p : Int} {P : Nat} (e : v = p + 1) (h : p = (P : Int)) : v = ((P + 1 : Nat) : Int) := by omega
def LdM (T : Nat → Int) (L f a nq kq mq sq n k m : Nat) : Prop := flt T L f a = -1 ∧ ldA (ldF T L f a nq kq mq) sq = ldF T L 60 0 n k m
theorem LdM_0 {T : Nat → Int} {L n k m : Nat} (h : flt T L 60 0 = -1) : LdM T L 60 0 n k m 0 n k m := ⟨h, by unfold ldA; rw [Nat.zero_add]⟩
theorem LdM_end {T : Nat → Int} {L f a P nq kq mq sq n k m w : Nat} {V X om om1 om2 : Int} {fs s1 gs : Nat → Int} (h : LdM T L f a nq kq mq sq n k m) (hf : 1 ≤ f) (hF : Ful T a) (hN : nmr T a = (P, V)) (hn : ¬ (V = 0 ∧ wnn (sW T a) = 1)) (h3 : L ≤ P) (hX : ∀ n k m, obW (sW T a) V n k m = obW (sW T a) X n k m) (hw : sW T a = w) (hO : MO_ 0 fs s1) (hom : om1 = om + (sq : Int))
    (hu : MS gs 0 (obW w X nq kq mq).1 (obW w X nq kq mq).2.1 (obW w X nq kq mq).2.2.1 ∧ MO_ 0 s1 gs ∧ om2 = om1 + ((obW w X nq kq mq).2.2.2 : Int)) :
    MS gs 0 (ldF T L 60 0 n k m).1 (ldF T L 60 0 n k m).2.1 (ldF T L 60 0 n k m).2.2.1 ∧ MO_ 0 fs gs ∧ om2 = om + ((ldF T L 60 0 n k m).2.2.2 : Int) := by
  have e := (fl_end (f := f) hf hF hN hn h3).1
  have hl : ldF T L f a nq kq mq = obW (sW T a) (nmr T a).2 nq kq mq := by
    rw [show f = f - 1 + 1 by omega]; exact if_pos (by rw [e])
  rw [← h.2, hl, hN, hX, hw]
  exact ⟨hu.1, MO_t hO hu.2.1, by
    rw [hu.2.2, hom]
    show om + (sq : Int) + _ = om + ((sq + (obW w X nq kq mq).2.2.2 : Nat) : Int)
    omega⟩
theorem LdM_nx {T : Nat → Int} {L f a P nq kq mq sq n k m w : Nat} {V X om om1 om2 : Int} {s1 gs : Nat → Int} (h : LdM T L f a nq kq mq sq n k m) (hf : 1 ≤ f) (hF : Ful T a) (hN : nmr T a = (P, V)) (hn : ¬ (V = 0 ∧ wnn (sW T a) = 1)) (h3 : ¬ L ≤ P) (h4 : T P = 44) (hX : ∀ n k m, obW (sW T a) V n k m = obW (sW T a) X n k m) (hw : sW T a = w) (hom : om1 = om + (sq : Int))
    (hu : MS gs 0 (obW w X nq kq mq).1 (obW w X nq kq mq).2.1 (obW w X nq kq mq).2.2.1 ∧ MO_ 0 s1 gs ∧ om2 = om1 + ((obW w X nq kq mq).2.2.2 : Int)) :
    LdM T L (f - 1) (P + 1) (obW w X nq kq mq).1 (obW w X nq kq mq).2.1 (obW w X nq kq mq).2.2.1 (sq + (obW w X nq kq mq).2.2.2) n k m ∧ om2 = om + ((sq + (obW w X nq kq mq).2.2.2 : Nat) : Int) := by
  obtain ⟨e, e2⟩ := fl_nx (f := f) hf hF hN hn h3 h4
  have hl : ldF T L f a nq kq mq = ldA (ldF T L (f - 1) (stp T L a).2 (obW (sW T a) (nmr T a).2 nq kq mq).1 (obW (sW T a) (nmr T a).2 nq kq mq).2.1 (obW (sW T a) (nmr T a).2 nq kq mq).2.2.1) (obW (sW T a) (nmr T a).2 nq kq mq).2.2.2 := by
    rw [show ldF T L f a nq kq mq = ldF T L (f - 1 + 1) a nq kq mq by rw [show f - 1 + 1 = f by omega]]
    exact if_neg (by rw [e]; show ¬ (2 : Nat) = 1; decide)
  rw [e, hN, hX, hw] at hl
  refine ⟨⟨by rw [← e2]; exact h.1, ?_⟩, by rw [hu.2.2, hom]; omega⟩
  rw [← h.2, hl]
  unfold ldA
  simp only [Nat.add_assoc]

theorem in_X7_does_X7 : ∀ w ∈ wsX70, w ∈ wsX7_does := by decide +kernel
set_option maxHeartbeats 4000000 in
set_option maxRecDepth 100000 in
theorem c_X7_does (l : Launch) (G : KG) (mo s sv tx fa ea go qu : Nat) (st ty th un om : Int) (n k m : Nat) (w x : Int) (fs fe : Nat → Int) (hw : 0 ≤ w ∧ w ≤ 3) (hx : 1 ≤ x ∧ x ≤ 99999) (hM : MS fs 0 n k m) (hE : ∀ i : Nat, i < 40 → fe i = (sp i : Int)) : Ct l G yX7_does wsX7_does (rmD 1 0 0) [.ref mo, .int (iI w), .int (iI x)] [(mo, .inr (6, [.ref s, .int (iI st), .ref sv, .ref tx, .int (iI ty), .int (iI th), .ref fa, .ref ea, .ref go, .ref qu, .int (iI un), .int (iI om)])), (s, .inl (g_I G, 756, .inl (aI fs))), (ea, .inl (g_I G, 40, .inl (aI fe)))] (fun u : (Nat → Int) × Int => MS u.1 0 (obW w.toNat x n k m).1 (obW w.toNat x n k m).2.1 (obW w.toNat x n k m).2.2.1 ∧ MO_ 0 fs u.1 ∧ u.2 = om + ((obW w.toNat x n k m).2.2.2 : Int)) (fun u : (Nat → Int) × Int => none) (fun u : (Nat → Int) × Int => [(mo, .inr (6, [.ref s, .int (iI st), .ref sv, .ref tx, .int (iI ty), .int (iI th), .ref fa, .ref ea, .ref go, .ref qu, .int (iI un), .int (iI u.2)])), (s, .inl (g_I G, 756, .inl (aI u.1))), (ea, .inl (g_I G, 40, .inl (aI fe)))]) := by
  refine Ct.of (cc := cX7_does) (maxL := 4) (ret := none) (by decide +kernel) rfl (Nat.le_of_ble_eq_true rfl) ?_
  intro X C hG hL hnm hR
  subst hG
  subst hL
  have C : Cx X cX7_does RX7 wsX7_does none 4 (rmD 1 0 0) := C
  obtain ⟨m1, m2, m3, m4⟩ := id hM
  have mk : k ≤ 40 := m4.2.2.1
  have mn1 : 1 ≤ n := m4.1
  have mn2 : n ≤ 99999 := m4.2.1
  have hz2 := SZ_631 mn2
  have hz1 := SZ_pos mn1
  show K_ X 0 0 [(mo, .inr (6, [.ref s, .int (iI st), .ref sv, .ref tx, .int (iI ty), .int (iI th), .ref fa, .ref ea, .ref go, .ref qu, .int (iI un), .int (iI om)])), (s, .inl (g_I (x_G X), 756, .inl (aI fs))), (ea, .inl (g_I (x_G X), 40, .inl (aI fe)))] 0 [(0, .ref mo), (1, .int (iI w)), (2, .int (iI x))] []
  refine k_iload_n C 1 rfl dX7_does_0 rfl ?_
  refine k_if_ne C 13 (⟨by omega, by omega⟩) dX7_does_1 (by decide) (fun c1 => ?_) (fun c1 => ?_)
  · skip
    refine k_iload_n C 1 rfl dX7_does_13 rfl ?_
    refine k_iconst C dX7_does_14 ?_
    refine k_icmp_ne C 28 (⟨by omega, by omega⟩) (⟨by omega, by omega⟩) dX7_does_15 (by decide) (fun c15 => ?_) (fun c15 => ?_)
    · skip
      refine k_iconst C dX7_does_28 ?_
      refine k_istore_n C (lo' := [(3, .int (iI 0)), (0, .ref mo), (1, .int (iI w)), (2, .int (iI x))]) dX7_does_29 rfl (by decide) rfl ?_
      have L30 : ∀ (nf : Nat) (kq : Nat) (mq : Nat) (oq : Nat) (i : Int) (om1 : Int) (s1 : Nat → Int), (0 ≤ i ∧ i ≤ x ∧ MS s1 0 n kq mq ∧ MO_ 0 fs s1 ∧ om1 = om + (oq : Int) ∧ ObJ n (decide (w.toNat = 1)) (obR n (decide (w.toNat = 1)) x.toNat k m) (x - i).toNat kq mq oq) → (x - i).toNat < nf → K_ X 0 0 [(mo, .inr (6, [.ref s, .int (iI st), .ref sv, .ref tx, .int (iI ty), .int (iI th), .ref fa, .ref ea, .ref go, .ref qu, .int (iI un), .int (iI om1)])), (s, .inl (g_I (x_G X), 756, .inl (aI s1))), (ea, .inl (g_I (x_G X), 40, .inl (aI fe)))] 30 [(3, .int (iI i)), (0, .ref mo), (1, .int (iI w)), (2, .int (iI x))] [] := by
        intro nf
        induction nf with
        | zero => intro kq mq oq i om1 s1 hI hm; exact absurd hm (Nat.not_lt_zero _)
        | succ nf ih30 =>
          intro kq mq oq i om1 s1 hI30 hm30
          obtain ⟨i1, i2, i3, i4, i5, i6⟩ := hI30
          have hrn := nxI_or n kq
          refine k_iload_n C 0 rfl dX7_does_30 rfl ?_
          refine k_iload_n C 3 rfl dX7_does_31 rfl ?_
          refine k_icmp_ge C 77 (⟨by omega, by omega⟩) (⟨by omega, by omega⟩) dX7_does_32 (by decide) (fun c32 => ?_) (fun c32 => ?_)
          · skip
            exact k_vret C hR (u := (s1, om1)) rfl (by (try dsimp only) <;> exact (does_end hw (by omega) (by omega) hx.1 i3 i4 i5 i6 (by omega))) rfl (Nat.le_of_ble_eq_true rfl) (Nat.le_of_ble_eq_true rfl) dX7_does_77
          · skip
            refine k_aload_n C 1 rfl dX7_does_35 rfl ?_
            refine k_iconst C dX7_does_36 ?_
            refine k_callV C (y := yX7_next) [.int (iI 0)] 1 rfl (c_X7_next (x_l X) (x_G X) mo s sv tx fa ea go qu st ty th un om1 0 0 n kq mq s1 fe (rfl) (by decide) (by assumption) (by assumption)) gX7_does_X7_next rfl ⟨rfl, by decide +kernel, by decide +kernel, by decide +kernel⟩ ⟨by decide, by decide⟩ 0 (fs := [.ref s, .int (iI st), .ref sv, .ref tx, .int (iI ty), .int (iI th), .ref fa, .ref ea, .ref go, .ref qu, .int (iI un), .int (iI om1)]) rfl rfl rfl [0, 1, 2] (by decide) (wc := [(mo, .inr (6, [.ref s, .int (iI st), .ref sv, .ref tx, .int (iI ty), .int (iI th), .ref fa, .ref ea, .ref go, .ref qu, .int (iI un), .int (iI om1)])), (s, .inl (g_I (x_G X), 756, .inl (aI s1))), (ea, .inl (g_I (x_G X), 40, .inl (aI fe)))]) rfl [] rfl (Nat.le_of_ble_eq_true rfl) ⟨Nat.le_of_ble_eq_true rfl, Nat.le_of_ble_eq_true rfl⟩ dX7_does_37 (fun _ => [(mo, .inr (6, [.ref s, .int (iI st), .ref sv, .ref tx, .int (iI ty), .int (iI th), .ref fa, .ref ea, .ref go, .ref qu, .int (iI un), .int (iI om1)])), (s, .inl (g_I (x_G X), 756, .inl (aI s1))), (ea, .inl (g_I (x_G X), 40, .inl (aI fe)))]) (Or.inl (fun _ => ⟨rfl, rfl⟩)) (fun u37 => [.int (iI u37)]) (fun _ => rfl) 0 0 ⟨rfl, rfl⟩ (fun u37 hu37 => ?_)
            refine k_if_le C 61 (by rw [hu37]; omega) dX7_does_40 (by decide) (fun c40 => ?_) (fun c40 => ?_)
            · skip
              refine k_aload_n C 1 rfl dX7_does_61 rfl ?_
              refine k_dup C dX7_does_62 rfl ?_
              refine k_get C (Cn := RX7) (T := TX7) (N := 12) (ci := 6) (ref := "StruckCountsModel") in_X7_does_X7 0 rfl rfl 11 (by decide) 2 rfl rfl (v := .int (iI om1)) rfl dX7_does_63 ?_
              refine k_iconst C dX7_does_66 ?_
              refine k_iadd C dX7_does_67 ?_
              refine k_nmI (fun v67 e67 => ?_)
              refine k_put C (Cn := RX7) (T := TX7) (N := 12) (ci := 6) (ref := "StruckCountsModel") in_X7_does_X7 tyX7 tyX7_ok nmX7 0 rfl rfl 11 (by decide) 2 rfl rfl rfl (v := .int (iI v67)) (rfl) (rfl) (Nat.le_of_ble_eq_true rfl) [(mo, .inr (6, [.ref s, .int (iI st), .ref sv, .ref tx, .int (iI ty), .int (iI th), .ref fa, .ref ea, .ref go, .ref qu, .int (iI un), .int (iI v67)])), (s, .inl (g_I (x_G X), 756, .inl (aI s1))), (ea, .inl (g_I (x_G X), 40, .inl (aI fe)))] rfl dX7_does_68 ?_
              obtain ⟨v71, e71⟩ : ∃ y : Int, y = i + 1 := ⟨_, rfl⟩
              refine k_iinc C (lo' := [(3, .int (iI v71)), (0, .ref mo), (1, .int (iI w)), (2, .int (iI x))]) 0 rfl dX7_does_71 (by decide) v71 e71 rfl ?_
              refine k_goto C 30 dX7_does_74 (by decide) ?_
              exact ih30 _ _ _ v71 v67 s1 (by first | exact ⟨by omega, by omega, hu55.1, MO_t i4 hu55.2, i5, ObJ_go i6 (by omega) (by omega) (by rw [hs]; rfl)⟩ | exact ⟨by omega, by omega, i3, i4, by omega, ObJ_no i6 (by omega) (by omega)⟩) (by omega)
            · skip
              refine k_aload_n C 1 rfl dX7_does_43 rfl ?_
              refine k_iconst C dX7_does_44 ?_
              refine k_iload_n C 2 rfl dX7_does_45 rfl ?_
              refine k_iconst C dX7_does_46 ?_
              refine k_icmp_ne C 54 (⟨by omega, by omega⟩) (⟨by omega, by omega⟩) dX7_does_47 (by decide) (fun c47 => ?_) (fun c47 => ?_)
              · skip
                have hs : decide (w.toNat = 1) = false := decide_eq_false (by omega)
                refine k_iconst C dX7_does_54 ?_
                refine k_callV C (y := yX7_comes) [.int (iI 0), .int (iI 0)] 2 rfl (c_X7_comes (x_l X) (x_G X) mo s sv tx fa ea go qu st ty th un om1 0 0 0 n kq mq s1 (rfl) (by decide) (by assumption) ((nxI_some (n := n) (k := kq) (by omega)).1) (by first | exact Or.inl rfl | exact Or.inr rfl)) gX7_does_X7_comes rfl ⟨rfl, by decide +kernel, by decide +kernel, by decide +kernel⟩ ⟨by decide, by decide⟩ 0 (fs := [.ref s, .int (iI st), .ref sv, .ref tx, .int (iI ty), .int (iI th), .ref fa, .ref ea, .ref go, .ref qu, .int (iI un), .int (iI om1)]) rfl rfl rfl [0, 1] (by decide) (wc := [(mo, .inr (6, [.ref s, .int (iI st), .ref sv, .ref tx, .int (iI ty), .int (iI th), .ref fa, .ref ea, .ref go, .ref qu, .int (iI un), .int (iI om1)])), (s, .inl (g_I (x_G X), 756, .inl (aI s1)))]) rfl [] rfl (Nat.le_of_ble_eq_true rfl) ⟨Nat.le_of_ble_eq_true rfl, Nat.le_of_ble_eq_true rfl⟩ dX7_does_55 (fun u55 => [(mo, .inr (6, [.ref s, .int (iI st), .ref sv, .ref tx, .int (iI ty), .int (iI th), .ref fa, .ref ea, .ref go, .ref qu, .int (iI un), .int (iI om1)])), (s, .inl (g_I (x_G X), 756, .inl (aI u55))), (ea, .inl (g_I (x_G X), 40, .inl (aI fe)))]) (Or.inr ⟨[2], [1, 2, 0], [(ea, .inl (g_I (x_G X), 40, .inl (aI fe)))], rfl, by decide, by decide, by decide, fun _ => rfl⟩) (fun u55 => []) (fun _ => rfl) 0 0 ⟨rfl, rfl⟩ (fun u55 hu55 => ?_)
                first | rw [if_pos rfl] at hu55 | rw [if_neg (by decide)] at hu55
                refine k_goto C 71 dX7_does_58 (by decide) ?_
                obtain ⟨v71, e71⟩ : ∃ y : Int, y = i + 1 := ⟨_, rfl⟩
                refine k_iinc C (lo' := [(3, .int (iI v71)), (0, .ref mo), (1, .int (iI w)), (2, .int (iI x))]) 0 rfl dX7_does_71 (by decide) v71 e71 rfl ?_
                refine k_goto C 30 dX7_does_74 (by decide) ?_
                exact ih30 _ _ _ v71 om1 u55 (by first | exact ⟨by omega, by omega, hu55.1, MO_t i4 hu55.2, i5, ObJ_go i6 (by omega) (by omega) (by rw [hs]; rfl)⟩ | exact ⟨by omega, by omega, i3, i4, by omega, ObJ_no i6 (by omega) (by omega)⟩) (by omega)
              · skip
                have hs : decide (w.toNat = 1) = true := decide_eq_true (by omega)
                refine k_iconst C dX7_does_50 ?_
                refine k_goto C 55 dX7_does_51 (by decide) ?_
                refine k_callV C (y := yX7_comes) [.int (iI 0), .int (iI 1)] 2 rfl (c_X7_comes (x_l X) (x_G X) mo s sv tx fa ea go qu st ty th un om1 0 1 0 n kq mq s1 (rfl) (by decide) (by assumption) ((nxI_some (n := n) (k := kq) (by omega)).1) (by first | exact Or.inl rfl | exact Or.inr rfl)) gX7_does_X7_comes rfl ⟨rfl, by decide +kernel, by decide +kernel, by decide +kernel⟩ ⟨by decide, by decide⟩ 0 (fs := [.ref s, .int (iI st), .ref sv, .ref tx, .int (iI ty), .int (iI th), .ref fa, .ref ea, .ref go, .ref qu, .int (iI un), .int (iI om1)]) rfl rfl rfl [0, 1] (by decide) (wc := [(mo, .inr (6, [.ref s, .int (iI st), .ref sv, .ref tx, .int (iI ty), .int (iI th), .ref fa, .ref ea, .ref go, .ref qu, .int (iI un), .int (iI om1)])), (s, .inl (g_I (x_G X), 756, .inl (aI s1)))]) rfl [] rfl (Nat.le_of_ble_eq_true rfl) ⟨Nat.le_of_ble_eq_true rfl, Nat.le_of_ble_eq_true rfl⟩ dX7_does_55 (fun u55 => [(mo, .inr (6, [.ref s, .int (iI st), .ref sv, .ref tx, .int (iI ty), .int (iI th), .ref fa, .ref ea, .ref go, .ref qu, .int (iI un), .int (iI om1)])), (s, .inl (g_I (x_G X), 756, .inl (aI u55))), (ea, .inl (g_I (x_G X), 40, .inl (aI fe)))]) (Or.inr ⟨[2], [1, 2, 0], [(ea, .inl (g_I (x_G X), 40, .inl (aI fe)))], rfl, by decide, by decide, by decide, fun _ => rfl⟩) (fun u55 => []) (fun _ => rfl) 0 0 ⟨rfl, rfl⟩ (fun u55 hu55 => ?_)
                first | rw [if_pos rfl] at hu55 | rw [if_neg (by decide)] at hu55
                refine k_goto C 71 dX7_does_58 (by decide) ?_
                obtain ⟨v71, e71⟩ : ∃ y : Int, y = i + 1 := ⟨_, rfl⟩
                refine k_iinc C (lo' := [(3, .int (iI v71)), (0, .ref mo), (1, .int (iI w)), (2, .int (iI x))]) 0 rfl dX7_does_71 (by decide) v71 e71 rfl ?_
                refine k_goto C 30 dX7_does_74 (by decide) ?_
                exact ih30 _ _ _ v71 om1 u55 (by first | exact ⟨by omega, by omega, hu55.1, MO_t i4 hu55.2, i5, ObJ_go i6 (by omega) (by omega) (by rw [hs]; rfl)⟩ | exact ⟨by omega, by omega, i3, i4, by omega, ObJ_no i6 (by omega) (by omega)⟩) (by omega)
      exact L30 _ k m 0 0 om fs (⟨by omega, by omega, hM, MO_r, by omega, by rw [Int.sub_zero]; exact ObJ_0⟩) (Nat.lt_succ_self _)
    · skip
      refine k_aload_n C 0 rfl dX7_does_18 rfl ?_
      refine k_get C (Cn := RX7) (T := TX7) (N := 12) (ci := 6) (ref := "StruckCountsModel") in_X7_does_X7 0 rfl rfl 0 (by decide) 1 rfl rfl (v := .ref s) rfl dX7_does_19 ?_
      refine k_iconst C dX7_does_22 ?_
      refine k_iconst C dX7_does_23 ?_
      refine k_iast C (f := fs) 1 rfl (⟨by omega, by omega⟩) (by decide) (fun gg => [(mo, .inr (6, [.ref s, .int (iI st), .ref sv, .ref tx, .int (iI ty), .int (iI th), .ref fa, .ref ea, .ref go, .ref qu, .int (iI un), .int (iI om)])), (s, .inl (g_I (x_G X), 756, .inl (aI gg))), (ea, .inl (g_I (x_G X), 40, .inl (aI fe)))]) (fun _ => rfl) dX7_does_24 (fun g24 e24 => ?_)
      refine k_goto C 77 dX7_does_25 (by decide) ?_
      exact k_vret C hR (u := (g24, om)) rfl (by (try dsimp only) <;> exact (by rw [show w.toNat = 3 by omega, obW_3]; exact ⟨(MS_ag (J := 0) hM e24).1, (MS_ag (J := 0) hM e24).2, by show om = om + ((0 : Nat) : Int); omega⟩)) rfl (Nat.le_of_ble_eq_true rfl) (Nat.le_of_ble_eq_true rfl) dX7_does_77
  · skip
    refine k_aload_n C 0 rfl dX7_does_4 rfl ?_
    refine k_iconst C dX7_does_5 ?_
    refine k_iload_n C 2 rfl dX7_does_6 rfl ?_
    refine k_callV C (y := yX7_bounds) [.int (iI 0), .int (iI x)] 2 rfl (c_X7_bounds (x_l X) (x_G X) mo s sv tx fa ea go qu st ty th un om 0 x 0 x.toNat fs (rfl) (by decide) (by omega) (by omega)) gX7_does_X7_bounds rfl ⟨rfl, by decide +kernel, by decide +kernel, by decide +kernel⟩ ⟨by decide, by decide⟩ 0 (fs := [.ref s, .int (iI st), .ref sv, .ref tx, .int (iI ty), .int (iI th), .ref fa, .ref ea, .ref go, .ref qu, .int (iI un), .int (iI om)]) rfl rfl rfl [0, 1] (by decide) (wc := [(mo, .inr (6, [.ref s, .int (iI st), .ref sv, .ref tx, .int (iI ty), .int (iI th), .ref fa, .ref ea, .ref go, .ref qu, .int (iI un), .int (iI om)])), (s, .inl (g_I (x_G X), 756, .inl (aI fs)))]) rfl [] rfl (Nat.le_of_ble_eq_true rfl) ⟨Nat.le_of_ble_eq_true rfl, Nat.le_of_ble_eq_true rfl⟩ dX7_does_7 (fun u7 => [(mo, .inr (6, [.ref s, .int (iI st), .ref sv, .ref tx, .int (iI ty), .int (iI th), .ref fa, .ref ea, .ref go, .ref qu, .int (iI un), .int (iI om)])), (s, .inl (g_I (x_G X), 756, .inl (aI u7))), (ea, .inl (g_I (x_G X), 40, .inl (aI fe)))]) (Or.inr ⟨[2], [1, 2, 0], [(ea, .inl (g_I (x_G X), 40, .inl (aI fe)))], rfl, by decide, by decide, by decide, fun _ => rfl⟩) (fun u7 => []) (fun _ => rfl) 0 0 ⟨rfl, rfl⟩ (fun u7 hu7 => ?_)
    refine k_goto C 77 dX7_does_10 (by decide) ?_
    exact k_vret C hR (u := (u7, om)) rfl (by (try dsimp only) <;> exact (by rw [show w.toNat = 0 by omega, obW_0]; exact ⟨hu7.1, hu7.2, by show om = om + ((0 : Nat) : Int); omega⟩)) rfl (Nat.le_of_ble_eq_true rfl) (Nat.le_of_ble_eq_true rfl) dX7_does_77
theorem wc_e {i : Nat} (hi : i < 4) : wc i (wl i) = 0 := of_decide_eq_true (all_lt (N := 4) (P := fun i => decide (wc i (wl i) = 0)) (by decide +kernel) hi)
theorem in_X7_reads_X7 : ∀ w ∈ wsX70, w ∈ wsX7_reads := by decide +kernel
set_option maxHeartbeats 4000000 in
set_option maxRecDepth 100000 in
theorem c_X7_reads0 (l : Launch) (G : KG) (mo s sv tx fa ea go qu : Nat) (st ty th un om : Int) (n k m : Nat) (fs fe ff : Nat → Int) (hty : 0 ≤ ty ∧ ty ≤ 60) (hff : ∀ q : Nat, q < 60 → 0 ≤ ff q ∧ ff q ≤ 65535) (hE : ∀ i : Nat, i < 40 → fe i = (sp i : Int)) (hM : MS fs 0 n k m) : Ct l G yX7_reads wsX7_reads (rmD 2 0 0) [.ref mo, .int (iI 0)] [(mo, .inr (6, [.ref s, .int (iI st), .ref sv, .ref tx, .int (iI ty), .int (iI th), .ref fa, .ref ea, .ref go, .ref qu, .int (iI un), .int (iI om)])), (s, .inl (g_I G, 756, .inl (aI fs))), (ea, .inl (g_I G, 40, .inl (aI fe))), (tx, .inl (g_C G, 60, .inl (aI ff)))] (fun u : Int => u = flt (tA ff ty) ty.toNat 60 0) (fun u : Int => some (.int (iI u))) (fun u : Int => [(mo, .inr (6, [.ref s, .int (iI st), .ref sv, .ref tx, .int (iI ty), .int (iI th), .ref fa, .ref ea, .ref go, .ref qu, .int (iI un), .int (iI om)])), (s, .inl (g_I G, 756, .inl (aI fs))), (ea, .inl (g_I G, 40, .inl (aI fe))), (tx, .inl (g_C G, 60, .inl (aI ff)))]) := by
  refine Ct.of (cc := cX7_reads) (maxL := 9) (ret := (some .int)) (by decide +kernel) rfl (Nat.le_of_ble_eq_true rfl) ?_
  intro X C hG hL hnm hR
  subst hG
  subst hL
  have C : Cx X cX7_reads RX7 wsX7_reads (some .int) 9 (rmD 2 0 0) := C
  have hTr : ∀ q, 0 ≤ tA ff ty q ∧ tA ff ty q ≤ 65535 := fun q => by (by_cases e : (q : Int) < ty; (rw [tA_lt e]; exact hff q (by omega)); (rw [tA_ge (by omega)]; omega))
  show K_ X 0 0 [(mo, .inr (6, [.ref s, .int (iI st), .ref sv, .ref tx, .int (iI ty), .int (iI th), .ref fa, .ref ea, .ref go, .ref qu, .int (iI un), .int (iI om)])), (s, .inl (g_I (x_G X), 756, .inl (aI fs))), (ea, .inl (g_I (x_G X), 40, .inl (aI fe))), (tx, .inl (g_C (x_G X), 60, .inl (aI ff)))] 0 [(0, .ref mo), (1, .int (iI 0))] []
  refine k_iconst C dX7_reads_0 ?_
  refine k_istore_n C (lo' := [(2, .int (iI 0)), (0, .ref mo), (1, .int (iI 0))]) dX7_reads_1 rfl (by decide) rfl ?_
  have L2 : ∀ (nf : Nat) (f : Nat) (a : Nat) (i : Int), (i = (a : Int) ∧ a ≤ 60 ∧ f ≤ 60 ∧ 360 ≤ 6 * f + a ∧ flt (tA ff ty) ty.toNat f a = flt (tA ff ty) ty.toNat 60 0) → f < nf → K_ X 0 0 [(mo, .inr (6, [.ref s, .int (iI st), .ref sv, .ref tx, .int (iI ty), .int (iI th), .ref fa, .ref ea, .ref go, .ref qu, .int (iI un), .int (iI om)])), (s, .inl (g_I (x_G X), 756, .inl (aI fs))), (ea, .inl (g_I (x_G X), 40, .inl (aI fe))), (tx, .inl (g_C (x_G X), 60, .inl (aI ff)))] 2 [(2, .int (iI i)), (0, .ref mo), (1, .int (iI 0))] [] := by
    intro nf
    induction nf with
    | zero => intro f a i hI hm; exact absurd hm (Nat.not_lt_zero _)
    | succ nf ih2 =>
      intro f a i hI2 hm2
      obtain ⟨i1, i2, i3, i4, i5⟩ := hI2
      refine k_aload_n C 1 rfl dX7_reads_2 rfl ?_
      refine k_iload_n C 0 rfl dX7_reads_3 rfl ?_
      refine k_callV C (y := yX7_at) [.int (iI i)] 1 rfl (c_X7_at (x_l X) (x_G X) mo s sv tx fa ea go qu st ty th un om i ff (by omega) (by omega)) gX7_reads_X7_at rfl ⟨rfl, by decide +kernel, by decide +kernel, by decide +kernel⟩ ⟨by decide, by decide⟩ 0 (fs := [.ref s, .int (iI st), .ref sv, .ref tx, .int (iI ty), .int (iI th), .ref fa, .ref ea, .ref go, .ref qu, .int (iI un), .int (iI om)]) rfl rfl rfl [0, 3] (by decide) (wc := [(mo, .inr (6, [.ref s, .int (iI st), .ref sv, .ref tx, .int (iI ty), .int (iI th), .ref fa, .ref ea, .ref go, .ref qu, .int (iI un), .int (iI om)])), (tx, .inl (g_C (x_G X), 60, .inl (aI ff)))]) rfl [] rfl (Nat.le_of_ble_eq_true rfl) ⟨Nat.le_of_ble_eq_true rfl, Nat.le_of_ble_eq_true rfl⟩ dX7_reads_4 (fun _ => [(mo, .inr (6, [.ref s, .int (iI st), .ref sv, .ref tx, .int (iI ty), .int (iI th), .ref fa, .ref ea, .ref go, .ref qu, .int (iI un), .int (iI om)])), (s, .inl (g_I (x_G X), 756, .inl (aI fs))), (ea, .inl (g_I (x_G X), 40, .inl (aI fe))), (tx, .inl (g_C (x_G X), 60, .inl (aI ff)))]) (Or.inl (fun _ => ⟨rfl, rfl⟩)) (fun u4 => [.int (iI u4)]) (fun _ => rfl) 0 0 ⟨rfl, rfl⟩ (fun u4 hu4 => ?_)
      rw [show i.toNat = a by omega] at hu4
      have hr4 := hTr a
      refine k_istore_n C (lo' := [(3, .int (iI u4)), (2, .int (iI i)), (0, .ref mo), (1, .int (iI 0))]) dX7_reads_7 rfl (by decide) rfl ?_
      refine k_aload_n C 2 rfl dX7_reads_8 rfl ?_
      refine k_iload_n C 1 rfl dX7_reads_9 rfl ?_
      refine k_iconst C dX7_reads_10 ?_
      refine k_iadd C dX7_reads_11 ?_
      refine k_nmI (fun v11 e11 => ?_)
      refine k_callV C (y := yX7_at) [.int (iI v11)] 1 rfl (c_X7_at (x_l X) (x_G X) mo s sv tx fa ea go qu st ty th un om v11 ff (by omega) (by omega)) gX7_reads_X7_at rfl ⟨rfl, by decide +kernel, by decide +kernel, by decide +kernel⟩ ⟨by decide, by decide⟩ 0 (fs := [.ref s, .int (iI st), .ref sv, .ref tx, .int (iI ty), .int (iI th), .ref fa, .ref ea, .ref go, .ref qu, .int (iI un), .int (iI om)]) rfl rfl rfl [0, 3] (by decide) (wc := [(mo, .inr (6, [.ref s, .int (iI st), .ref sv, .ref tx, .int (iI ty), .int (iI th), .ref fa, .ref ea, .ref go, .ref qu, .int (iI un), .int (iI om)])), (tx, .inl (g_C (x_G X), 60, .inl (aI ff)))]) rfl [] rfl (Nat.le_of_ble_eq_true rfl) ⟨Nat.le_of_ble_eq_true rfl, Nat.le_of_ble_eq_true rfl⟩ dX7_reads_12 (fun _ => [(mo, .inr (6, [.ref s, .int (iI st), .ref sv, .ref tx, .int (iI ty), .int (iI th), .ref fa, .ref ea, .ref go, .ref qu, .int (iI un), .int (iI om)])), (s, .inl (g_I (x_G X), 756, .inl (aI fs))), (ea, .inl (g_I (x_G X), 40, .inl (aI fe))), (tx, .inl (g_C (x_G X), 60, .inl (aI ff)))]) (Or.inl (fun _ => ⟨rfl, rfl⟩)) (fun u12 => [.int (iI u12)]) (fun _ => rfl) 0 0 ⟨rfl, rfl⟩ (fun u12 hu12 => ?_)
      rw [show v11.toNat = a + 1 by omega] at hu12
      have hr12 := hTr (a + 1)
      refine k_istore C (lo' := [(4, .int (iI u12)), (3, .int (iI u4)), (2, .int (iI i)), (0, .ref mo), (1, .int (iI 0))]) dX7_reads_15 (by decide) rfl ?_
      refine k_iload_n C 1 rfl dX7_reads_17 rfl ?_
      refine k_bipush C dX7_reads_18 (by decide) ?_
      refine k_icmp_ne C 27 (⟨by omega, by omega⟩) (⟨by omega, by omega⟩) dX7_reads_20 (by decide) (fun c20 => ?_) (fun c20 => ?_)
      · skip
        refine k_iload_n C 1 rfl dX7_reads_27 rfl ?_
        refine k_bipush C dX7_reads_28 (by decide) ?_
        refine k_icmp_ne C 37 (⟨by omega, by omega⟩) (⟨by omega, by omega⟩) dX7_reads_30 (by decide) (fun c30 => ?_) (fun c30 => ?_)
        · skip
          refine k_iload_n C 1 rfl dX7_reads_37 rfl ?_
          refine k_bipush C dX7_reads_38 (by decide) ?_
          refine k_icmp_ne C 58 (⟨by omega, by omega⟩) (⟨by omega, by omega⟩) dX7_reads_40 (by decide) (fun c40 => ?_) (fun c40 => ?_)
          · skip
            have hw : sW (tA ff ty) a = 4 := sW_4 (by omega) (by omega) (by omega)
            refine k_iconst C dX7_reads_58 ?_
            refine k_istore C (lo' := [(5, .int (iI (-1))), (4, .int (iI u12)), (3, .int (iI u4)), (2, .int (iI i)), (0, .ref mo), (1, .int (iI 0))]) dX7_reads_59 (by decide) rfl ?_
            refine k_iload C 0 rfl dX7_reads_61 ?_
            refine k_if_ge C 68 (⟨by omega, by omega⟩) dX7_reads_63 (by decide) (fun c63 => ?_) (fun c63 => ?_)
            · exfalso; omega
            · skip
              refine k_iload_n C 3 rfl dX7_reads_66 rfl ?_
              exact k_iret C hR (u := i) rfl (by rw [← i5, fl_none (by omega) hw] <;> omega) rfl (Nat.le_of_ble_eq_true rfl) (Nat.le_of_ble_eq_true rfl) dX7_reads_67
          · skip
            refine k_iload C 0 rfl dX7_reads_43 ?_
            refine k_bipush C dX7_reads_45 (by decide) ?_
            refine k_icmp_ne C 54 (⟨by omega, by omega⟩) (⟨by omega, by omega⟩) dX7_reads_47 (by decide) (fun c47 => ?_) (fun c47 => ?_)
            · skip
              have hw : sW (tA ff ty) a = 1 := sW_1 (by omega) (by omega) (by omega) (by omega)
              refine k_iconst C dX7_reads_54 ?_
              refine k_goto C 59 dX7_reads_55 (by decide) ?_
              refine k_istore C (lo' := [(5, .int (iI 1)), (4, .int (iI u12)), (3, .int (iI u4)), (2, .int (iI i)), (0, .ref mo), (1, .int (iI 0))]) dX7_reads_59 (by decide) rfl ?_
              refine k_iload C 0 rfl dX7_reads_61 ?_
              refine k_if_ge C 68 (⟨by omega, by omega⟩) dX7_reads_63 (by decide) (fun c63 => ?_) (fun c63 => ?_)
              · skip
                refine k_iload_n C 3 rfl dX7_reads_68 rfl ?_
                refine k_istore C (lo' := [(6, .int (iI i)), (5, .int (iI 1)), (4, .int (iI u12)), (3, .int (iI u4)), (2, .int (iI i)), (0, .ref mo), (1, .int (iI 0))]) dX7_reads_69 (by decide) rfl ?_
                have L71 : ∀ (nf : Nat) (sl : Nat) (p : Int), (p = ((a + sl : Nat) : Int) ∧ sl ≤ wl (sW (tA ff ty) a) ∧ csn (tA ff ty) a (sW (tA ff ty) a) sl = sl) → wl (sW (tA ff ty) a) - sl < nf → K_ X 0 0 [(mo, .inr (6, [.ref s, .int (iI st), .ref sv, .ref tx, .int (iI ty), .int (iI th), .ref fa, .ref ea, .ref go, .ref qu, .int (iI un), .int (iI om)])), (s, .inl (g_I (x_G X), 756, .inl (aI fs))), (ea, .inl (g_I (x_G X), 40, .inl (aI fe))), (tx, .inl (g_C (x_G X), 60, .inl (aI ff)))] 71 [(6, .int (iI i)), (5, .int (iI 1)), (4, .int (iI u12)), (3, .int (iI u4)), (2, .int (iI p)), (0, .ref mo), (1, .int (iI 0))] [] := by
                  intro nf
                  induction nf with
                  | zero => intro sl p hI hm; exact absurd hm (Nat.not_lt_zero _)
                  | succ nf ih71 =>
                    intro sl p hI71 hm71
                    obtain ⟨j1, j2, j3⟩ := hI71
                    have hw4 : (sW (tA ff ty) a) < 4 := by omega
                    have hwl := wl_rng hw4
                    refine k_iload C 1 rfl dX7_reads_71 ?_
                    refine k_iload_n C 4 rfl dX7_reads_73 rfl ?_
                    refine k_iload C 0 rfl dX7_reads_74 ?_
                    refine k_isub C dX7_reads_76 ?_
                    refine k_nmI (fun v76 e76 => ?_)
                    refine k_callS C (y := yX7_letter) [.int (iI 1), .int (iI v76)] 2 rfl (c_X7_letter (x_l X) (x_G X) 1 v76 (by omega) (by omega)) gX7_reads_X7_letter rfl ⟨by decide +kernel, by decide +kernel, by decide +kernel⟩ ⟨by decide, by decide⟩ [] (by decide) (wc := []) rfl [] rfl (Nat.le_of_ble_eq_true rfl) ⟨Nat.le_of_ble_eq_true rfl, Nat.le_of_ble_eq_true rfl⟩ dX7_reads_77 (fun _ => [(mo, .inr (6, [.ref s, .int (iI st), .ref sv, .ref tx, .int (iI ty), .int (iI th), .ref fa, .ref ea, .ref go, .ref qu, .int (iI un), .int (iI om)])), (s, .inl (g_I (x_G X), 756, .inl (aI fs))), (ea, .inl (g_I (x_G X), 40, .inl (aI fe))), (tx, .inl (g_C (x_G X), 60, .inl (aI ff)))]) (Or.inl (fun _ => ⟨rfl, rfl⟩)) (fun u77 => [.int (iI u77)]) (fun _ => rfl) 0 0 ⟨rfl, rfl⟩ (fun u77 hu77 => ?_)
                    have h77 : u77 = wc (sW (tA ff ty) a) sl := by (rw [hu77, hw, show v76.toNat = sl by omega]) <;> rfl
                    have hr77 : 0 ≤ u77 ∧ u77 ≤ 122 := by (by_cases e : sl < wl (sW (tA ff ty) a); (have := wc_rng hw4 e; omega); (rw [h77, show sl = wl (sW (tA ff ty) a) by omega, wc_e hw4]; omega))
                    refine k_if_eq C 108 (⟨by omega, by omega⟩) dX7_reads_80 (by decide) (fun c80 => ?_) (fun c80 => ?_)
                    · skip
                      have hsw : sl = wl (sW (tA ff ty) a) := wc_z hw4 j2 (by rw [← h77]; omega)
                      have hF := ful_of hw4 j3 hsw
                      refine k_iload C 1 rfl dX7_reads_108 ?_
                      refine k_if_ne C 117 (⟨by omega, by omega⟩) dX7_reads_110 (by decide) (fun c110 => ?_) (fun c110 => ?_)
                      · skip
                        refine k_iconst C dX7_reads_117 ?_
                        refine k_istore C (lo' := [(7, .int (iI 1)), (6, .int (iI i)), (5, .int (iI 1)), (4, .int (iI u12)), (3, .int (iI u4)), (2, .int (iI p)), (0, .ref mo), (1, .int (iI 0))]) dX7_reads_118 (by decide) rfl ?_
                        refine k_iload C 2 rfl dX7_reads_120 ?_
                        refine k_if_ne C 193 (⟨by omega, by omega⟩) dX7_reads_122 (by decide) (fun c122 => ?_) (fun c122 => ?_)
                        · skip
                          refine k_iload C 2 rfl dX7_reads_193 ?_
                          refine k_iconst C dX7_reads_195 ?_
                          refine k_icmp_ge C 227 (⟨by omega, by omega⟩) (⟨by omega, by omega⟩) dX7_reads_196 (by decide) (fun c196 => ?_) (fun c196 => ?_)
                          · exfalso; omega
                          · skip
                            refine k_aload_n C 6 rfl dX7_reads_199 rfl ?_
                            refine k_iload_n C 5 rfl dX7_reads_200 rfl ?_
                            refine k_callV C (y := yX7_at) [.int (iI p)] 1 rfl (c_X7_at (x_l X) (x_G X) mo s sv tx fa ea go qu st ty th un om p ff (by omega) (by omega)) gX7_reads_X7_at rfl ⟨rfl, by decide +kernel, by decide +kernel, by decide +kernel⟩ ⟨by decide, by decide⟩ 0 (fs := [.ref s, .int (iI st), .ref sv, .ref tx, .int (iI ty), .int (iI th), .ref fa, .ref ea, .ref go, .ref qu, .int (iI un), .int (iI om)]) rfl rfl rfl [0, 3] (by decide) (wc := [(mo, .inr (6, [.ref s, .int (iI st), .ref sv, .ref tx, .int (iI ty), .int (iI th), .ref fa, .ref ea, .ref go, .ref qu, .int (iI un), .int (iI om)])), (tx, .inl (g_C (x_G X), 60, .inl (aI ff)))]) rfl [] rfl (Nat.le_of_ble_eq_true rfl) ⟨Nat.le_of_ble_eq_true rfl, Nat.le_of_ble_eq_true rfl⟩ dX7_reads_201 (fun _ => [(mo, .inr (6, [.ref s, .int (iI st), .ref sv, .ref tx, .int (iI ty), .int (iI th), .ref fa, .ref ea, .ref go, .ref qu, .int (iI un), .int (iI om)])), (s, .inl (g_I (x_G X), 756, .inl (aI fs))), (ea, .inl (g_I (x_G X), 40, .inl (aI fe))), (tx, .inl (g_C (x_G X), 60, .inl (aI ff)))]) (Or.inl (fun _ => ⟨rfl, rfl⟩)) (fun u201 => [.int (iI u201)]) (fun _ => rfl) 0 0 ⟨rfl, rfl⟩ (fun u201 hu201 => ?_)
                            rw [show p.toNat = a + sl by omega] at hu201
                            have hr201 := hTr (a + sl)
                            refine k_bipush C dX7_reads_204 (by decide) ?_
                            refine k_bipush C dX7_reads_206 (by decide) ?_
                            refine k_callS C (y := yX7_in) [.int (iI u201), .int (iI 50), .int (iI 57)] 3 rfl (c_X7_in (x_l X) (x_G X) u201 50 57 (by omega) (by omega) (by omega)) gX7_reads_X7_in rfl ⟨by decide +kernel, by decide +kernel, by decide +kernel⟩ ⟨by decide, by decide⟩ [] (by decide) (wc := []) rfl [] rfl (Nat.le_of_ble_eq_true rfl) ⟨Nat.le_of_ble_eq_true rfl, Nat.le_of_ble_eq_true rfl⟩ dX7_reads_208 (fun _ => [(mo, .inr (6, [.ref s, .int (iI st), .ref sv, .ref tx, .int (iI ty), .int (iI th), .ref fa, .ref ea, .ref go, .ref qu, .int (iI un), .int (iI om)])), (s, .inl (g_I (x_G X), 756, .inl (aI fs))), (ea, .inl (g_I (x_G X), 40, .inl (aI fe))), (tx, .inl (g_C (x_G X), 60, .inl (aI ff)))]) (Or.inl (fun _ => ⟨rfl, rfl⟩)) (fun u208 => [.int (iI u208)]) (fun _ => rfl) 0 0 ⟨rfl, rfl⟩ (fun u208 hu208 => ?_)
                            refine k_if_eq C 227 (⟨by omega, by omega⟩) dX7_reads_211 (by decide) (fun c211 => ?_) (fun c211 => ?_)
                            · skip
                              have hu208 := bo_f hu208 c211
                              have hN := nm_n hF hsw (by omega) (by omega)
                              have hnn : ¬ ((0 : Int) = 0 ∧ wnn (sW (tA ff ty) a) = 1) := fun z => by have := z.2; rw [hw] at this; exact absurd this (by decide)
                              have hX := ob_X (T := (tA ff ty)) (a := a) (V := 0) (X := 1) (Or.inr ⟨by omega, rfl⟩)
                              have hPp : p = ((a + sl : Nat) : Int) := j1
                              try have hX := ob_X (T := (tA ff ty)) (a := a) (V := (tA ff ty) (a + sl) - 48) (X := v221) (Or.inl (by omega))
                              try have hPp : v224 = ((a + sl + 1 : Nat) : Int) := by omega
                              refine k_iload_n C 7 rfl dX7_reads_227 rfl ?_
                              refine k_if_eq C 239 (⟨by omega, by omega⟩) dX7_reads_228 (by decide) (fun c228 => ?_) (fun c228 => ?_)
                              · skip
                                refine k_iload_n C 5 rfl dX7_reads_239 rfl ?_
                                refine k_aload_n C 6 rfl dX7_reads_240 rfl ?_
                                refine k_get C (Cn := RX7) (T := TX7) (N := 12) (ci := 6) (ref := "StruckCountsModel") in_X7_reads_X7 0 rfl rfl 4 (by decide) 1 rfl rfl (v := .int (iI ty)) rfl dX7_reads_241 ?_
                                refine k_icmp_lt C 249 (⟨by omega, by omega⟩) (⟨by omega, by omega⟩) dX7_reads_244 (by decide) (fun c244 => ?_) (fun c244 => ?_)
                                · skip
                                  refine k_aload_n C 6 rfl dX7_reads_249 rfl ?_
                                  refine k_iload_n C 5 rfl dX7_reads_250 rfl ?_
                                  refine k_callV C (y := yX7_at) [.int (iI p)] 1 rfl (c_X7_at (x_l X) (x_G X) mo s sv tx fa ea go qu st ty th un om p ff (by omega) (by omega)) gX7_reads_X7_at rfl ⟨rfl, by decide +kernel, by decide +kernel, by decide +kernel⟩ ⟨by decide, by decide⟩ 0 (fs := [.ref s, .int (iI st), .ref sv, .ref tx, .int (iI ty), .int (iI th), .ref fa, .ref ea, .ref go, .ref qu, .int (iI un), .int (iI om)]) rfl rfl rfl [0, 3] (by decide) (wc := [(mo, .inr (6, [.ref s, .int (iI st), .ref sv, .ref tx, .int (iI ty), .int (iI th), .ref fa, .ref ea, .ref go, .ref qu, .int (iI un), .int (iI om)])), (tx, .inl (g_C (x_G X), 60, .inl (aI ff)))]) rfl [] rfl (Nat.le_of_ble_eq_true rfl) ⟨Nat.le_of_ble_eq_true rfl, Nat.le_of_ble_eq_true rfl⟩ dX7_reads_251 (fun _ => [(mo, .inr (6, [.ref s, .int (iI st), .ref sv, .ref tx, .int (iI ty), .int (iI th), .ref fa, .ref ea, .ref go, .ref qu, .int (iI un), .int (iI om)])), (s, .inl (g_I (x_G X), 756, .inl (aI fs))), (ea, .inl (g_I (x_G X), 40, .inl (aI fe))), (tx, .inl (g_C (x_G X), 60, .inl (aI ff)))]) (Or.inl (fun _ => ⟨rfl, rfl⟩)) (fun u251 => [.int (iI u251)]) (fun _ => rfl) 0 0 ⟨rfl, rfl⟩ (fun u251 hu251 => ?_)
                                  rw [show _ = _ from congrArg Int.toNat hPp, Int.toNat_natCast] at hu251
                                  have hr251 : 0 ≤ u251 ∧ u251 ≤ 65535 := by rw [hu251]; exact hTr _
                                  refine k_bipush C dX7_reads_254 (by decide) ?_
                                  refine k_icmp_eq C 261 (⟨by omega, by omega⟩) (⟨by omega, by omega⟩) dX7_reads_256 (by decide) (fun c256 => ?_) (fun c256 => ?_)
                                  · skip
                                    have h44 := hu251.symm.trans c256
                                    obtain ⟨v261, e261⟩ : ∃ y : Int, y = p + 1 := ⟨_, rfl⟩
                                    refine k_iinc C (lo' := [(2, .int (iI v261)), (7, .int (iI 1)), (6, .int (iI i)), (5, .int (iI 1)), (4, .int (iI u12)), (3, .int (iI u4)), (0, .ref mo), (1, .int (iI 0))]) 5 rfl dX7_reads_261 (by decide) v261 e261 rfl ?_
                                    have hPI := pi_nx e261 hPp
                                    refine k_goto C 2 dX7_reads_264 (by decide) ?_
                                    refine k_lo (lo' := [(2, .int (iI v261)), (0, .ref mo), (1, .int (iI 0))]) [0, 6, 7] rfl ?_
                                    exact ih2 (f - 1) _ v261 (⟨hPI, by omega, by omega, by omega, by rw [← (fl_nx (L := ty.toNat) (f := f) (by omega) hF hN hnn (by omega) h44).2]; exact i5⟩) (by omega)
                                  · skip
                                    refine k_iload_n C 5 rfl dX7_reads_259 rfl ?_
                                    exact k_iret C hR (u := p) rfl (by rw [← i5, fl_ft (by omega) hF hN hnn (by omega) (fun z => c256 (hu251.trans z))] <;> omega) rfl (Nat.le_of_ble_eq_true rfl) (Nat.le_of_ble_eq_true rfl) dX7_reads_260
                                · skip
                                  refine k_iconst C dX7_reads_247 ?_
                                  exact k_iret C hR (u := (-1)) rfl (by rw [← i5, (fl_end (by omega) hF hN hnn (by omega)).2]) rfl (Nat.le_of_ble_eq_true rfl) (Nat.le_of_ble_eq_true rfl) dX7_reads_248
                              · exfalso; omega
                            · skip
                              have hu208 := bo_t hu208 c211
                              have hN := nm_y hF hsw (by omega) (by omega)
                              have hnn : ¬ (((tA ff ty) (a + sl) - 48) = 0 ∧ wnn (sW (tA ff ty) a) = 1) := fun z => by omega
                              refine k_aload_n C 6 rfl dX7_reads_214 rfl ?_
                              refine k_iload_n C 5 rfl dX7_reads_215 rfl ?_
                              refine k_callV C (y := yX7_at) [.int (iI p)] 1 rfl (c_X7_at (x_l X) (x_G X) mo s sv tx fa ea go qu st ty th un om p ff (by omega) (by omega)) gX7_reads_X7_at rfl ⟨rfl, by decide +kernel, by decide +kernel, by decide +kernel⟩ ⟨by decide, by decide⟩ 0 (fs := [.ref s, .int (iI st), .ref sv, .ref tx, .int (iI ty), .int (iI th), .ref fa, .ref ea, .ref go, .ref qu, .int (iI un), .int (iI om)]) rfl rfl rfl [0, 3] (by decide) (wc := [(mo, .inr (6, [.ref s, .int (iI st), .ref sv, .ref tx, .int (iI ty), .int (iI th), .ref fa, .ref ea, .ref go, .ref qu, .int (iI un), .int (iI om)])), (tx, .inl (g_C (x_G X), 60, .inl (aI ff)))]) rfl [] rfl (Nat.le_of_ble_eq_true rfl) ⟨Nat.le_of_ble_eq_true rfl, Nat.le_of_ble_eq_true rfl⟩ dX7_reads_216 (fun _ => [(mo, .inr (6, [.ref s, .int (iI st), .ref sv, .ref tx, .int (iI ty), .int (iI th), .ref fa, .ref ea, .ref go, .ref qu, .int (iI un), .int (iI om)])), (s, .inl (g_I (x_G X), 756, .inl (aI fs))), (ea, .inl (g_I (x_G X), 40, .inl (aI fe))), (tx, .inl (g_C (x_G X), 60, .inl (aI ff)))]) (Or.inl (fun _ => ⟨rfl, rfl⟩)) (fun u216 => [.int (iI u216)]) (fun _ => rfl) 0 0 ⟨rfl, rfl⟩ (fun u216 hu216 => ?_)
                              rw [show p.toNat = a + sl by omega] at hu216
                              refine k_bipush C dX7_reads_219 (by decide) ?_
                              refine k_isub C dX7_reads_221 ?_
                              refine k_nmI (fun v221 e221 => ?_)
                              refine k_istore C (lo' := [(7, .int (iI v221)), (6, .int (iI i)), (5, .int (iI 1)), (4, .int (iI u12)), (3, .int (iI u4)), (2, .int (iI p)), (0, .ref mo), (1, .int (iI 0))]) dX7_reads_222 (by decide) rfl ?_
                              obtain ⟨v224, e224⟩ : ∃ y : Int, y = p + 1 := ⟨_, rfl⟩
                              refine k_iinc C (lo' := [(2, .int (iI v224)), (7, .int (iI v221)), (6, .int (iI i)), (5, .int (iI 1)), (4, .int (iI u12)), (3, .int (iI u4)), (0, .ref mo), (1, .int (iI 0))]) 5 rfl dX7_reads_224 (by decide) v224 e224 rfl ?_
                              try have hX := ob_X (T := (tA ff ty)) (a := a) (V := (tA ff ty) (a + sl) - 48) (X := v221) (Or.inl (by omega))
                              try have hPp : v224 = ((a + sl + 1 : Nat) : Int) := by omega
                              refine k_iload_n C 7 rfl dX7_reads_227 rfl ?_
                              refine k_if_eq C 239 (⟨by omega, by omega⟩) dX7_reads_228 (by decide) (fun c228 => ?_) (fun c228 => ?_)
                              · skip
                                refine k_iload_n C 0 rfl dX7_reads_239 rfl ?_
                                refine k_aload_n C 6 rfl dX7_reads_240 rfl ?_
                                refine k_get C (Cn := RX7) (T := TX7) (N := 12) (ci := 6) (ref := "StruckCountsModel") in_X7_reads_X7 0 rfl rfl 4 (by decide) 1 rfl rfl (v := .int (iI ty)) rfl dX7_reads_241 ?_
                                refine k_icmp_lt C 249 (⟨by omega, by omega⟩) (⟨by omega, by omega⟩) dX7_reads_244 (by decide) (fun c244 => ?_) (fun c244 => ?_)
                                · skip
                                  refine k_aload_n C 6 rfl dX7_reads_249 rfl ?_
                                  refine k_iload_n C 0 rfl dX7_reads_250 rfl ?_
                                  refine k_callV C (y := yX7_at) [.int (iI v224)] 1 rfl (c_X7_at (x_l X) (x_G X) mo s sv tx fa ea go qu st ty th un om v224 ff (by omega) (by omega)) gX7_reads_X7_at rfl ⟨rfl, by decide +kernel, by decide +kernel, by decide +kernel⟩ ⟨by decide, by decide⟩ 0 (fs := [.ref s, .int (iI st), .ref sv, .ref tx, .int (iI ty), .int (iI th), .ref fa, .ref ea, .ref go, .ref qu, .int (iI un), .int (iI om)]) rfl rfl rfl [0, 3] (by decide) (wc := [(mo, .inr (6, [.ref s, .int (iI st), .ref sv, .ref tx, .int (iI ty), .int (iI th), .ref fa, .ref ea, .ref go, .ref qu, .int (iI un), .int (iI om)])), (tx, .inl (g_C (x_G X), 60, .inl (aI ff)))]) rfl [] rfl (Nat.le_of_ble_eq_true rfl) ⟨Nat.le_of_ble_eq_true rfl, Nat.le_of_ble_eq_true rfl⟩ dX7_reads_251 (fun _ => [(mo, .inr (6, [.ref s, .int (iI st), .ref sv, .ref tx, .int (iI ty), .int (iI th), .ref fa, .ref ea, .ref go, .ref qu, .int (iI un), .int (iI om)])), (s, .inl (g_I (x_G X), 756, .inl (aI fs))), (ea, .inl (g_I (x_G X), 40, .inl (aI fe))), (tx, .inl (g_C (x_G X), 60, .inl (aI ff)))]) (Or.inl (fun _ => ⟨rfl, rfl⟩)) (fun u251 => [.int (iI u251)]) (fun _ => rfl) 0 0 ⟨rfl, rfl⟩ (fun u251 hu251 => ?_)
                                  rw [show _ = _ from congrArg Int.toNat hPp, Int.toNat_natCast] at hu251
                                  have hr251 : 0 ≤ u251 ∧ u251 ≤ 65535 := by rw [hu251]; exact hTr _
                                  refine k_bipush C dX7_reads_254 (by decide) ?_
                                  refine k_icmp_eq C 261 (⟨by omega, by omega⟩) (⟨by omega, by omega⟩) dX7_reads_256 (by decide) (fun c256 => ?_) (fun c256 => ?_)
                                  · skip
                                    have h44 := hu251.symm.trans c256
                                    obtain ⟨v261, e261⟩ : ∃ y : Int, y = v224 + 1 := ⟨_, rfl⟩
                                    refine k_iinc C (lo' := [(2, .int (iI v261)), (7, .int (iI v221)), (6, .int (iI i)), (5, .int (iI 1)), (4, .int (iI u12)), (3, .int (iI u4)), (0, .ref mo), (1, .int (iI 0))]) 0 rfl dX7_reads_261 (by decide) v261 e261 rfl ?_
                                    have hPI := pi_nx e261 hPp
                                    refine k_goto C 2 dX7_reads_264 (by decide) ?_
                                    refine k_lo (lo' := [(2, .int (iI v261)), (0, .ref mo), (1, .int (iI 0))]) [0, 6, 7] rfl ?_
                                    exact ih2 (f - 1) _ v261 (⟨hPI, by omega, by omega, by omega, by rw [← (fl_nx (L := ty.toNat) (f := f) (by omega) hF hN hnn (by omega) h44).2]; exact i5⟩) (by omega)
                                  · skip
                                    refine k_iload_n C 0 rfl dX7_reads_259 rfl ?_
                                    exact k_iret C hR (u := v224) rfl (by rw [← i5, fl_ft (by omega) hF hN hnn (by omega) (fun z => c256 (hu251.trans z))] <;> omega) rfl (Nat.le_of_ble_eq_true rfl) (Nat.le_of_ble_eq_true rfl) dX7_reads_260
                                · skip
                                  refine k_iconst C dX7_reads_247 ?_
                                  exact k_iret C hR (u := (-1)) rfl (by rw [← i5, (fl_end (by omega) hF hN hnn (by omega)).2]) rfl (Nat.le_of_ble_eq_true rfl) (Nat.le_of_ble_eq_true rfl) dX7_reads_248
                              · exfalso; omega
                        · exfalso; omega
                      · exfalso; omega
                    · skip
                      have hsl : sl < wl (sW (tA ff ty) a) := wc_w hw4 j2 (by rw [← h77]; omega)
                      refine k_aload_n C 5 rfl dX7_reads_83 rfl ?_
                      refine k_iload_n C 4 rfl dX7_reads_84 rfl ?_
                      refine k_callV C (y := yX7_at) [.int (iI p)] 1 rfl (c_X7_at (x_l X) (x_G X) mo s sv tx fa ea go qu st ty th un om p ff (by omega) (by omega)) gX7_reads_X7_at rfl ⟨rfl, by decide +kernel, by decide +kernel, by decide +kernel⟩ ⟨by decide, by decide⟩ 0 (fs := [.ref s, .int (iI st), .ref sv, .ref tx, .int (iI ty), .int (iI th), .ref fa, .ref ea, .ref go, .ref qu, .int (iI un), .int (iI om)]) rfl rfl rfl [0, 3] (by decide) (wc := [(mo, .inr (6, [.ref s, .int (iI st), .ref sv, .ref tx, .int (iI ty), .int (iI th), .ref fa, .ref ea, .ref go, .ref qu, .int (iI un), .int (iI om)])), (tx, .inl (g_C (x_G X), 60, .inl (aI ff)))]) rfl [] rfl (Nat.le_of_ble_eq_true rfl) ⟨Nat.le_of_ble_eq_true rfl, Nat.le_of_ble_eq_true rfl⟩ dX7_reads_85 (fun _ => [(mo, .inr (6, [.ref s, .int (iI st), .ref sv, .ref tx, .int (iI ty), .int (iI th), .ref fa, .ref ea, .ref go, .ref qu, .int (iI un), .int (iI om)])), (s, .inl (g_I (x_G X), 756, .inl (aI fs))), (ea, .inl (g_I (x_G X), 40, .inl (aI fe))), (tx, .inl (g_C (x_G X), 60, .inl (aI ff)))]) (Or.inl (fun _ => ⟨rfl, rfl⟩)) (fun u85 => [.int (iI u85)]) (fun _ => rfl) 0 0 ⟨rfl, rfl⟩ (fun u85 hu85 => ?_)
                      rw [show p.toNat = a + sl by omega] at hu85
                      have hr85 := hTr (a + sl)
                      refine k_iload C 1 rfl dX7_reads_88 ?_
                      refine k_iload_n C 4 rfl dX7_reads_90 rfl ?_
                      refine k_iload C 0 rfl dX7_reads_91 ?_
                      refine k_isub C dX7_reads_93 ?_
                      refine k_nmI (fun v93 e93 => ?_)
                      refine k_callS C (y := yX7_letter) [.int (iI 1), .int (iI v93)] 2 rfl (c_X7_letter (x_l X) (x_G X) 1 v93 (by omega) (by omega)) gX7_reads_X7_letter rfl ⟨by decide +kernel, by decide +kernel, by decide +kernel⟩ ⟨by decide, by decide⟩ [] (by decide) (wc := []) rfl [.int (iI u85)] rfl (Nat.le_of_ble_eq_true rfl) ⟨Nat.le_of_ble_eq_true rfl, Nat.le_of_ble_eq_true rfl⟩ dX7_reads_94 (fun _ => [(mo, .inr (6, [.ref s, .int (iI st), .ref sv, .ref tx, .int (iI ty), .int (iI th), .ref fa, .ref ea, .ref go, .ref qu, .int (iI un), .int (iI om)])), (s, .inl (g_I (x_G X), 756, .inl (aI fs))), (ea, .inl (g_I (x_G X), 40, .inl (aI fe))), (tx, .inl (g_C (x_G X), 60, .inl (aI ff)))]) (Or.inl (fun _ => ⟨rfl, rfl⟩)) (fun u94 => [.int (iI u94), .int (iI u85)]) (fun _ => rfl) 0 0 ⟨rfl, rfl⟩ (fun u94 hu94 => ?_)
                      have h94 : u94 = wc (sW (tA ff ty) a) sl := by (rw [hu94, hw, show v93.toNat = sl by omega]) <;> rfl
                      have hr94 := wc_rng hw4 hsl
                      refine k_icmp_eq C 102 (⟨by omega, by omega⟩) (⟨by omega, by omega⟩) dX7_reads_97 (by decide) (fun c97 => ?_) (fun c97 => ?_)
                      · skip
                        obtain ⟨v102, e102⟩ : ∃ y : Int, y = p + 1 := ⟨_, rfl⟩
                        refine k_iinc C (lo' := [(2, .int (iI v102)), (6, .int (iI i)), (5, .int (iI 1)), (4, .int (iI u12)), (3, .int (iI u4)), (0, .ref mo), (1, .int (iI 0))]) 4 rfl dX7_reads_102 (by decide) v102 e102 rfl ?_
                        refine k_goto C 71 dX7_reads_105 (by decide) ?_
                        refine k_lo (lo' := [(6, .int (iI i)), (5, .int (iI 1)), (4, .int (iI u12)), (3, .int (iI u4)), (2, .int (iI v102)), (0, .ref mo), (1, .int (iI 0))]) [1, 2, 3, 4, 0, 5, 6] rfl ?_
                        exact ih71 (sl + 1) v102 (⟨by omega, by omega, csn_step j3 (by rw [← hu85, ← h94]; exact c97)⟩) (by omega)
                      · skip
                        refine k_iload_n C 4 rfl dX7_reads_100 rfl ?_
                        exact k_iret C hR (u := p) rfl (by rw [← i5, fl_sp (by omega) hw4 j3 (by rw [← hu85, ← h94]; exact c97) hsl] <;> omega) rfl (Nat.le_of_ble_eq_true rfl) (Nat.le_of_ble_eq_true rfl) dX7_reads_101
                exact L71 _ 0 i (⟨by omega, Nat.zero_le _, rfl⟩) (Nat.lt_succ_self _)
              · exfalso; omega
            · skip
              have hw : sW (tA ff ty) a = 2 := sW_2 (by omega) (by omega) (by omega) (by omega)
              refine k_iconst C dX7_reads_50 ?_
              refine k_goto C 59 dX7_reads_51 (by decide) ?_
              refine k_istore C (lo' := [(5, .int (iI 2)), (4, .int (iI u12)), (3, .int (iI u4)), (2, .int (iI i)), (0, .ref mo), (1, .int (iI 0))]) dX7_reads_59 (by decide) rfl ?_
              refine k_iload C 0 rfl dX7_reads_61 ?_
              refine k_if_ge C 68 (⟨by omega, by omega⟩) dX7_reads_63 (by decide) (fun c63 => ?_) (fun c63 => ?_)
              · skip
                refine k_iload_n C 3 rfl dX7_reads_68 rfl ?_
                refine k_istore C (lo' := [(6, .int (iI i)), (5, .int (iI 2)), (4, .int (iI u12)), (3, .int (iI u4)), (2, .int (iI i)), (0, .ref mo), (1, .int (iI 0))]) dX7_reads_69 (by decide) rfl ?_
                have L71 : ∀ (nf : Nat) (sl : Nat) (p : Int), (p = ((a + sl : Nat) : Int) ∧ sl ≤ wl (sW (tA ff ty) a) ∧ csn (tA ff ty) a (sW (tA ff ty) a) sl = sl) → wl (sW (tA ff ty) a) - sl < nf → K_ X 0 0 [(mo, .inr (6, [.ref s, .int (iI st), .ref sv, .ref tx, .int (iI ty), .int (iI th), .ref fa, .ref ea, .ref go, .ref qu, .int (iI un), .int (iI om)])), (s, .inl (g_I (x_G X), 756, .inl (aI fs))), (ea, .inl (g_I (x_G X), 40, .inl (aI fe))), (tx, .inl (g_C (x_G X), 60, .inl (aI ff)))] 71 [(6, .int (iI i)), (5, .int (iI 2)), (4, .int (iI u12)), (3, .int (iI u4)), (2, .int (iI p)), (0, .ref mo), (1, .int (iI 0))] [] := by
                  intro nf
                  induction nf with
                  | zero => intro sl p hI hm; exact absurd hm (Nat.not_lt_zero _)
                  | succ nf ih71 =>
                    intro sl p hI71 hm71
                    obtain ⟨j1, j2, j3⟩ := hI71
                    have hw4 : (sW (tA ff ty) a) < 4 := by omega
                    have hwl := wl_rng hw4
                    refine k_iload C 1 rfl dX7_reads_71 ?_
                    refine k_iload_n C 4 rfl dX7_reads_73 rfl ?_
                    refine k_iload C 0 rfl dX7_reads_74 ?_
                    refine k_isub C dX7_reads_76 ?_
                    refine k_nmI (fun v76 e76 => ?_)
                    refine k_callS C (y := yX7_letter) [.int (iI 2), .int (iI v76)] 2 rfl (c_X7_letter (x_l X) (x_G X) 2 v76 (by omega) (by omega)) gX7_reads_X7_letter rfl ⟨by decide +kernel, by decide +kernel, by decide +kernel⟩ ⟨by decide, by decide⟩ [] (by decide) (wc := []) rfl [] rfl (Nat.le_of_ble_eq_true rfl) ⟨Nat.le_of_ble_eq_true rfl, Nat.le_of_ble_eq_true rfl⟩ dX7_reads_77 (fun _ => [(mo, .inr (6, [.ref s, .int (iI st), .ref sv, .ref tx, .int (iI ty), .int (iI th), .ref fa, .ref ea, .ref go, .ref qu, .int (iI un), .int (iI om)])), (s, .inl (g_I (x_G X), 756, .inl (aI fs))), (ea, .inl (g_I (x_G X), 40, .inl (aI fe))), (tx, .inl (g_C (x_G X), 60, .inl (aI ff)))]) (Or.inl (fun _ => ⟨rfl, rfl⟩)) (fun u77 => [.int (iI u77)]) (fun _ => rfl) 0 0 ⟨rfl, rfl⟩ (fun u77 hu77 => ?_)
                    have h77 : u77 = wc (sW (tA ff ty) a) sl := by (rw [hu77, hw, show v76.toNat = sl by omega]) <;> rfl
                    have hr77 : 0 ≤ u77 ∧ u77 ≤ 122 := by (by_cases e : sl < wl (sW (tA ff ty) a); (have := wc_rng hw4 e; omega); (rw [h77, show sl = wl (sW (tA ff ty) a) by omega, wc_e hw4]; omega))
                    refine k_if_eq C 108 (⟨by omega, by omega⟩) dX7_reads_80 (by decide) (fun c80 => ?_) (fun c80 => ?_)
                    · skip
                      have hsw : sl = wl (sW (tA ff ty) a) := wc_z hw4 j2 (by rw [← h77]; omega)
                      have hF := ful_of hw4 j3 hsw
                      refine k_iload C 1 rfl dX7_reads_108 ?_
                      refine k_if_ne C 117 (⟨by omega, by omega⟩) dX7_reads_110 (by decide) (fun c110 => ?_) (fun c110 => ?_)
                      · skip
                        refine k_iconst C dX7_reads_117 ?_
                        refine k_istore C (lo' := [(7, .int (iI 1)), (6, .int (iI i)), (5, .int (iI 2)), (4, .int (iI u12)), (3, .int (iI u4)), (2, .int (iI p)), (0, .ref mo), (1, .int (iI 0))]) dX7_reads_118 (by decide) rfl ?_
                        refine k_iload C 2 rfl dX7_reads_120 ?_
                        refine k_if_ne C 193 (⟨by omega, by omega⟩) dX7_reads_122 (by decide) (fun c122 => ?_) (fun c122 => ?_)
                        · skip
                          refine k_iload C 2 rfl dX7_reads_193 ?_
                          refine k_iconst C dX7_reads_195 ?_
                          refine k_icmp_ge C 227 (⟨by omega, by omega⟩) (⟨by omega, by omega⟩) dX7_reads_196 (by decide) (fun c196 => ?_) (fun c196 => ?_)
                          · exfalso; omega
                          · skip
                            refine k_aload_n C 6 rfl dX7_reads_199 rfl ?_
                            refine k_iload_n C 5 rfl dX7_reads_200 rfl ?_
                            refine k_callV C (y := yX7_at) [.int (iI p)] 1 rfl (c_X7_at (x_l X) (x_G X) mo s sv tx fa ea go qu st ty th un om p ff (by omega) (by omega)) gX7_reads_X7_at rfl ⟨rfl, by decide +kernel, by decide +kernel, by decide +kernel⟩ ⟨by decide, by decide⟩ 0 (fs := [.ref s, .int (iI st), .ref sv, .ref tx, .int (iI ty), .int (iI th), .ref fa, .ref ea, .ref go, .ref qu, .int (iI un), .int (iI om)]) rfl rfl rfl [0, 3] (by decide) (wc := [(mo, .inr (6, [.ref s, .int (iI st), .ref sv, .ref tx, .int (iI ty), .int (iI th), .ref fa, .ref ea, .ref go, .ref qu, .int (iI un), .int (iI om)])), (tx, .inl (g_C (x_G X), 60, .inl (aI ff)))]) rfl [] rfl (Nat.le_of_ble_eq_true rfl) ⟨Nat.le_of_ble_eq_true rfl, Nat.le_of_ble_eq_true rfl⟩ dX7_reads_201 (fun _ => [(mo, .inr (6, [.ref s, .int (iI st), .ref sv, .ref tx, .int (iI ty), .int (iI th), .ref fa, .ref ea, .ref go, .ref qu, .int (iI un), .int (iI om)])), (s, .inl (g_I (x_G X), 756, .inl (aI fs))), (ea, .inl (g_I (x_G X), 40, .inl (aI fe))), (tx, .inl (g_C (x_G X), 60, .inl (aI ff)))]) (Or.inl (fun _ => ⟨rfl, rfl⟩)) (fun u201 => [.int (iI u201)]) (fun _ => rfl) 0 0 ⟨rfl, rfl⟩ (fun u201 hu201 => ?_)
                            rw [show p.toNat = a + sl by omega] at hu201
                            have hr201 := hTr (a + sl)
                            refine k_bipush C dX7_reads_204 (by decide) ?_
                            refine k_bipush C dX7_reads_206 (by decide) ?_
                            refine k_callS C (y := yX7_in) [.int (iI u201), .int (iI 50), .int (iI 57)] 3 rfl (c_X7_in (x_l X) (x_G X) u201 50 57 (by omega) (by omega) (by omega)) gX7_reads_X7_in rfl ⟨by decide +kernel, by decide +kernel, by decide +kernel⟩ ⟨by decide, by decide⟩ [] (by decide) (wc := []) rfl [] rfl (Nat.le_of_ble_eq_true rfl) ⟨Nat.le_of_ble_eq_true rfl, Nat.le_of_ble_eq_true rfl⟩ dX7_reads_208 (fun _ => [(mo, .inr (6, [.ref s, .int (iI st), .ref sv, .ref tx, .int (iI ty), .int (iI th), .ref fa, .ref ea, .ref go, .ref qu, .int (iI un), .int (iI om)])), (s, .inl (g_I (x_G X), 756, .inl (aI fs))), (ea, .inl (g_I (x_G X), 40, .inl (aI fe))), (tx, .inl (g_C (x_G X), 60, .inl (aI ff)))]) (Or.inl (fun _ => ⟨rfl, rfl⟩)) (fun u208 => [.int (iI u208)]) (fun _ => rfl) 0 0 ⟨rfl, rfl⟩ (fun u208 hu208 => ?_)
                            refine k_if_eq C 227 (⟨by omega, by omega⟩) dX7_reads_211 (by decide) (fun c211 => ?_) (fun c211 => ?_)
                            · skip
                              have hu208 := bo_f hu208 c211
                              have hN := nm_n hF hsw (by omega) (by omega)
                              have hnn : ¬ ((0 : Int) = 0 ∧ wnn (sW (tA ff ty) a) = 1) := fun z => by have := z.2; rw [hw] at this; exact absurd this (by decide)
                              have hX := ob_X (T := (tA ff ty)) (a := a) (V := 0) (X := 1) (Or.inr ⟨by omega, rfl⟩)
                              have hPp : p = ((a + sl : Nat) : Int) := j1
                              try have hX := ob_X (T := (tA ff ty)) (a := a) (V := (tA ff ty) (a + sl) - 48) (X := v221) (Or.inl (by omega))
                              try have hPp : v224 = ((a + sl + 1 : Nat) : Int) := by omega
                              refine k_iload_n C 7 rfl dX7_reads_227 rfl ?_
                              refine k_if_eq C 239 (⟨by omega, by omega⟩) dX7_reads_228 (by decide) (fun c228 => ?_) (fun c228 => ?_)
                              · skip
                                refine k_iload_n C 5 rfl dX7_reads_239 rfl ?_
                                refine k_aload_n C 6 rfl dX7_reads_240 rfl ?_
                                refine k_get C (Cn := RX7) (T := TX7) (N := 12) (ci := 6) (ref := "StruckCountsModel") in_X7_reads_X7 0 rfl rfl 4 (by decide) 1 rfl rfl (v := .int (iI ty)) rfl dX7_reads_241 ?_
                                refine k_icmp_lt C 249 (⟨by omega, by omega⟩) (⟨by omega, by omega⟩) dX7_reads_244 (by decide) (fun c244 => ?_) (fun c244 => ?_)
                                · skip
                                  refine k_aload_n C 6 rfl dX7_reads_249 rfl ?_
                                  refine k_iload_n C 5 rfl dX7_reads_250 rfl ?_
                                  refine k_callV C (y := yX7_at) [.int (iI p)] 1 rfl (c_X7_at (x_l X) (x_G X) mo s sv tx fa ea go qu st ty th un om p ff (by omega) (by omega)) gX7_reads_X7_at rfl ⟨rfl, by decide +kernel, by decide +kernel, by decide +kernel⟩ ⟨by decide, by decide⟩ 0 (fs := [.ref s, .int (iI st), .ref sv, .ref tx, .int (iI ty), .int (iI th), .ref fa, .ref ea, .ref go, .ref qu, .int (iI un), .int (iI om)]) rfl rfl rfl [0, 3] (by decide) (wc := [(mo, .inr (6, [.ref s, .int (iI st), .ref sv, .ref tx, .int (iI ty), .int (iI th), .ref fa, .ref ea, .ref go, .ref qu, .int (iI un), .int (iI om)])), (tx, .inl (g_C (x_G X), 60, .inl (aI ff)))]) rfl [] rfl (Nat.le_of_ble_eq_true rfl) ⟨Nat.le_of_ble_eq_true rfl, Nat.le_of_ble_eq_true rfl⟩ dX7_reads_251 (fun _ => [(mo, .inr (6, [.ref s, .int (iI st), .ref sv, .ref tx, .int (iI ty), .int (iI th), .ref fa, .ref ea, .ref go, .ref qu, .int (iI un), .int (iI om)])), (s, .inl (g_I (x_G X), 756, .inl (aI fs))), (ea, .inl (g_I (x_G X), 40, .inl (aI fe))), (tx, .inl (g_C (x_G X), 60, .inl (aI ff)))]) (Or.inl (fun _ => ⟨rfl, rfl⟩)) (fun u251 => [.int (iI u251)]) (fun _ => rfl) 0 0 ⟨rfl, rfl⟩ (fun u251 hu251 => ?_)
                                  rw [show _ = _ from congrArg Int.toNat hPp, Int.toNat_natCast] at hu251
                                  have hr251 : 0 ≤ u251 ∧ u251 ≤ 65535 := by rw [hu251]; exact hTr _
                                  refine k_bipush C dX7_reads_254 (by decide) ?_
                                  refine k_icmp_eq C 261 (⟨by omega, by omega⟩) (⟨by omega, by omega⟩) dX7_reads_256 (by decide) (fun c256 => ?_) (fun c256 => ?_)
                                  · skip
                                    have h44 := hu251.symm.trans c256
                                    obtain ⟨v261, e261⟩ : ∃ y : Int, y = p + 1 := ⟨_, rfl⟩
                                    refine k_iinc C (lo' := [(2, .int (iI v261)), (7, .int (iI 1)), (6, .int (iI i)), (5, .int (iI 2)), (4, .int (iI u12)), (3, .int (iI u4)), (0, .ref mo), (1, .int (iI 0))]) 5 rfl dX7_reads_261 (by decide) v261 e261 rfl ?_
                                    have hPI := pi_nx e261 hPp
                                    refine k_goto C 2 dX7_reads_264 (by decide) ?_
                                    refine k_lo (lo' := [(2, .int (iI v261)), (0, .ref mo), (1, .int (iI 0))]) [0, 6, 7] rfl ?_
                                    exact ih2 (f - 1) _ v261 (⟨hPI, by omega, by omega, by omega, by rw [← (fl_nx (L := ty.toNat) (f := f) (by omega) hF hN hnn (by omega) h44).2]; exact i5⟩) (by omega)
                                  · skip
                                    refine k_iload_n C 5 rfl dX7_reads_259 rfl ?_
                                    exact k_iret C hR (u := p) rfl (by rw [← i5, fl_ft (by omega) hF hN hnn (by omega) (fun z => c256 (hu251.trans z))] <;> omega) rfl (Nat.le_of_ble_eq_true rfl) (Nat.le_of_ble_eq_true rfl) dX7_reads_260
                                · skip
                                  refine k_iconst C dX7_reads_247 ?_
                                  exact k_iret C hR (u := (-1)) rfl (by rw [← i5, (fl_end (by omega) hF hN hnn (by omega)).2]) rfl (Nat.le_of_ble_eq_true rfl) (Nat.le_of_ble_eq_true rfl) dX7_reads_248
                              · exfalso; omega
                            · skip
                              have hu208 := bo_t hu208 c211
                              have hN := nm_y hF hsw (by omega) (by omega)
                              have hnn : ¬ (((tA ff ty) (a + sl) - 48) = 0 ∧ wnn (sW (tA ff ty) a) = 1) := fun z => by omega
                              refine k_aload_n C 6 rfl dX7_reads_214 rfl ?_
                              refine k_iload_n C 5 rfl dX7_reads_215 rfl ?_
                              refine k_callV C (y := yX7_at) [.int (iI p)] 1 rfl (c_X7_at (x_l X) (x_G X) mo s sv tx fa ea go qu st ty th un om p ff (by omega) (by omega)) gX7_reads_X7_at rfl ⟨rfl, by decide +kernel, by decide +kernel, by decide +kernel⟩ ⟨by decide, by decide⟩ 0 (fs := [.ref s, .int (iI st), .ref sv, .ref tx, .int (iI ty), .int (iI th), .ref fa, .ref ea, .ref go, .ref qu, .int (iI un), .int (iI om)]) rfl rfl rfl [0, 3] (by decide) (wc := [(mo, .inr (6, [.ref s, .int (iI st), .ref sv, .ref tx, .int (iI ty), .int (iI th), .ref fa, .ref ea, .ref go, .ref qu, .int (iI un), .int (iI om)])), (tx, .inl (g_C (x_G X), 60, .inl (aI ff)))]) rfl [] rfl (Nat.le_of_ble_eq_true rfl) ⟨Nat.le_of_ble_eq_true rfl, Nat.le_of_ble_eq_true rfl⟩ dX7_reads_216 (fun _ => [(mo, .inr (6, [.ref s, .int (iI st), .ref sv, .ref tx, .int (iI ty), .int (iI th), .ref fa, .ref ea, .ref go, .ref qu, .int (iI un), .int (iI om)])), (s, .inl (g_I (x_G X), 756, .inl (aI fs))), (ea, .inl (g_I (x_G X), 40, .inl (aI fe))), (tx, .inl (g_C (x_G X), 60, .inl (aI ff)))]) (Or.inl (fun _ => ⟨rfl, rfl⟩)) (fun u216 => [.int (iI u216)]) (fun _ => rfl) 0 0 ⟨rfl, rfl⟩ (fun u216 hu216 => ?_)
                              rw [show p.toNat = a + sl by omega] at hu216
                              refine k_bipush C dX7_reads_219 (by decide) ?_
                              refine k_isub C dX7_reads_221 ?_
                              refine k_nmI (fun v221 e221 => ?_)
                              refine k_istore C (lo' := [(7, .int (iI v221)), (6, .int (iI i)), (5, .int (iI 2)), (4, .int (iI u12)), (3, .int (iI u4)), (2, .int (iI p)), (0, .ref mo), (1, .int (iI 0))]) dX7_reads_222 (by decide) rfl ?_
                              obtain ⟨v224, e224⟩ : ∃ y : Int, y = p + 1 := ⟨_, rfl⟩
                              refine k_iinc C (lo' := [(2, .int (iI v224)), (7, .int (iI v221)), (6, .int (iI i)), (5, .int (iI 2)), (4, .int (iI u12)), (3, .int (iI u4)), (0, .ref mo), (1, .int (iI 0))]) 5 rfl dX7_reads_224 (by decide) v224 e224 rfl ?_
                              try have hX := ob_X (T := (tA ff ty)) (a := a) (V := (tA ff ty) (a + sl) - 48) (X := v221) (Or.inl (by omega))
                              try have hPp : v224 = ((a + sl + 1 : Nat) : Int) := by omega
                              refine k_iload_n C 7 rfl dX7_reads_227 rfl ?_
                              refine k_if_eq C 239 (⟨by omega, by omega⟩) dX7_reads_228 (by decide) (fun c228 => ?_) (fun c228 => ?_)
                              · skip
                                refine k_iload_n C 0 rfl dX7_reads_239 rfl ?_
                                refine k_aload_n C 6 rfl dX7_reads_240 rfl ?_
                                refine k_get C (Cn := RX7) (T := TX7) (N := 12) (ci := 6) (ref := "StruckCountsModel") in_X7_reads_X7 0 rfl rfl 4 (by decide) 1 rfl rfl (v := .int (iI ty)) rfl dX7_reads_241 ?_
                                refine k_icmp_lt C 249 (⟨by omega, by omega⟩) (⟨by omega, by omega⟩) dX7_reads_244 (by decide) (fun c244 => ?_) (fun c244 => ?_)
                                · skip
                                  refine k_aload_n C 6 rfl dX7_reads_249 rfl ?_
                                  refine k_iload_n C 0 rfl dX7_reads_250 rfl ?_
                                  refine k_callV C (y := yX7_at) [.int (iI v224)] 1 rfl (c_X7_at (x_l X) (x_G X) mo s sv tx fa ea go qu st ty th un om v224 ff (by omega) (by omega)) gX7_reads_X7_at rfl ⟨rfl, by decide +kernel, by decide +kernel, by decide +kernel⟩ ⟨by decide, by decide⟩ 0 (fs := [.ref s, .int (iI st), .ref sv, .ref tx, .int (iI ty), .int (iI th), .ref fa, .ref ea, .ref go, .ref qu, .int (iI un), .int (iI om)]) rfl rfl rfl [0, 3] (by decide) (wc := [(mo, .inr (6, [.ref s, .int (iI st), .ref sv, .ref tx, .int (iI ty), .int (iI th), .ref fa, .ref ea, .ref go, .ref qu, .int (iI un), .int (iI om)])), (tx, .inl (g_C (x_G X), 60, .inl (aI ff)))]) rfl [] rfl (Nat.le_of_ble_eq_true rfl) ⟨Nat.le_of_ble_eq_true rfl, Nat.le_of_ble_eq_true rfl⟩ dX7_reads_251 (fun _ => [(mo, .inr (6, [.ref s, .int (iI st), .ref sv, .ref tx, .int (iI ty), .int (iI th), .ref fa, .ref ea, .ref go, .ref qu, .int (iI un), .int (iI om)])), (s, .inl (g_I (x_G X), 756, .inl (aI fs))), (ea, .inl (g_I (x_G X), 40, .inl (aI fe))), (tx, .inl (g_C (x_G X), 60, .inl (aI ff)))]) (Or.inl (fun _ => ⟨rfl, rfl⟩)) (fun u251 => [.int (iI u251)]) (fun _ => rfl) 0 0 ⟨rfl, rfl⟩ (fun u251 hu251 => ?_)
                                  rw [show _ = _ from congrArg Int.toNat hPp, Int.toNat_natCast] at hu251
                                  have hr251 : 0 ≤ u251 ∧ u251 ≤ 65535 := by rw [hu251]; exact hTr _
                                  refine k_bipush C dX7_reads_254 (by decide) ?_
                                  refine k_icmp_eq C 261 (⟨by omega, by omega⟩) (⟨by omega, by omega⟩) dX7_reads_256 (by decide) (fun c256 => ?_) (fun c256 => ?_)
                                  · skip
                                    have h44 := hu251.symm.trans c256
                                    obtain ⟨v261, e261⟩ : ∃ y : Int, y = v224 + 1 := ⟨_, rfl⟩
                                    refine k_iinc C (lo' := [(2, .int (iI v261)), (7, .int (iI v221)), (6, .int (iI i)), (5, .int (iI 2)), (4, .int (iI u12)), (3, .int (iI u4)), (0, .ref mo), (1, .int (iI 0))]) 0 rfl dX7_reads_261 (by decide) v261 e261 rfl ?_
                                    have hPI := pi_nx e261 hPp
                                    refine k_goto C 2 dX7_reads_264 (by decide) ?_
                                    refine k_lo (lo' := [(2, .int (iI v261)), (0, .ref mo), (1, .int (iI 0))]) [0, 6, 7] rfl ?_
                                    exact ih2 (f - 1) _ v261 (⟨hPI, by omega, by omega, by omega, by rw [← (fl_nx (L := ty.toNat) (f := f) (by omega) hF hN hnn (by omega) h44).2]; exact i5⟩) (by omega)
                                  · skip
                                    refine k_iload_n C 0 rfl dX7_reads_259 rfl ?_
                                    exact k_iret C hR (u := v224) rfl (by rw [← i5, fl_ft (by omega) hF hN hnn (by omega) (fun z => c256 (hu251.trans z))] <;> omega) rfl (Nat.le_of_ble_eq_true rfl) (Nat.le_of_ble_eq_true rfl) dX7_reads_260
                                · skip
                                  refine k_iconst C dX7_reads_247 ?_
                                  exact k_iret C hR (u := (-1)) rfl (by rw [← i5, (fl_end (by omega) hF hN hnn (by omega)).2]) rfl (Nat.le_of_ble_eq_true rfl) (Nat.le_of_ble_eq_true rfl) dX7_reads_248
                              · exfalso; omega
                        · exfalso; omega
                      · exfalso; omega
                    · skip
                      have hsl : sl < wl (sW (tA ff ty) a) := wc_w hw4 j2 (by rw [← h77]; omega)
                      refine k_aload_n C 5 rfl dX7_reads_83 rfl ?_
                      refine k_iload_n C 4 rfl dX7_reads_84 rfl ?_
                      refine k_callV C (y := yX7_at) [.int (iI p)] 1 rfl (c_X7_at (x_l X) (x_G X) mo s sv tx fa ea go qu st ty th un om p ff (by omega) (by omega)) gX7_reads_X7_at rfl ⟨rfl, by decide +kernel, by decide +kernel, by decide +kernel⟩ ⟨by decide, by decide⟩ 0 (fs := [.ref s, .int (iI st), .ref sv, .ref tx, .int (iI ty), .int (iI th), .ref fa, .ref ea, .ref go, .ref qu, .int (iI un), .int (iI om)]) rfl rfl rfl [0, 3] (by decide) (wc := [(mo, .inr (6, [.ref s, .int (iI st), .ref sv, .ref tx, .int (iI ty), .int (iI th), .ref fa, .ref ea, .ref go, .ref qu, .int (iI un), .int (iI om)])), (tx, .inl (g_C (x_G X), 60, .inl (aI ff)))]) rfl [] rfl (Nat.le_of_ble_eq_true rfl) ⟨Nat.le_of_ble_eq_true rfl, Nat.le_of_ble_eq_true rfl⟩ dX7_reads_85 (fun _ => [(mo, .inr (6, [.ref s, .int (iI st), .ref sv, .ref tx, .int (iI ty), .int (iI th), .ref fa, .ref ea, .ref go, .ref qu, .int (iI un), .int (iI om)])), (s, .inl (g_I (x_G X), 756, .inl (aI fs))), (ea, .inl (g_I (x_G X), 40, .inl (aI fe))), (tx, .inl (g_C (x_G X), 60, .inl (aI ff)))]) (Or.inl (fun _ => ⟨rfl, rfl⟩)) (fun u85 => [.int (iI u85)]) (fun _ => rfl) 0 0 ⟨rfl, rfl⟩ (fun u85 hu85 => ?_)
                      rw [show p.toNat = a + sl by omega] at hu85
                      have hr85 := hTr (a + sl)
                      refine k_iload C 1 rfl dX7_reads_88 ?_
                      refine k_iload_n C 4 rfl dX7_reads_90 rfl ?_
                      refine k_iload C 0 rfl dX7_reads_91 ?_
                      refine k_isub C dX7_reads_93 ?_
                      refine k_nmI (fun v93 e93 => ?_)
                      refine k_callS C (y := yX7_letter) [.int (iI 2), .int (iI v93)] 2 rfl (c_X7_letter (x_l X) (x_G X) 2 v93 (by omega) (by omega)) gX7_reads_X7_letter rfl ⟨by decide +kernel, by decide +kernel, by decide +kernel⟩ ⟨by decide, by decide⟩ [] (by decide) (wc := []) rfl [.int (iI u85)] rfl (Nat.le_of_ble_eq_true rfl) ⟨Nat.le_of_ble_eq_true rfl, Nat.le_of_ble_eq_true rfl⟩ dX7_reads_94 (fun _ => [(mo, .inr (6, [.ref s, .int (iI st), .ref sv, .ref tx, .int (iI ty), .int (iI th), .ref fa, .ref ea, .ref go, .ref qu, .int (iI un), .int (iI om)])), (s, .inl (g_I (x_G X), 756, .inl (aI fs))), (ea, .inl (g_I (x_G X), 40, .inl (aI fe))), (tx, .inl (g_C (x_G X), 60, .inl (aI ff)))]) (Or.inl (fun _ => ⟨rfl, rfl⟩)) (fun u94 => [.int (iI u94), .int (iI u85)]) (fun _ => rfl) 0 0 ⟨rfl, rfl⟩ (fun u94 hu94 => ?_)
                      have h94 : u94 = wc (sW (tA ff ty) a) sl := by (rw [hu94, hw, show v93.toNat = sl by omega]) <;> rfl
                      have hr94 := wc_rng hw4 hsl
                      refine k_icmp_eq C 102 (⟨by omega, by omega⟩) (⟨by omega, by omega⟩) dX7_reads_97 (by decide) (fun c97 => ?_) (fun c97 => ?_)
                      · skip
                        obtain ⟨v102, e102⟩ : ∃ y : Int, y = p + 1 := ⟨_, rfl⟩
                        refine k_iinc C (lo' := [(2, .int (iI v102)), (6, .int (iI i)), (5, .int (iI 2)), (4, .int (iI u12)), (3, .int (iI u4)), (0, .ref mo), (1, .int (iI 0))]) 4 rfl dX7_reads_102 (by decide) v102 e102 rfl ?_
                        refine k_goto C 71 dX7_reads_105 (by decide) ?_
                        refine k_lo (lo' := [(6, .int (iI i)), (5, .int (iI 2)), (4, .int (iI u12)), (3, .int (iI u4)), (2, .int (iI v102)), (0, .ref mo), (1, .int (iI 0))]) [1, 2, 3, 4, 0, 5, 6] rfl ?_
                        exact ih71 (sl + 1) v102 (⟨by omega, by omega, csn_step j3 (by rw [← hu85, ← h94]; exact c97)⟩) (by omega)
                      · skip
                        refine k_iload_n C 4 rfl dX7_reads_100 rfl ?_
                        exact k_iret C hR (u := p) rfl (by rw [← i5, fl_sp (by omega) hw4 j3 (by rw [← hu85, ← h94]; exact c97) hsl] <;> omega) rfl (Nat.le_of_ble_eq_true rfl) (Nat.le_of_ble_eq_true rfl) dX7_reads_101
                exact L71 _ 0 i (⟨by omega, Nat.zero_le _, rfl⟩) (Nat.lt_succ_self _)
              · exfalso; omega
        · skip
          have hw : sW (tA ff ty) a = 3 := sW_3 (by omega) (by omega)
          refine k_iconst C dX7_reads_33 ?_
          refine k_goto C 59 dX7_reads_34 (by decide) ?_
          refine k_istore C (lo' := [(5, .int (iI 3)), (4, .int (iI u12)), (3, .int (iI u4)), (2, .int (iI i)), (0, .ref mo), (1, .int (iI 0))]) dX7_reads_59 (by decide) rfl ?_
          refine k_iload C 0 rfl dX7_reads_61 ?_
          refine k_if_ge C 68 (⟨by omega, by omega⟩) dX7_reads_63 (by decide) (fun c63 => ?_) (fun c63 => ?_)
          · skip
            refine k_iload_n C 3 rfl dX7_reads_68 rfl ?_
            refine k_istore C (lo' := [(6, .int (iI i)), (5, .int (iI 3)), (4, .int (iI u12)), (3, .int (iI u4)), (2, .int (iI i)), (0, .ref mo), (1, .int (iI 0))]) dX7_reads_69 (by decide) rfl ?_
            have L71 : ∀ (nf : Nat) (sl : Nat) (p : Int), (p = ((a + sl : Nat) : Int) ∧ sl ≤ wl (sW (tA ff ty) a) ∧ csn (tA ff ty) a (sW (tA ff ty) a) sl = sl) → wl (sW (tA ff ty) a) - sl < nf → K_ X 0 0 [(mo, .inr (6, [.ref s, .int (iI st), .ref sv, .ref tx, .int (iI ty), .int (iI th), .ref fa, .ref ea, .ref go, .ref qu, .int (iI un), .int (iI om)])), (s, .inl (g_I (x_G X), 756, .inl (aI fs))), (ea, .inl (g_I (x_G X), 40, .inl (aI fe))), (tx, .inl (g_C (x_G X), 60, .inl (aI ff)))] 71 [(6, .int (iI i)), (5, .int (iI 3)), (4, .int (iI u12)), (3, .int (iI u4)), (2, .int (iI p)), (0, .ref mo), (1, .int (iI 0))] [] := by
              intro nf
              induction nf with
              | zero => intro sl p hI hm; exact absurd hm (Nat.not_lt_zero _)
              | succ nf ih71 =>
                intro sl p hI71 hm71
                obtain ⟨j1, j2, j3⟩ := hI71
                have hw4 : (sW (tA ff ty) a) < 4 := by omega
                have hwl := wl_rng hw4
                refine k_iload C 1 rfl dX7_reads_71 ?_
                refine k_iload_n C 4 rfl dX7_reads_73 rfl ?_
                refine k_iload C 0 rfl dX7_reads_74 ?_
                refine k_isub C dX7_reads_76 ?_
                refine k_nmI (fun v76 e76 => ?_)
                refine k_callS C (y := yX7_letter) [.int (iI 3), .int (iI v76)] 2 rfl (c_X7_letter (x_l X) (x_G X) 3 v76 (by omega) (by omega)) gX7_reads_X7_letter rfl ⟨by decide +kernel, by decide +kernel, by decide +kernel⟩ ⟨by decide, by decide⟩ [] (by decide) (wc := []) rfl [] rfl (Nat.le_of_ble_eq_true rfl) ⟨Nat.le_of_ble_eq_true rfl, Nat.le_of_ble_eq_true rfl⟩ dX7_reads_77 (fun _ => [(mo, .inr (6, [.ref s, .int (iI st), .ref sv, .ref tx, .int (iI ty), .int (iI th), .ref fa, .ref ea, .ref go, .ref qu, .int (iI un), .int (iI om)])), (s, .inl (g_I (x_G X), 756, .inl (aI fs))), (ea, .inl (g_I (x_G X), 40, .inl (aI fe))), (tx, .inl (g_C (x_G X), 60, .inl (aI ff)))]) (Or.inl (fun _ => ⟨rfl, rfl⟩)) (fun u77 => [.int (iI u77)]) (fun _ => rfl) 0 0 ⟨rfl, rfl⟩ (fun u77 hu77 => ?_)
                have h77 : u77 = wc (sW (tA ff ty) a) sl := by (rw [hu77, hw, show v76.toNat = sl by omega]) <;> rfl
                have hr77 : 0 ≤ u77 ∧ u77 ≤ 122 := by (by_cases e : sl < wl (sW (tA ff ty) a); (have := wc_rng hw4 e; omega); (rw [h77, show sl = wl (sW (tA ff ty) a) by omega, wc_e hw4]; omega))
                refine k_if_eq C 108 (⟨by omega, by omega⟩) dX7_reads_80 (by decide) (fun c80 => ?_) (fun c80 => ?_)
                · skip
                  have hsw : sl = wl (sW (tA ff ty) a) := wc_z hw4 j2 (by rw [← h77]; omega)
                  have hF := ful_of hw4 j3 hsw
                  refine k_iload C 1 rfl dX7_reads_108 ?_
                  refine k_if_ne C 117 (⟨by omega, by omega⟩) dX7_reads_110 (by decide) (fun c110 => ?_) (fun c110 => ?_)
                  · skip
                    refine k_iconst C dX7_reads_117 ?_
                    refine k_istore C (lo' := [(7, .int (iI 1)), (6, .int (iI i)), (5, .int (iI 3)), (4, .int (iI u12)), (3, .int (iI u4)), (2, .int (iI p)), (0, .ref mo), (1, .int (iI 0))]) dX7_reads_118 (by decide) rfl ?_
                    refine k_iload C 2 rfl dX7_reads_120 ?_
                    refine k_if_ne C 193 (⟨by omega, by omega⟩) dX7_reads_122 (by decide) (fun c122 => ?_) (fun c122 => ?_)
                    · skip
                      refine k_iload C 2 rfl dX7_reads_193 ?_
                      refine k_iconst C dX7_reads_195 ?_
                      refine k_icmp_ge C 227 (⟨by omega, by omega⟩) (⟨by omega, by omega⟩) dX7_reads_196 (by decide) (fun c196 => ?_) (fun c196 => ?_)
                      · skip
                        have hN := nm_3 hF hsw hw
                        have hnn : ¬ ((0 : Int) = 0 ∧ wnn (sW (tA ff ty) a) = 1) := fun z => by have := z.2; rw [hw] at this; exact absurd this (by decide)
                        have hX := ob_X (T := (tA ff ty)) (a := a) (V := 0) (X := 1) (Or.inr ⟨by omega, rfl⟩)
                        have hPp : p = ((a + sl : Nat) : Int) := j1
                        try have hX := ob_X (T := (tA ff ty)) (a := a) (V := (tA ff ty) (a + sl) - 48) (X := v221) (Or.inl (by omega))
                        try have hPp : v224 = ((a + sl + 1 : Nat) : Int) := by omega
                        refine k_iload_n C 7 rfl dX7_reads_227 rfl ?_
                        refine k_if_eq C 239 (⟨by omega, by omega⟩) dX7_reads_228 (by decide) (fun c228 => ?_) (fun c228 => ?_)
                        · skip
                          refine k_iload_n C 5 rfl dX7_reads_239 rfl ?_
                          refine k_aload_n C 6 rfl dX7_reads_240 rfl ?_
                          refine k_get C (Cn := RX7) (T := TX7) (N := 12) (ci := 6) (ref := "StruckCountsModel") in_X7_reads_X7 0 rfl rfl 4 (by decide) 1 rfl rfl (v := .int (iI ty)) rfl dX7_reads_241 ?_
                          refine k_icmp_lt C 249 (⟨by omega, by omega⟩) (⟨by omega, by omega⟩) dX7_reads_244 (by decide) (fun c244 => ?_) (fun c244 => ?_)
                          · skip
                            refine k_aload_n C 6 rfl dX7_reads_249 rfl ?_
                            refine k_iload_n C 5 rfl dX7_reads_250 rfl ?_
                            refine k_callV C (y := yX7_at) [.int (iI p)] 1 rfl (c_X7_at (x_l X) (x_G X) mo s sv tx fa ea go qu st ty th un om p ff (by omega) (by omega)) gX7_reads_X7_at rfl ⟨rfl, by decide +kernel, by decide +kernel, by decide +kernel⟩ ⟨by decide, by decide⟩ 0 (fs := [.ref s, .int (iI st), .ref sv, .ref tx, .int (iI ty), .int (iI th), .ref fa, .ref ea, .ref go, .ref qu, .int (iI un), .int (iI om)]) rfl rfl rfl [0, 3] (by decide) (wc := [(mo, .inr (6, [.ref s, .int (iI st), .ref sv, .ref tx, .int (iI ty), .int (iI th), .ref fa, .ref ea, .ref go, .ref qu, .int (iI un), .int (iI om)])), (tx, .inl (g_C (x_G X), 60, .inl (aI ff)))]) rfl [] rfl (Nat.le_of_ble_eq_true rfl) ⟨Nat.le_of_ble_eq_true rfl, Nat.le_of_ble_eq_true rfl⟩ dX7_reads_251 (fun _ => [(mo, .inr (6, [.ref s, .int (iI st), .ref sv, .ref tx, .int (iI ty), .int (iI th), .ref fa, .ref ea, .ref go, .ref qu, .int (iI un), .int (iI om)])), (s, .inl (g_I (x_G X), 756, .inl (aI fs))), (ea, .inl (g_I (x_G X), 40, .inl (aI fe))), (tx, .inl (g_C (x_G X), 60, .inl (aI ff)))]) (Or.inl (fun _ => ⟨rfl, rfl⟩)) (fun u251 => [.int (iI u251)]) (fun _ => rfl) 0 0 ⟨rfl, rfl⟩ (fun u251 hu251 => ?_)
                            rw [show _ = _ from congrArg Int.toNat hPp, Int.toNat_natCast] at hu251
                            have hr251 : 0 ≤ u251 ∧ u251 ≤ 65535 := by rw [hu251]; exact hTr _
                            refine k_bipush C dX7_reads_254 (by decide) ?_
                            refine k_icmp_eq C 261 (⟨by omega, by omega⟩) (⟨by omega, by omega⟩) dX7_reads_256 (by decide) (fun c256 => ?_) (fun c256 => ?_)
                            · skip
                              have h44 := hu251.symm.trans c256
                              obtain ⟨v261, e261⟩ : ∃ y : Int, y = p + 1 := ⟨_, rfl⟩
                              refine k_iinc C (lo' := [(2, .int (iI v261)), (7, .int (iI 1)), (6, .int (iI i)), (5, .int (iI 3)), (4, .int (iI u12)), (3, .int (iI u4)), (0, .ref mo), (1, .int (iI 0))]) 5 rfl dX7_reads_261 (by decide) v261 e261 rfl ?_
                              have hPI := pi_nx e261 hPp
                              refine k_goto C 2 dX7_reads_264 (by decide) ?_
                              refine k_lo (lo' := [(2, .int (iI v261)), (0, .ref mo), (1, .int (iI 0))]) [0, 6, 7] rfl ?_
                              exact ih2 (f - 1) _ v261 (⟨hPI, by omega, by omega, by omega, by rw [← (fl_nx (L := ty.toNat) (f := f) (by omega) hF hN hnn (by omega) h44).2]; exact i5⟩) (by omega)
                            · skip
                              refine k_iload_n C 5 rfl dX7_reads_259 rfl ?_
                              exact k_iret C hR (u := p) rfl (by rw [← i5, fl_ft (by omega) hF hN hnn (by omega) (fun z => c256 (hu251.trans z))] <;> omega) rfl (Nat.le_of_ble_eq_true rfl) (Nat.le_of_ble_eq_true rfl) dX7_reads_260
                          · skip
                            refine k_iconst C dX7_reads_247 ?_
                            exact k_iret C hR (u := (-1)) rfl (by rw [← i5, (fl_end (by omega) hF hN hnn (by omega)).2]) rfl (Nat.le_of_ble_eq_true rfl) (Nat.le_of_ble_eq_true rfl) dX7_reads_248
                        · exfalso; omega
                      · exfalso; omega
                    · exfalso; omega
                  · exfalso; omega
                · skip
                  have hsl : sl < wl (sW (tA ff ty) a) := wc_w hw4 j2 (by rw [← h77]; omega)
                  refine k_aload_n C 5 rfl dX7_reads_83 rfl ?_
                  refine k_iload_n C 4 rfl dX7_reads_84 rfl ?_
                  refine k_callV C (y := yX7_at) [.int (iI p)] 1 rfl (c_X7_at (x_l X) (x_G X) mo s sv tx fa ea go qu st ty th un om p ff (by omega) (by omega)) gX7_reads_X7_at rfl ⟨rfl, by decide +kernel, by decide +kernel, by decide +kernel⟩ ⟨by decide, by decide⟩ 0 (fs := [.ref s, .int (iI st), .ref sv, .ref tx, .int (iI ty), .int (iI th), .ref fa, .ref ea, .ref go, .ref qu, .int (iI un), .int (iI om)]) rfl rfl rfl [0, 3] (by decide) (wc := [(mo, .inr (6, [.ref s, .int (iI st), .ref sv, .ref tx, .int (iI ty), .int (iI th), .ref fa, .ref ea, .ref go, .ref qu, .int (iI un), .int (iI om)])), (tx, .inl (g_C (x_G X), 60, .inl (aI ff)))]) rfl [] rfl (Nat.le_of_ble_eq_true rfl) ⟨Nat.le_of_ble_eq_true rfl, Nat.le_of_ble_eq_true rfl⟩ dX7_reads_85 (fun _ => [(mo, .inr (6, [.ref s, .int (iI st), .ref sv, .ref tx, .int (iI ty), .int (iI th), .ref fa, .ref ea, .ref go, .ref qu, .int (iI un), .int (iI om)])), (s, .inl (g_I (x_G X), 756, .inl (aI fs))), (ea, .inl (g_I (x_G X), 40, .inl (aI fe))), (tx, .inl (g_C (x_G X), 60, .inl (aI ff)))]) (Or.inl (fun _ => ⟨rfl, rfl⟩)) (fun u85 => [.int (iI u85)]) (fun _ => rfl) 0 0 ⟨rfl, rfl⟩ (fun u85 hu85 => ?_)
                  rw [show p.toNat = a + sl by omega] at hu85
                  have hr85 := hTr (a + sl)
                  refine k_iload C 1 rfl dX7_reads_88 ?_
                  refine k_iload_n C 4 rfl dX7_reads_90 rfl ?_
                  refine k_iload C 0 rfl dX7_reads_91 ?_
                  refine k_isub C dX7_reads_93 ?_
                  refine k_nmI (fun v93 e93 => ?_)
                  refine k_callS C (y := yX7_letter) [.int (iI 3), .int (iI v93)] 2 rfl (c_X7_letter (x_l X) (x_G X) 3 v93 (by omega) (by omega)) gX7_reads_X7_letter rfl ⟨by decide +kernel, by decide +kernel, by decide +kernel⟩ ⟨by decide, by decide⟩ [] (by decide) (wc := []) rfl [.int (iI u85)] rfl (Nat.le_of_ble_eq_true rfl) ⟨Nat.le_of_ble_eq_true rfl, Nat.le_of_ble_eq_true rfl⟩ dX7_reads_94 (fun _ => [(mo, .inr (6, [.ref s, .int (iI st), .ref sv, .ref tx, .int (iI ty), .int (iI th), .ref fa, .ref ea, .ref go, .ref qu, .int (iI un), .int (iI om)])), (s, .inl (g_I (x_G X), 756, .inl (aI fs))), (ea, .inl (g_I (x_G X), 40, .inl (aI fe))), (tx, .inl (g_C (x_G X), 60, .inl (aI ff)))]) (Or.inl (fun _ => ⟨rfl, rfl⟩)) (fun u94 => [.int (iI u94), .int (iI u85)]) (fun _ => rfl) 0 0 ⟨rfl, rfl⟩ (fun u94 hu94 => ?_)
                  have h94 : u94 = wc (sW (tA ff ty) a) sl := by (rw [hu94, hw, show v93.toNat = sl by omega]) <;> rfl
                  have hr94 := wc_rng hw4 hsl
                  refine k_icmp_eq C 102 (⟨by omega, by omega⟩) (⟨by omega, by omega⟩) dX7_reads_97 (by decide) (fun c97 => ?_) (fun c97 => ?_)
                  · skip
                    obtain ⟨v102, e102⟩ : ∃ y : Int, y = p + 1 := ⟨_, rfl⟩
                    refine k_iinc C (lo' := [(2, .int (iI v102)), (6, .int (iI i)), (5, .int (iI 3)), (4, .int (iI u12)), (3, .int (iI u4)), (0, .ref mo), (1, .int (iI 0))]) 4 rfl dX7_reads_102 (by decide) v102 e102 rfl ?_
                    refine k_goto C 71 dX7_reads_105 (by decide) ?_
                    refine k_lo (lo' := [(6, .int (iI i)), (5, .int (iI 3)), (4, .int (iI u12)), (3, .int (iI u4)), (2, .int (iI v102)), (0, .ref mo), (1, .int (iI 0))]) [1, 2, 3, 4, 0, 5, 6] rfl ?_
                    exact ih71 (sl + 1) v102 (⟨by omega, by omega, csn_step j3 (by rw [← hu85, ← h94]; exact c97)⟩) (by omega)
                  · skip
                    refine k_iload_n C 4 rfl dX7_reads_100 rfl ?_
                    exact k_iret C hR (u := p) rfl (by rw [← i5, fl_sp (by omega) hw4 j3 (by rw [← hu85, ← h94]; exact c97) hsl] <;> omega) rfl (Nat.le_of_ble_eq_true rfl) (Nat.le_of_ble_eq_true rfl) dX7_reads_101
            exact L71 _ 0 i (⟨by omega, Nat.zero_le _, rfl⟩) (Nat.lt_succ_self _)
          · exfalso; omega
      · skip
        have hw : sW (tA ff ty) a = 0 := sW_0 (by omega)
        refine k_iconst C dX7_reads_23 ?_
        refine k_goto C 59 dX7_reads_24 (by decide) ?_
        refine k_istore C (lo' := [(5, .int (iI 0)), (4, .int (iI u12)), (3, .int (iI u4)), (2, .int (iI i)), (0, .ref mo), (1, .int (iI 0))]) dX7_reads_59 (by decide) rfl ?_
        refine k_iload C 0 rfl dX7_reads_61 ?_
        refine k_if_ge C 68 (⟨by omega, by omega⟩) dX7_reads_63 (by decide) (fun c63 => ?_) (fun c63 => ?_)
        · skip
          refine k_iload_n C 3 rfl dX7_reads_68 rfl ?_
          refine k_istore C (lo' := [(6, .int (iI i)), (5, .int (iI 0)), (4, .int (iI u12)), (3, .int (iI u4)), (2, .int (iI i)), (0, .ref mo), (1, .int (iI 0))]) dX7_reads_69 (by decide) rfl ?_
          have L71 : ∀ (nf : Nat) (sl : Nat) (p : Int), (p = ((a + sl : Nat) : Int) ∧ sl ≤ wl (sW (tA ff ty) a) ∧ csn (tA ff ty) a (sW (tA ff ty) a) sl = sl) → wl (sW (tA ff ty) a) - sl < nf → K_ X 0 0 [(mo, .inr (6, [.ref s, .int (iI st), .ref sv, .ref tx, .int (iI ty), .int (iI th), .ref fa, .ref ea, .ref go, .ref qu, .int (iI un), .int (iI om)])), (s, .inl (g_I (x_G X), 756, .inl (aI fs))), (ea, .inl (g_I (x_G X), 40, .inl (aI fe))), (tx, .inl (g_C (x_G X), 60, .inl (aI ff)))] 71 [(6, .int (iI i)), (5, .int (iI 0)), (4, .int (iI u12)), (3, .int (iI u4)), (2, .int (iI p)), (0, .ref mo), (1, .int (iI 0))] [] := by
            intro nf
            induction nf with
            | zero => intro sl p hI hm; exact absurd hm (Nat.not_lt_zero _)
            | succ nf ih71 =>
              intro sl p hI71 hm71
              obtain ⟨j1, j2, j3⟩ := hI71
              have hw4 : (sW (tA ff ty) a) < 4 := by omega
              have hwl := wl_rng hw4
              refine k_iload C 1 rfl dX7_reads_71 ?_
              refine k_iload_n C 4 rfl dX7_reads_73 rfl ?_
              refine k_iload C 0 rfl dX7_reads_74 ?_
              refine k_isub C dX7_reads_76 ?_
              refine k_nmI (fun v76 e76 => ?_)
              refine k_callS C (y := yX7_letter) [.int (iI 0), .int (iI v76)] 2 rfl (c_X7_letter (x_l X) (x_G X) 0 v76 (by omega) (by omega)) gX7_reads_X7_letter rfl ⟨by decide +kernel, by decide +kernel, by decide +kernel⟩ ⟨by decide, by decide⟩ [] (by decide) (wc := []) rfl [] rfl (Nat.le_of_ble_eq_true rfl) ⟨Nat.le_of_ble_eq_true rfl, Nat.le_of_ble_eq_true rfl⟩ dX7_reads_77 (fun _ => [(mo, .inr (6, [.ref s, .int (iI st), .ref sv, .ref tx, .int (iI ty), .int (iI th), .ref fa, .ref ea, .ref go, .ref qu, .int (iI un), .int (iI om)])), (s, .inl (g_I (x_G X), 756, .inl (aI fs))), (ea, .inl (g_I (x_G X), 40, .inl (aI fe))), (tx, .inl (g_C (x_G X), 60, .inl (aI ff)))]) (Or.inl (fun _ => ⟨rfl, rfl⟩)) (fun u77 => [.int (iI u77)]) (fun _ => rfl) 0 0 ⟨rfl, rfl⟩ (fun u77 hu77 => ?_)
              have h77 : u77 = wc (sW (tA ff ty) a) sl := by (rw [hu77, hw, show v76.toNat = sl by omega]) <;> rfl
              have hr77 : 0 ≤ u77 ∧ u77 ≤ 122 := by (by_cases e : sl < wl (sW (tA ff ty) a); (have := wc_rng hw4 e; omega); (rw [h77, show sl = wl (sW (tA ff ty) a) by omega, wc_e hw4]; omega))
              refine k_if_eq C 108 (⟨by omega, by omega⟩) dX7_reads_80 (by decide) (fun c80 => ?_) (fun c80 => ?_)
              · skip
                have hsw : sl = wl (sW (tA ff ty) a) := wc_z hw4 j2 (by rw [← h77]; omega)
                have hF := ful_of hw4 j3 hsw
                refine k_iload C 1 rfl dX7_reads_108 ?_
                refine k_if_ne C 117 (⟨by omega, by omega⟩) dX7_reads_110 (by decide) (fun c110 => ?_) (fun c110 => ?_)
                · exfalso; omega
                · skip
                  refine k_iconst C dX7_reads_113 ?_
                  refine k_goto C 118 dX7_reads_114 (by decide) ?_
                  refine k_istore C (lo' := [(7, .int (iI 0)), (6, .int (iI i)), (5, .int (iI 0)), (4, .int (iI u12)), (3, .int (iI u4)), (2, .int (iI p)), (0, .ref mo), (1, .int (iI 0))]) dX7_reads_118 (by decide) rfl ?_
                  refine k_iload C 2 rfl dX7_reads_120 ?_
                  refine k_if_ne C 193 (⟨by omega, by omega⟩) dX7_reads_122 (by decide) (fun c122 => ?_) (fun c122 => ?_)
                  · exfalso; omega
                  · skip
                    refine k_aload_n C 6 rfl dX7_reads_125 rfl ?_
                    refine k_iload_n C 5 rfl dX7_reads_126 rfl ?_
                    refine k_callV C (y := yX7_at) [.int (iI p)] 1 rfl (c_X7_at (x_l X) (x_G X) mo s sv tx fa ea go qu st ty th un om p ff (by omega) (by omega)) gX7_reads_X7_at rfl ⟨rfl, by decide +kernel, by decide +kernel, by decide +kernel⟩ ⟨by decide, by decide⟩ 0 (fs := [.ref s, .int (iI st), .ref sv, .ref tx, .int (iI ty), .int (iI th), .ref fa, .ref ea, .ref go, .ref qu, .int (iI un), .int (iI om)]) rfl rfl rfl [0, 3] (by decide) (wc := [(mo, .inr (6, [.ref s, .int (iI st), .ref sv, .ref tx, .int (iI ty), .int (iI th), .ref fa, .ref ea, .ref go, .ref qu, .int (iI un), .int (iI om)])), (tx, .inl (g_C (x_G X), 60, .inl (aI ff)))]) rfl [] rfl (Nat.le_of_ble_eq_true rfl) ⟨Nat.le_of_ble_eq_true rfl, Nat.le_of_ble_eq_true rfl⟩ dX7_reads_127 (fun _ => [(mo, .inr (6, [.ref s, .int (iI st), .ref sv, .ref tx, .int (iI ty), .int (iI th), .ref fa, .ref ea, .ref go, .ref qu, .int (iI un), .int (iI om)])), (s, .inl (g_I (x_G X), 756, .inl (aI fs))), (ea, .inl (g_I (x_G X), 40, .inl (aI fe))), (tx, .inl (g_C (x_G X), 60, .inl (aI ff)))]) (Or.inl (fun _ => ⟨rfl, rfl⟩)) (fun u127 => [.int (iI u127)]) (fun _ => rfl) 0 0 ⟨rfl, rfl⟩ (fun u127 hu127 => ?_)
                    rw [show p.toNat = a + sl by omega] at hu127
                    have hr127 := hTr (a + sl)
                    refine k_bipush C dX7_reads_130 (by decide) ?_
                    refine k_bipush C dX7_reads_132 (by decide) ?_
                    refine k_callS C (y := yX7_in) [.int (iI u127), .int (iI 49), .int (iI 57)] 3 rfl (c_X7_in (x_l X) (x_G X) u127 49 57 (by omega) (by omega) (by omega)) gX7_reads_X7_in rfl ⟨by decide +kernel, by decide +kernel, by decide +kernel⟩ ⟨by decide, by decide⟩ [] (by decide) (wc := []) rfl [] rfl (Nat.le_of_ble_eq_true rfl) ⟨Nat.le_of_ble_eq_true rfl, Nat.le_of_ble_eq_true rfl⟩ dX7_reads_134 (fun _ => [(mo, .inr (6, [.ref s, .int (iI st), .ref sv, .ref tx, .int (iI ty), .int (iI th), .ref fa, .ref ea, .ref go, .ref qu, .int (iI un), .int (iI om)])), (s, .inl (g_I (x_G X), 756, .inl (aI fs))), (ea, .inl (g_I (x_G X), 40, .inl (aI fe))), (tx, .inl (g_C (x_G X), 60, .inl (aI ff)))]) (Or.inl (fun _ => ⟨rfl, rfl⟩)) (fun u134 => [.int (iI u134)]) (fun _ => rfl) 0 0 ⟨rfl, rfl⟩ (fun u134 hu134 => ?_)
                    refine k_if_ne C 142 (⟨by omega, by omega⟩) dX7_reads_137 (by decide) (fun c137 => ?_) (fun c137 => ?_)
                    · skip
                      have hu134 := bo_t hu134 c137
                      have h19 : 49 ≤ (tA ff ty) (a + sl) ∧ (tA ff ty) (a + sl) ≤ 57 := by omega
                      refine k_iload_n C 5 rfl dX7_reads_142 rfl ?_
                      refine k_istore C (lo' := [(8, .int (iI p)), (7, .int (iI 0)), (6, .int (iI i)), (5, .int (iI 0)), (4, .int (iI u12)), (3, .int (iI u4)), (2, .int (iI p)), (0, .ref mo), (1, .int (iI 0))]) dX7_reads_143 (by decide) rfl ?_
                      have L145 : ∀ (nf : Nat) (q : Nat) (p2 : Int) (x : Int), (p2 = ((a + sl + q : Nat) : Int) ∧ q ≤ 5 ∧ NmI (tA ff ty) 0 (a + sl) (a + sl + q) x ∧ Dgt q x) → 5 - q < nf → K_ X 0 0 [(mo, .inr (6, [.ref s, .int (iI st), .ref sv, .ref tx, .int (iI ty), .int (iI th), .ref fa, .ref ea, .ref go, .ref qu, .int (iI un), .int (iI om)])), (s, .inl (g_I (x_G X), 756, .inl (aI fs))), (ea, .inl (g_I (x_G X), 40, .inl (aI fe))), (tx, .inl (g_C (x_G X), 60, .inl (aI ff)))] 145 [(8, .int (iI p)), (7, .int (iI x)), (6, .int (iI i)), (5, .int (iI 0)), (4, .int (iI u12)), (3, .int (iI u4)), (2, .int (iI p2)), (0, .ref mo), (1, .int (iI 0))] [] := by
                        intro nf
                        induction nf with
                        | zero => intro q p2 x hI hm; exact absurd hm (Nat.not_lt_zero _)
                        | succ nf ih145 =>
                          intro q p2 x hI145 hm145
                          obtain ⟨k1, k2, k3, k4⟩ := hI145
                          have hxr : 0 ≤ x ∧ x ≤ 99999 := by unfold Dgt at k4; omega
                          refine k_iload_n C 6 rfl dX7_reads_145 rfl ?_
                          refine k_iload C 0 rfl dX7_reads_146 ?_
                          refine k_iconst C dX7_reads_148 ?_
                          refine k_iadd C dX7_reads_149 ?_
                          refine k_nmI (fun v149 e149 => ?_)
                          refine k_icmp_ge C 190 (⟨by omega, by omega⟩) (⟨by omega, by omega⟩) dX7_reads_150 (by decide) (fun c150 => ?_) (fun c150 => ?_)
                          · skip
                            obtain ⟨hN, hx1, hx9⟩ := nm_be hF hsw hw k3 k4 h19 (Or.inl (by omega))
                            have hnn : ¬ (x = 0 ∧ wnn (sW (tA ff ty) a) = 1) := fun z => by omega
                            have hX := ob_X (T := (tA ff ty)) (a := a) (V := x) (X := x) (Or.inl rfl)
                            have hPp : p2 = ((a + sl + q : Nat) : Int) := k1
                            refine k_goto C 227 dX7_reads_190 (by decide) ?_
                            try have hX := ob_X (T := (tA ff ty)) (a := a) (V := (tA ff ty) (a + sl) - 48) (X := v221) (Or.inl (by omega))
                            try have hPp : v224 = ((a + sl + 1 : Nat) : Int) := by omega
                            refine k_iload_n C 8 rfl dX7_reads_227 rfl ?_
                            refine k_if_eq C 239 (⟨by omega, by omega⟩) dX7_reads_228 (by decide) (fun c228 => ?_) (fun c228 => ?_)
                            · skip
                              refine k_iload_n C 6 rfl dX7_reads_239 rfl ?_
                              refine k_aload_n C 7 rfl dX7_reads_240 rfl ?_
                              refine k_get C (Cn := RX7) (T := TX7) (N := 12) (ci := 6) (ref := "StruckCountsModel") in_X7_reads_X7 0 rfl rfl 4 (by decide) 1 rfl rfl (v := .int (iI ty)) rfl dX7_reads_241 ?_
                              refine k_icmp_lt C 249 (⟨by omega, by omega⟩) (⟨by omega, by omega⟩) dX7_reads_244 (by decide) (fun c244 => ?_) (fun c244 => ?_)
                              · skip
                                refine k_aload_n C 7 rfl dX7_reads_249 rfl ?_
                                refine k_iload_n C 6 rfl dX7_reads_250 rfl ?_
                                refine k_callV C (y := yX7_at) [.int (iI p2)] 1 rfl (c_X7_at (x_l X) (x_G X) mo s sv tx fa ea go qu st ty th un om p2 ff (by omega) (by omega)) gX7_reads_X7_at rfl ⟨rfl, by decide +kernel, by decide +kernel, by decide +kernel⟩ ⟨by decide, by decide⟩ 0 (fs := [.ref s, .int (iI st), .ref sv, .ref tx, .int (iI ty), .int (iI th), .ref fa, .ref ea, .ref go, .ref qu, .int (iI un), .int (iI om)]) rfl rfl rfl [0, 3] (by decide) (wc := [(mo, .inr (6, [.ref s, .int (iI st), .ref sv, .ref tx, .int (iI ty), .int (iI th), .ref fa, .ref ea, .ref go, .ref qu, .int (iI un), .int (iI om)])), (tx, .inl (g_C (x_G X), 60, .inl (aI ff)))]) rfl [] rfl (Nat.le_of_ble_eq_true rfl) ⟨Nat.le_of_ble_eq_true rfl, Nat.le_of_ble_eq_true rfl⟩ dX7_reads_251 (fun _ => [(mo, .inr (6, [.ref s, .int (iI st), .ref sv, .ref tx, .int (iI ty), .int (iI th), .ref fa, .ref ea, .ref go, .ref qu, .int (iI un), .int (iI om)])), (s, .inl (g_I (x_G X), 756, .inl (aI fs))), (ea, .inl (g_I (x_G X), 40, .inl (aI fe))), (tx, .inl (g_C (x_G X), 60, .inl (aI ff)))]) (Or.inl (fun _ => ⟨rfl, rfl⟩)) (fun u251 => [.int (iI u251)]) (fun _ => rfl) 0 0 ⟨rfl, rfl⟩ (fun u251 hu251 => ?_)
                                rw [show _ = _ from congrArg Int.toNat hPp, Int.toNat_natCast] at hu251
                                have hr251 : 0 ≤ u251 ∧ u251 ≤ 65535 := by rw [hu251]; exact hTr _
                                refine k_bipush C dX7_reads_254 (by decide) ?_
                                refine k_icmp_eq C 261 (⟨by omega, by omega⟩) (⟨by omega, by omega⟩) dX7_reads_256 (by decide) (fun c256 => ?_) (fun c256 => ?_)
                                · skip
                                  have h44 := hu251.symm.trans c256
                                  obtain ⟨v261, e261⟩ : ∃ y : Int, y = p2 + 1 := ⟨_, rfl⟩
                                  refine k_iinc C (lo' := [(2, .int (iI v261)), (8, .int (iI p)), (7, .int (iI x)), (6, .int (iI i)), (5, .int (iI 0)), (4, .int (iI u12)), (3, .int (iI u4)), (0, .ref mo), (1, .int (iI 0))]) 6 rfl dX7_reads_261 (by decide) v261 e261 rfl ?_
                                  have hPI := pi_nx e261 hPp
                                  refine k_goto C 2 dX7_reads_264 (by decide) ?_
                                  refine k_lo (lo' := [(2, .int (iI v261)), (0, .ref mo), (1, .int (iI 0))]) [0, 7, 8] rfl ?_
                                  exact ih2 (f - 1) _ v261 (⟨hPI, by omega, by omega, by omega, by rw [← (fl_nx (L := ty.toNat) (f := f) (by omega) hF hN hnn (by omega) h44).2]; exact i5⟩) (by omega)
                                · skip
                                  refine k_iload_n C 6 rfl dX7_reads_259 rfl ?_
                                  exact k_iret C hR (u := p2) rfl (by rw [← i5, fl_ft (by omega) hF hN hnn (by omega) (fun z => c256 (hu251.trans z))] <;> omega) rfl (Nat.le_of_ble_eq_true rfl) (Nat.le_of_ble_eq_true rfl) dX7_reads_260
                              · skip
                                refine k_iconst C dX7_reads_247 ?_
                                exact k_iret C hR (u := (-1)) rfl (by rw [← i5, (fl_end (by omega) hF hN hnn (by omega)).2]) rfl (Nat.le_of_ble_eq_true rfl) (Nat.le_of_ble_eq_true rfl) dX7_reads_248
                            · exfalso; omega
                          · skip
                            refine k_aload_n C 7 rfl dX7_reads_153 rfl ?_
                            refine k_iload_n C 6 rfl dX7_reads_154 rfl ?_
                            refine k_callV C (y := yX7_at) [.int (iI p2)] 1 rfl (c_X7_at (x_l X) (x_G X) mo s sv tx fa ea go qu st ty th un om p2 ff (by omega) (by omega)) gX7_reads_X7_at rfl ⟨rfl, by decide +kernel, by decide +kernel, by decide +kernel⟩ ⟨by decide, by decide⟩ 0 (fs := [.ref s, .int (iI st), .ref sv, .ref tx, .int (iI ty), .int (iI th), .ref fa, .ref ea, .ref go, .ref qu, .int (iI un), .int (iI om)]) rfl rfl rfl [0, 3] (by decide) (wc := [(mo, .inr (6, [.ref s, .int (iI st), .ref sv, .ref tx, .int (iI ty), .int (iI th), .ref fa, .ref ea, .ref go, .ref qu, .int (iI un), .int (iI om)])), (tx, .inl (g_C (x_G X), 60, .inl (aI ff)))]) rfl [] rfl (Nat.le_of_ble_eq_true rfl) ⟨Nat.le_of_ble_eq_true rfl, Nat.le_of_ble_eq_true rfl⟩ dX7_reads_155 (fun _ => [(mo, .inr (6, [.ref s, .int (iI st), .ref sv, .ref tx, .int (iI ty), .int (iI th), .ref fa, .ref ea, .ref go, .ref qu, .int (iI un), .int (iI om)])), (s, .inl (g_I (x_G X), 756, .inl (aI fs))), (ea, .inl (g_I (x_G X), 40, .inl (aI fe))), (tx, .inl (g_C (x_G X), 60, .inl (aI ff)))]) (Or.inl (fun _ => ⟨rfl, rfl⟩)) (fun u155 => [.int (iI u155)]) (fun _ => rfl) 0 0 ⟨rfl, rfl⟩ (fun u155 hu155 => ?_)
                            rw [show p2.toNat = a + sl + q by omega] at hu155
                            have hr155 := hTr (a + sl + q)
                            refine k_bipush C dX7_reads_158 (by decide) ?_
                            refine k_bipush C dX7_reads_160 (by decide) ?_
                            refine k_callS C (y := yX7_in) [.int (iI u155), .int (iI 48), .int (iI 57)] 3 rfl (c_X7_in (x_l X) (x_G X) u155 48 57 (by omega) (by omega) (by omega)) gX7_reads_X7_in rfl ⟨by decide +kernel, by decide +kernel, by decide +kernel⟩ ⟨by decide, by decide⟩ [] (by decide) (wc := []) rfl [] rfl (Nat.le_of_ble_eq_true rfl) ⟨Nat.le_of_ble_eq_true rfl, Nat.le_of_ble_eq_true rfl⟩ dX7_reads_162 (fun _ => [(mo, .inr (6, [.ref s, .int (iI st), .ref sv, .ref tx, .int (iI ty), .int (iI th), .ref fa, .ref ea, .ref go, .ref qu, .int (iI un), .int (iI om)])), (s, .inl (g_I (x_G X), 756, .inl (aI fs))), (ea, .inl (g_I (x_G X), 40, .inl (aI fe))), (tx, .inl (g_C (x_G X), 60, .inl (aI ff)))]) (Or.inl (fun _ => ⟨rfl, rfl⟩)) (fun u162 => [.int (iI u162)]) (fun _ => rfl) 0 0 ⟨rfl, rfl⟩ (fun u162 hu162 => ?_)
                            refine k_if_eq C 190 (⟨by omega, by omega⟩) dX7_reads_165 (by decide) (fun c165 => ?_) (fun c165 => ?_)
                            · skip
                              have hu162 := bo_f hu162 c165
                              obtain ⟨hN, hx1, hx9⟩ := nm_be hF hsw hw k3 k4 h19 (Or.inr (by omega))
                              have hnn : ¬ (x = 0 ∧ wnn (sW (tA ff ty) a) = 1) := fun z => by omega
                              have hX := ob_X (T := (tA ff ty)) (a := a) (V := x) (X := x) (Or.inl rfl)
                              have hPp : p2 = ((a + sl + q : Nat) : Int) := k1
                              refine k_goto C 227 dX7_reads_190 (by decide) ?_
                              try have hX := ob_X (T := (tA ff ty)) (a := a) (V := (tA ff ty) (a + sl) - 48) (X := v221) (Or.inl (by omega))
                              try have hPp : v224 = ((a + sl + 1 : Nat) : Int) := by omega
                              refine k_iload_n C 8 rfl dX7_reads_227 rfl ?_
                              refine k_if_eq C 239 (⟨by omega, by omega⟩) dX7_reads_228 (by decide) (fun c228 => ?_) (fun c228 => ?_)
                              · skip
                                refine k_iload_n C 6 rfl dX7_reads_239 rfl ?_
                                refine k_aload_n C 7 rfl dX7_reads_240 rfl ?_
                                refine k_get C (Cn := RX7) (T := TX7) (N := 12) (ci := 6) (ref := "StruckCountsModel") in_X7_reads_X7 0 rfl rfl 4 (by decide) 1 rfl rfl (v := .int (iI ty)) rfl dX7_reads_241 ?_
                                refine k_icmp_lt C 249 (⟨by omega, by omega⟩) (⟨by omega, by omega⟩) dX7_reads_244 (by decide) (fun c244 => ?_) (fun c244 => ?_)
                                · skip
                                  refine k_aload_n C 7 rfl dX7_reads_249 rfl ?_
                                  refine k_iload_n C 6 rfl dX7_reads_250 rfl ?_
                                  refine k_callV C (y := yX7_at) [.int (iI p2)] 1 rfl (c_X7_at (x_l X) (x_G X) mo s sv tx fa ea go qu st ty th un om p2 ff (by omega) (by omega)) gX7_reads_X7_at rfl ⟨rfl, by decide +kernel, by decide +kernel, by decide +kernel⟩ ⟨by decide, by decide⟩ 0 (fs := [.ref s, .int (iI st), .ref sv, .ref tx, .int (iI ty), .int (iI th), .ref fa, .ref ea, .ref go, .ref qu, .int (iI un), .int (iI om)]) rfl rfl rfl [0, 3] (by decide) (wc := [(mo, .inr (6, [.ref s, .int (iI st), .ref sv, .ref tx, .int (iI ty), .int (iI th), .ref fa, .ref ea, .ref go, .ref qu, .int (iI un), .int (iI om)])), (tx, .inl (g_C (x_G X), 60, .inl (aI ff)))]) rfl [] rfl (Nat.le_of_ble_eq_true rfl) ⟨Nat.le_of_ble_eq_true rfl, Nat.le_of_ble_eq_true rfl⟩ dX7_reads_251 (fun _ => [(mo, .inr (6, [.ref s, .int (iI st), .ref sv, .ref tx, .int (iI ty), .int (iI th), .ref fa, .ref ea, .ref go, .ref qu, .int (iI un), .int (iI om)])), (s, .inl (g_I (x_G X), 756, .inl (aI fs))), (ea, .inl (g_I (x_G X), 40, .inl (aI fe))), (tx, .inl (g_C (x_G X), 60, .inl (aI ff)))]) (Or.inl (fun _ => ⟨rfl, rfl⟩)) (fun u251 => [.int (iI u251)]) (fun _ => rfl) 0 0 ⟨rfl, rfl⟩ (fun u251 hu251 => ?_)
                                  rw [show _ = _ from congrArg Int.toNat hPp, Int.toNat_natCast] at hu251
                                  have hr251 : 0 ≤ u251 ∧ u251 ≤ 65535 := by rw [hu251]; exact hTr _
                                  refine k_bipush C dX7_reads_254 (by decide) ?_
                                  refine k_icmp_eq C 261 (⟨by omega, by omega⟩) (⟨by omega, by omega⟩) dX7_reads_256 (by decide) (fun c256 => ?_) (fun c256 => ?_)
                                  · skip
                                    have h44 := hu251.symm.trans c256
                                    obtain ⟨v261, e261⟩ : ∃ y : Int, y = p2 + 1 := ⟨_, rfl⟩
                                    refine k_iinc C (lo' := [(2, .int (iI v261)), (8, .int (iI p)), (7, .int (iI x)), (6, .int (iI i)), (5, .int (iI 0)), (4, .int (iI u12)), (3, .int (iI u4)), (0, .ref mo), (1, .int (iI 0))]) 6 rfl dX7_reads_261 (by decide) v261 e261 rfl ?_
                                    have hPI := pi_nx e261 hPp
                                    refine k_goto C 2 dX7_reads_264 (by decide) ?_
                                    refine k_lo (lo' := [(2, .int (iI v261)), (0, .ref mo), (1, .int (iI 0))]) [0, 7, 8] rfl ?_
                                    exact ih2 (f - 1) _ v261 (⟨hPI, by omega, by omega, by omega, by rw [← (fl_nx (L := ty.toNat) (f := f) (by omega) hF hN hnn (by omega) h44).2]; exact i5⟩) (by omega)
                                  · skip
                                    refine k_iload_n C 6 rfl dX7_reads_259 rfl ?_
                                    exact k_iret C hR (u := p2) rfl (by rw [← i5, fl_ft (by omega) hF hN hnn (by omega) (fun z => c256 (hu251.trans z))] <;> omega) rfl (Nat.le_of_ble_eq_true rfl) (Nat.le_of_ble_eq_true rfl) dX7_reads_260
                                · skip
                                  refine k_iconst C dX7_reads_247 ?_
                                  exact k_iret C hR (u := (-1)) rfl (by rw [← i5, (fl_end (by omega) hF hN hnn (by omega)).2]) rfl (Nat.le_of_ble_eq_true rfl) (Nat.le_of_ble_eq_true rfl) dX7_reads_248
                              · exfalso; omega
                            · skip
                              have hu162 := bo_t hu162 c165
                              refine k_bipush C dX7_reads_168 (by decide) ?_
                              refine k_iload C 1 rfl dX7_reads_170 ?_
                              refine k_imul C dX7_reads_172 ?_
                              refine k_nmI (fun v172 e172 => ?_)
                              refine k_aload_n C 7 rfl dX7_reads_173 rfl ?_
                              refine k_iload_n C 6 rfl dX7_reads_174 rfl ?_
                              refine k_callV C (y := yX7_at) [.int (iI p2)] 1 rfl (c_X7_at (x_l X) (x_G X) mo s sv tx fa ea go qu st ty th un om p2 ff (by omega) (by omega)) gX7_reads_X7_at rfl ⟨rfl, by decide +kernel, by decide +kernel, by decide +kernel⟩ ⟨by decide, by decide⟩ 0 (fs := [.ref s, .int (iI st), .ref sv, .ref tx, .int (iI ty), .int (iI th), .ref fa, .ref ea, .ref go, .ref qu, .int (iI un), .int (iI om)]) rfl rfl rfl [0, 3] (by decide) (wc := [(mo, .inr (6, [.ref s, .int (iI st), .ref sv, .ref tx, .int (iI ty), .int (iI th), .ref fa, .ref ea, .ref go, .ref qu, .int (iI un), .int (iI om)])), (tx, .inl (g_C (x_G X), 60, .inl (aI ff)))]) rfl [.int (iI v172)] rfl (Nat.le_of_ble_eq_true rfl) ⟨Nat.le_of_ble_eq_true rfl, Nat.le_of_ble_eq_true rfl⟩ dX7_reads_175 (fun _ => [(mo, .inr (6, [.ref s, .int (iI st), .ref sv, .ref tx, .int (iI ty), .int (iI th), .ref fa, .ref ea, .ref go, .ref qu, .int (iI un), .int (iI om)])), (s, .inl (g_I (x_G X), 756, .inl (aI fs))), (ea, .inl (g_I (x_G X), 40, .inl (aI fe))), (tx, .inl (g_C (x_G X), 60, .inl (aI ff)))]) (Or.inl (fun _ => ⟨rfl, rfl⟩)) (fun u175 => [.int (iI u175), .int (iI v172)]) (fun _ => rfl) 0 0 ⟨rfl, rfl⟩ (fun u175 hu175 => ?_)
                              rw [show p2.toNat = a + sl + q by omega] at hu175
                              refine k_iadd C dX7_reads_178 ?_
                              refine k_nmI (fun v178 e178 => ?_)
                              refine k_bipush C dX7_reads_179 (by decide) ?_
                              refine k_isub C dX7_reads_181 ?_
                              refine k_nmI (fun v181 e181 => ?_)
                              have hbg := nm_bg (x2 := v181) k3 k4 (by omega) (by omega) (fun e => by rw [e, Nat.add_zero] at hu155 hr155 ⊢; omega) (by omega)
                              refine k_istore C (lo' := [(7, .int (iI v181)), (8, .int (iI p)), (6, .int (iI i)), (5, .int (iI 0)), (4, .int (iI u12)), (3, .int (iI u4)), (2, .int (iI p2)), (0, .ref mo), (1, .int (iI 0))]) dX7_reads_182 (by decide) rfl ?_
                              obtain ⟨v184, e184⟩ : ∃ y : Int, y = p2 + 1 := ⟨_, rfl⟩
                              refine k_iinc C (lo' := [(2, .int (iI v184)), (7, .int (iI v181)), (8, .int (iI p)), (6, .int (iI i)), (5, .int (iI 0)), (4, .int (iI u12)), (3, .int (iI u4)), (0, .ref mo), (1, .int (iI 0))]) 6 rfl dX7_reads_184 (by decide) v184 e184 rfl ?_
                              refine k_goto C 145 dX7_reads_187 (by decide) ?_
                              refine k_lo (lo' := [(8, .int (iI p)), (7, .int (iI v181)), (6, .int (iI i)), (5, .int (iI 0)), (4, .int (iI u12)), (3, .int (iI u4)), (2, .int (iI v184)), (0, .ref mo), (1, .int (iI 0))]) [2, 1, 3, 4, 5, 6, 0, 7, 8] rfl ?_
                              exact ih145 (q + 1) v184 v181 (⟨by omega, by omega, hbg.1, hbg.2⟩) (by omega)
                      exact L145 _ 0 p 0 (⟨by omega, by omega, NmI_0, Or.inl ⟨rfl, rfl⟩⟩) (Nat.lt_succ_self _)
                    · skip
                      have hu134 := bo_f hu134 c137
                      have hN := nm_b0 hF hsw hw (by omega)
                      refine k_iload_n C 5 rfl dX7_reads_140 rfl ?_
                      exact k_iret C hR (u := p) rfl (by rw [← i5, fl_nn (by omega) hF hw hN] <;> omega) rfl (Nat.le_of_ble_eq_true rfl) (Nat.le_of_ble_eq_true rfl) dX7_reads_141
              · skip
                have hsl : sl < wl (sW (tA ff ty) a) := wc_w hw4 j2 (by rw [← h77]; omega)
                refine k_aload_n C 5 rfl dX7_reads_83 rfl ?_
                refine k_iload_n C 4 rfl dX7_reads_84 rfl ?_
                refine k_callV C (y := yX7_at) [.int (iI p)] 1 rfl (c_X7_at (x_l X) (x_G X) mo s sv tx fa ea go qu st ty th un om p ff (by omega) (by omega)) gX7_reads_X7_at rfl ⟨rfl, by decide +kernel, by decide +kernel, by decide +kernel⟩ ⟨by decide, by decide⟩ 0 (fs := [.ref s, .int (iI st), .ref sv, .ref tx, .int (iI ty), .int (iI th), .ref fa, .ref ea, .ref go, .ref qu, .int (iI un), .int (iI om)]) rfl rfl rfl [0, 3] (by decide) (wc := [(mo, .inr (6, [.ref s, .int (iI st), .ref sv, .ref tx, .int (iI ty), .int (iI th), .ref fa, .ref ea, .ref go, .ref qu, .int (iI un), .int (iI om)])), (tx, .inl (g_C (x_G X), 60, .inl (aI ff)))]) rfl [] rfl (Nat.le_of_ble_eq_true rfl) ⟨Nat.le_of_ble_eq_true rfl, Nat.le_of_ble_eq_true rfl⟩ dX7_reads_85 (fun _ => [(mo, .inr (6, [.ref s, .int (iI st), .ref sv, .ref tx, .int (iI ty), .int (iI th), .ref fa, .ref ea, .ref go, .ref qu, .int (iI un), .int (iI om)])), (s, .inl (g_I (x_G X), 756, .inl (aI fs))), (ea, .inl (g_I (x_G X), 40, .inl (aI fe))), (tx, .inl (g_C (x_G X), 60, .inl (aI ff)))]) (Or.inl (fun _ => ⟨rfl, rfl⟩)) (fun u85 => [.int (iI u85)]) (fun _ => rfl) 0 0 ⟨rfl, rfl⟩ (fun u85 hu85 => ?_)
                rw [show p.toNat = a + sl by omega] at hu85
                have hr85 := hTr (a + sl)
                refine k_iload C 1 rfl dX7_reads_88 ?_
                refine k_iload_n C 4 rfl dX7_reads_90 rfl ?_
                refine k_iload C 0 rfl dX7_reads_91 ?_
                refine k_isub C dX7_reads_93 ?_
                refine k_nmI (fun v93 e93 => ?_)
                refine k_callS C (y := yX7_letter) [.int (iI 0), .int (iI v93)] 2 rfl (c_X7_letter (x_l X) (x_G X) 0 v93 (by omega) (by omega)) gX7_reads_X7_letter rfl ⟨by decide +kernel, by decide +kernel, by decide +kernel⟩ ⟨by decide, by decide⟩ [] (by decide) (wc := []) rfl [.int (iI u85)] rfl (Nat.le_of_ble_eq_true rfl) ⟨Nat.le_of_ble_eq_true rfl, Nat.le_of_ble_eq_true rfl⟩ dX7_reads_94 (fun _ => [(mo, .inr (6, [.ref s, .int (iI st), .ref sv, .ref tx, .int (iI ty), .int (iI th), .ref fa, .ref ea, .ref go, .ref qu, .int (iI un), .int (iI om)])), (s, .inl (g_I (x_G X), 756, .inl (aI fs))), (ea, .inl (g_I (x_G X), 40, .inl (aI fe))), (tx, .inl (g_C (x_G X), 60, .inl (aI ff)))]) (Or.inl (fun _ => ⟨rfl, rfl⟩)) (fun u94 => [.int (iI u94), .int (iI u85)]) (fun _ => rfl) 0 0 ⟨rfl, rfl⟩ (fun u94 hu94 => ?_)
                have h94 : u94 = wc (sW (tA ff ty) a) sl := by (rw [hu94, hw, show v93.toNat = sl by omega]) <;> rfl
                have hr94 := wc_rng hw4 hsl
                refine k_icmp_eq C 102 (⟨by omega, by omega⟩) (⟨by omega, by omega⟩) dX7_reads_97 (by decide) (fun c97 => ?_) (fun c97 => ?_)
                · skip
                  obtain ⟨v102, e102⟩ : ∃ y : Int, y = p + 1 := ⟨_, rfl⟩
                  refine k_iinc C (lo' := [(2, .int (iI v102)), (6, .int (iI i)), (5, .int (iI 0)), (4, .int (iI u12)), (3, .int (iI u4)), (0, .ref mo), (1, .int (iI 0))]) 4 rfl dX7_reads_102 (by decide) v102 e102 rfl ?_
                  refine k_goto C 71 dX7_reads_105 (by decide) ?_
                  refine k_lo (lo' := [(6, .int (iI i)), (5, .int (iI 0)), (4, .int (iI u12)), (3, .int (iI u4)), (2, .int (iI v102)), (0, .ref mo), (1, .int (iI 0))]) [1, 2, 3, 4, 0, 5, 6] rfl ?_
                  exact ih71 (sl + 1) v102 (⟨by omega, by omega, csn_step j3 (by rw [← hu85, ← h94]; exact c97)⟩) (by omega)
                · skip
                  refine k_iload_n C 4 rfl dX7_reads_100 rfl ?_
                  exact k_iret C hR (u := p) rfl (by rw [← i5, fl_sp (by omega) hw4 j3 (by rw [← hu85, ← h94]; exact c97) hsl] <;> omega) rfl (Nat.le_of_ble_eq_true rfl) (Nat.le_of_ble_eq_true rfl) dX7_reads_101
          exact L71 _ 0 i (⟨by omega, Nat.zero_le _, rfl⟩) (Nat.lt_succ_self _)
        · exfalso; omega
  exact L2 _ 60 0 0 (⟨rfl, by omega, by omega, by omega, rfl⟩) (Nat.lt_succ_self _)
set_option maxHeartbeats 4000000 in
set_option maxRecDepth 100000 in
theorem c_X7_reads1 (l : Launch) (G : KG) (mo s sv tx fa ea go qu : Nat) (st ty th un om : Int) (n k m : Nat) (fs fe ff : Nat → Int) (hty : 0 ≤ ty ∧ ty ≤ 60) (hff : ∀ q : Nat, q < 60 → 0 ≤ ff q ∧ ff q ≤ 65535) (hE : ∀ i : Nat, i < 40 → fe i = (sp i : Int)) (hM : MS fs 0 n k m) (hfl0 : flt (tA ff ty) ty.toNat 60 0 = -1) : Ct l G yX7_reads wsX7_reads (rmD 2 0 0) [.ref mo, .int (iI 1)] [(mo, .inr (6, [.ref s, .int (iI st), .ref sv, .ref tx, .int (iI ty), .int (iI th), .ref fa, .ref ea, .ref go, .ref qu, .int (iI un), .int (iI om)])), (s, .inl (g_I G, 756, .inl (aI fs))), (ea, .inl (g_I G, 40, .inl (aI fe))), (tx, .inl (g_C G, 60, .inl (aI ff)))] (fun u : Int × (Nat → Int) × Int => u.1 = -1 ∧ MS u.2.1 0 (ldF (tA ff ty) ty.toNat 60 0 n k m).1 (ldF (tA ff ty) ty.toNat 60 0 n k m).2.1 (ldF (tA ff ty) ty.toNat 60 0 n k m).2.2.1 ∧ MO_ 0 fs u.2.1 ∧ u.2.2 = om + ((ldF (tA ff ty) ty.toNat 60 0 n k m).2.2.2 : Int)) (fun u : Int × (Nat → Int) × Int => some (.int (iI u.1))) (fun u : Int × (Nat → Int) × Int => [(mo, .inr (6, [.ref s, .int (iI st), .ref sv, .ref tx, .int (iI ty), .int (iI th), .ref fa, .ref ea, .ref go, .ref qu, .int (iI un), .int (iI u.2.2)])), (s, .inl (g_I G, 756, .inl (aI u.2.1))), (ea, .inl (g_I G, 40, .inl (aI fe))), (tx, .inl (g_C G, 60, .inl (aI ff)))]) := by
  refine Ct.of (cc := cX7_reads) (maxL := 9) (ret := (some .int)) (by decide +kernel) rfl (Nat.le_of_ble_eq_true rfl) ?_
  intro X C hG hL hnm hR
  subst hG
  subst hL
  have C : Cx X cX7_reads RX7 wsX7_reads (some .int) 9 (rmD 2 0 0) := C
  have hTr : ∀ q, 0 ≤ tA ff ty q ∧ tA ff ty q ≤ 65535 := fun q => by (by_cases e : (q : Int) < ty; (rw [tA_lt e]; exact hff q (by omega)); (rw [tA_ge (by omega)]; omega))
  show K_ X 0 0 [(mo, .inr (6, [.ref s, .int (iI st), .ref sv, .ref tx, .int (iI ty), .int (iI th), .ref fa, .ref ea, .ref go, .ref qu, .int (iI un), .int (iI om)])), (s, .inl (g_I (x_G X), 756, .inl (aI fs))), (ea, .inl (g_I (x_G X), 40, .inl (aI fe))), (tx, .inl (g_C (x_G X), 60, .inl (aI ff)))] 0 [(0, .ref mo), (1, .int (iI 1))] []
  refine k_iconst C dX7_reads_0 ?_
  refine k_istore_n C (lo' := [(2, .int (iI 0)), (0, .ref mo), (1, .int (iI 1))]) dX7_reads_1 rfl (by decide) rfl ?_
  have L2 : ∀ (nf : Nat) (f : Nat) (a : Nat) (nq : Nat) (kq : Nat) (mq : Nat) (sq : Nat) (i : Int) (om1 : Int) (s1 : Nat → Int), (i = (a : Int) ∧ a ≤ 60 ∧ f ≤ 60 ∧ 360 ≤ 6 * f + a ∧ flt (tA ff ty) ty.toNat f a = flt (tA ff ty) ty.toNat 60 0 ∧ MS s1 0 nq kq mq ∧ MO_ 0 fs s1 ∧ om1 = om + (sq : Int) ∧ LdM (tA ff ty) ty.toNat f a nq kq mq sq n k m) → f < nf → K_ X 0 0 [(mo, .inr (6, [.ref s, .int (iI st), .ref sv, .ref tx, .int (iI ty), .int (iI th), .ref fa, .ref ea, .ref go, .ref qu, .int (iI un), .int (iI om1)])), (s, .inl (g_I (x_G X), 756, .inl (aI s1))), (ea, .inl (g_I (x_G X), 40, .inl (aI fe))), (tx, .inl (g_C (x_G X), 60, .inl (aI ff)))] 2 [(2, .int (iI i)), (0, .ref mo), (1, .int (iI 1))] [] := by
    intro nf
    induction nf with
    | zero => intro f a nq kq mq sq i om1 s1 hI hm; exact absurd hm (Nat.not_lt_zero _)
    | succ nf ih2 =>
      intro f a nq kq mq sq i om1 s1 hI2 hm2
      obtain ⟨i1, i2, i3, i4, i5, i6, i7, i8, LD⟩ := hI2
      refine k_aload_n C 1 rfl dX7_reads_2 rfl ?_
      refine k_iload_n C 0 rfl dX7_reads_3 rfl ?_
      refine k_callV C (y := yX7_at) [.int (iI i)] 1 rfl (c_X7_at (x_l X) (x_G X) mo s sv tx fa ea go qu st ty th un om1 i ff (by omega) (by omega)) gX7_reads_X7_at rfl ⟨rfl, by decide +kernel, by decide +kernel, by decide +kernel⟩ ⟨by decide, by decide⟩ 0 (fs := [.ref s, .int (iI st), .ref sv, .ref tx, .int (iI ty), .int (iI th), .ref fa, .ref ea, .ref go, .ref qu, .int (iI un), .int (iI om1)]) rfl rfl rfl [0, 3] (by decide) (wc := [(mo, .inr (6, [.ref s, .int (iI st), .ref sv, .ref tx, .int (iI ty), .int (iI th), .ref fa, .ref ea, .ref go, .ref qu, .int (iI un), .int (iI om1)])), (tx, .inl (g_C (x_G X), 60, .inl (aI ff)))]) rfl [] rfl (Nat.le_of_ble_eq_true rfl) ⟨Nat.le_of_ble_eq_true rfl, Nat.le_of_ble_eq_true rfl⟩ dX7_reads_4 (fun _ => [(mo, .inr (6, [.ref s, .int (iI st), .ref sv, .ref tx, .int (iI ty), .int (iI th), .ref fa, .ref ea, .ref go, .ref qu, .int (iI un), .int (iI om1)])), (s, .inl (g_I (x_G X), 756, .inl (aI s1))), (ea, .inl (g_I (x_G X), 40, .inl (aI fe))), (tx, .inl (g_C (x_G X), 60, .inl (aI ff)))]) (Or.inl (fun _ => ⟨rfl, rfl⟩)) (fun u4 => [.int (iI u4)]) (fun _ => rfl) 0 0 ⟨rfl, rfl⟩ (fun u4 hu4 => ?_)
      rw [show i.toNat = a by omega] at hu4
      have hr4 := hTr a
      refine k_istore_n C (lo' := [(3, .int (iI u4)), (2, .int (iI i)), (0, .ref mo), (1, .int (iI 1))]) dX7_reads_7 rfl (by decide) rfl ?_
      refine k_aload_n C 2 rfl dX7_reads_8 rfl ?_
      refine k_iload_n C 1 rfl dX7_reads_9 rfl ?_
      refine k_iconst C dX7_reads_10 ?_
      refine k_iadd C dX7_reads_11 ?_
      refine k_nmI (fun v11 e11 => ?_)
      refine k_callV C (y := yX7_at) [.int (iI v11)] 1 rfl (c_X7_at (x_l X) (x_G X) mo s sv tx fa ea go qu st ty th un om1 v11 ff (by omega) (by omega)) gX7_reads_X7_at rfl ⟨rfl, by decide +kernel, by decide +kernel, by decide +kernel⟩ ⟨by decide, by decide⟩ 0 (fs := [.ref s, .int (iI st), .ref sv, .ref tx, .int (iI ty), .int (iI th), .ref fa, .ref ea, .ref go, .ref qu, .int (iI un), .int (iI om1)]) rfl rfl rfl [0, 3] (by decide) (wc := [(mo, .inr (6, [.ref s, .int (iI st), .ref sv, .ref tx, .int (iI ty), .int (iI th), .ref fa, .ref ea, .ref go, .ref qu, .int (iI un), .int (iI om1)])), (tx, .inl (g_C (x_G X), 60, .inl (aI ff)))]) rfl [] rfl (Nat.le_of_ble_eq_true rfl) ⟨Nat.le_of_ble_eq_true rfl, Nat.le_of_ble_eq_true rfl⟩ dX7_reads_12 (fun _ => [(mo, .inr (6, [.ref s, .int (iI st), .ref sv, .ref tx, .int (iI ty), .int (iI th), .ref fa, .ref ea, .ref go, .ref qu, .int (iI un), .int (iI om1)])), (s, .inl (g_I (x_G X), 756, .inl (aI s1))), (ea, .inl (g_I (x_G X), 40, .inl (aI fe))), (tx, .inl (g_C (x_G X), 60, .inl (aI ff)))]) (Or.inl (fun _ => ⟨rfl, rfl⟩)) (fun u12 => [.int (iI u12)]) (fun _ => rfl) 0 0 ⟨rfl, rfl⟩ (fun u12 hu12 => ?_)
      rw [show v11.toNat = a + 1 by omega] at hu12
      have hr12 := hTr (a + 1)
      refine k_istore C (lo' := [(4, .int (iI u12)), (3, .int (iI u4)), (2, .int (iI i)), (0, .ref mo), (1, .int (iI 1))]) dX7_reads_15 (by decide) rfl ?_
      refine k_iload_n C 1 rfl dX7_reads_17 rfl ?_
      refine k_bipush C dX7_reads_18 (by decide) ?_
      refine k_icmp_ne C 27 (⟨by omega, by omega⟩) (⟨by omega, by omega⟩) dX7_reads_20 (by decide) (fun c20 => ?_) (fun c20 => ?_)
      · skip
        refine k_iload_n C 1 rfl dX7_reads_27 rfl ?_
        refine k_bipush C dX7_reads_28 (by decide) ?_
        refine k_icmp_ne C 37 (⟨by omega, by omega⟩) (⟨by omega, by omega⟩) dX7_reads_30 (by decide) (fun c30 => ?_) (fun c30 => ?_)
        · skip
          refine k_iload_n C 1 rfl dX7_reads_37 rfl ?_
          refine k_bipush C dX7_reads_38 (by decide) ?_
          refine k_icmp_ne C 58 (⟨by omega, by omega⟩) (⟨by omega, by omega⟩) dX7_reads_40 (by decide) (fun c40 => ?_) (fun c40 => ?_)
          · skip
            have hw : sW (tA ff ty) a = 4 := sW_4 (by omega) (by omega) (by omega)
            refine k_iconst C dX7_reads_58 ?_
            refine k_istore C (lo' := [(5, .int (iI (-1))), (4, .int (iI u12)), (3, .int (iI u4)), (2, .int (iI i)), (0, .ref mo), (1, .int (iI 1))]) dX7_reads_59 (by decide) rfl ?_
            refine k_iload C 0 rfl dX7_reads_61 ?_
            refine k_if_ge C 68 (⟨by omega, by omega⟩) dX7_reads_63 (by decide) (fun c63 => ?_) (fun c63 => ?_)
            · exfalso; omega
            · skip
              refine k_iload_n C 3 rfl dX7_reads_66 rfl ?_
              exact k_iret C hR (u := (i, s1, om1)) rfl (by (try dsimp only) <;> exact (absurd LD.1 (by rw [fl_none (by omega) hw]; omega))) rfl (Nat.le_of_ble_eq_true rfl) (Nat.le_of_ble_eq_true rfl) dX7_reads_67
          · skip
            refine k_iload C 0 rfl dX7_reads_43 ?_
            refine k_bipush C dX7_reads_45 (by decide) ?_
            refine k_icmp_ne C 54 (⟨by omega, by omega⟩) (⟨by omega, by omega⟩) dX7_reads_47 (by decide) (fun c47 => ?_) (fun c47 => ?_)
            · skip
              have hw : sW (tA ff ty) a = 1 := sW_1 (by omega) (by omega) (by omega) (by omega)
              refine k_iconst C dX7_reads_54 ?_
              refine k_goto C 59 dX7_reads_55 (by decide) ?_
              refine k_istore C (lo' := [(5, .int (iI 1)), (4, .int (iI u12)), (3, .int (iI u4)), (2, .int (iI i)), (0, .ref mo), (1, .int (iI 1))]) dX7_reads_59 (by decide) rfl ?_
              refine k_iload C 0 rfl dX7_reads_61 ?_
              refine k_if_ge C 68 (⟨by omega, by omega⟩) dX7_reads_63 (by decide) (fun c63 => ?_) (fun c63 => ?_)
              · skip
                refine k_iload_n C 3 rfl dX7_reads_68 rfl ?_
                refine k_istore C (lo' := [(6, .int (iI i)), (5, .int (iI 1)), (4, .int (iI u12)), (3, .int (iI u4)), (2, .int (iI i)), (0, .ref mo), (1, .int (iI 1))]) dX7_reads_69 (by decide) rfl ?_
                have L71 : ∀ (nf : Nat) (sl : Nat) (p : Int), (p = ((a + sl : Nat) : Int) ∧ sl ≤ wl (sW (tA ff ty) a) ∧ csn (tA ff ty) a (sW (tA ff ty) a) sl = sl) → wl (sW (tA ff ty) a) - sl < nf → K_ X 0 0 [(mo, .inr (6, [.ref s, .int (iI st), .ref sv, .ref tx, .int (iI ty), .int (iI th), .ref fa, .ref ea, .ref go, .ref qu, .int (iI un), .int (iI om1)])), (s, .inl (g_I (x_G X), 756, .inl (aI s1))), (ea, .inl (g_I (x_G X), 40, .inl (aI fe))), (tx, .inl (g_C (x_G X), 60, .inl (aI ff)))] 71 [(6, .int (iI i)), (5, .int (iI 1)), (4, .int (iI u12)), (3, .int (iI u4)), (2, .int (iI p)), (0, .ref mo), (1, .int (iI 1))] [] := by
                  intro nf
                  induction nf with
                  | zero => intro sl p hI hm; exact absurd hm (Nat.not_lt_zero _)
                  | succ nf ih71 =>
                    intro sl p hI71 hm71
                    obtain ⟨j1, j2, j3⟩ := hI71
                    have hw4 : (sW (tA ff ty) a) < 4 := by omega
                    have hwl := wl_rng hw4
                    refine k_iload C 1 rfl dX7_reads_71 ?_
                    refine k_iload_n C 4 rfl dX7_reads_73 rfl ?_
                    refine k_iload C 0 rfl dX7_reads_74 ?_
                    refine k_isub C dX7_reads_76 ?_
                    refine k_nmI (fun v76 e76 => ?_)
                    refine k_callS C (y := yX7_letter) [.int (iI 1), .int (iI v76)] 2 rfl (c_X7_letter (x_l X) (x_G X) 1 v76 (by omega) (by omega)) gX7_reads_X7_letter rfl ⟨by decide +kernel, by decide +kernel, by decide +kernel⟩ ⟨by decide, by decide⟩ [] (by decide) (wc := []) rfl [] rfl (Nat.le_of_ble_eq_true rfl) ⟨Nat.le_of_ble_eq_true rfl, Nat.le_of_ble_eq_true rfl⟩ dX7_reads_77 (fun _ => [(mo, .inr (6, [.ref s, .int (iI st), .ref sv, .ref tx, .int (iI ty), .int (iI th), .ref fa, .ref ea, .ref go, .ref qu, .int (iI un), .int (iI om1)])), (s, .inl (g_I (x_G X), 756, .inl (aI s1))), (ea, .inl (g_I (x_G X), 40, .inl (aI fe))), (tx, .inl (g_C (x_G X), 60, .inl (aI ff)))]) (Or.inl (fun _ => ⟨rfl, rfl⟩)) (fun u77 => [.int (iI u77)]) (fun _ => rfl) 0 0 ⟨rfl, rfl⟩ (fun u77 hu77 => ?_)
                    have h77 : u77 = wc (sW (tA ff ty) a) sl := by (rw [hu77, hw, show v76.toNat = sl by omega]) <;> rfl
                    have hr77 : 0 ≤ u77 ∧ u77 ≤ 122 := by (by_cases e : sl < wl (sW (tA ff ty) a); (have := wc_rng hw4 e; omega); (rw [h77, show sl = wl (sW (tA ff ty) a) by omega, wc_e hw4]; omega))
                    refine k_if_eq C 108 (⟨by omega, by omega⟩) dX7_reads_80 (by decide) (fun c80 => ?_) (fun c80 => ?_)
                    · skip
                      have hsw : sl = wl (sW (tA ff ty) a) := wc_z hw4 j2 (by rw [← h77]; omega)
                      have hF := ful_of hw4 j3 hsw
                      refine k_iload C 1 rfl dX7_reads_108 ?_
                      refine k_if_ne C 117 (⟨by omega, by omega⟩) dX7_reads_110 (by decide) (fun c110 => ?_) (fun c110 => ?_)
                      · skip
                        refine k_iconst C dX7_reads_117 ?_
                        refine k_istore C (lo' := [(7, .int (iI 1)), (6, .int (iI i)), (5, .int (iI 1)), (4, .int (iI u12)), (3, .int (iI u4)), (2, .int (iI p)), (0, .ref mo), (1, .int (iI 1))]) dX7_reads_118 (by decide) rfl ?_
                        refine k_iload C 2 rfl dX7_reads_120 ?_
                        refine k_if_ne C 193 (⟨by omega, by omega⟩) dX7_reads_122 (by decide) (fun c122 => ?_) (fun c122 => ?_)
                        · skip
                          refine k_iload C 2 rfl dX7_reads_193 ?_
                          refine k_iconst C dX7_reads_195 ?_
                          refine k_icmp_ge C 227 (⟨by omega, by omega⟩) (⟨by omega, by omega⟩) dX7_reads_196 (by decide) (fun c196 => ?_) (fun c196 => ?_)
                          · exfalso; omega
                          · skip
                            refine k_aload_n C 6 rfl dX7_reads_199 rfl ?_
                            refine k_iload_n C 5 rfl dX7_reads_200 rfl ?_
                            refine k_callV C (y := yX7_at) [.int (iI p)] 1 rfl (c_X7_at (x_l X) (x_G X) mo s sv tx fa ea go qu st ty th un om1 p ff (by omega) (by omega)) gX7_reads_X7_at rfl ⟨rfl, by decide +kernel, by decide +kernel, by decide +kernel⟩ ⟨by decide, by decide⟩ 0 (fs := [.ref s, .int (iI st), .ref sv, .ref tx, .int (iI ty), .int (iI th), .ref fa, .ref ea, .ref go, .ref qu, .int (iI un), .int (iI om1)]) rfl rfl rfl [0, 3] (by decide) (wc := [(mo, .inr (6, [.ref s, .int (iI st), .ref sv, .ref tx, .int (iI ty), .int (iI th), .ref fa, .ref ea, .ref go, .ref qu, .int (iI un), .int (iI om1)])), (tx, .inl (g_C (x_G X), 60, .inl (aI ff)))]) rfl [] rfl (Nat.le_of_ble_eq_true rfl) ⟨Nat.le_of_ble_eq_true rfl, Nat.le_of_ble_eq_true rfl⟩ dX7_reads_201 (fun _ => [(mo, .inr (6, [.ref s, .int (iI st), .ref sv, .ref tx, .int (iI ty), .int (iI th), .ref fa, .ref ea, .ref go, .ref qu, .int (iI un), .int (iI om1)])), (s, .inl (g_I (x_G X), 756, .inl (aI s1))), (ea, .inl (g_I (x_G X), 40, .inl (aI fe))), (tx, .inl (g_C (x_G X), 60, .inl (aI ff)))]) (Or.inl (fun _ => ⟨rfl, rfl⟩)) (fun u201 => [.int (iI u201)]) (fun _ => rfl) 0 0 ⟨rfl, rfl⟩ (fun u201 hu201 => ?_)
                            rw [show p.toNat = a + sl by omega] at hu201
                            have hr201 := hTr (a + sl)
                            refine k_bipush C dX7_reads_204 (by decide) ?_
                            refine k_bipush C dX7_reads_206 (by decide) ?_
                            refine k_callS C (y := yX7_in) [.int (iI u201), .int (iI 50), .int (iI 57)] 3 rfl (c_X7_in (x_l X) (x_G X) u201 50 57 (by omega) (by omega) (by omega)) gX7_reads_X7_in rfl ⟨by decide +kernel, by decide +kernel, by decide +kernel⟩ ⟨by decide, by decide⟩ [] (by decide) (wc := []) rfl [] rfl (Nat.le_of_ble_eq_true rfl) ⟨Nat.le_of_ble_eq_true rfl, Nat.le_of_ble_eq_true rfl⟩ dX7_reads_208 (fun _ => [(mo, .inr (6, [.ref s, .int (iI st), .ref sv, .ref tx, .int (iI ty), .int (iI th), .ref fa, .ref ea, .ref go, .ref qu, .int (iI un), .int (iI om1)])), (s, .inl (g_I (x_G X), 756, .inl (aI s1))), (ea, .inl (g_I (x_G X), 40, .inl (aI fe))), (tx, .inl (g_C (x_G X), 60, .inl (aI ff)))]) (Or.inl (fun _ => ⟨rfl, rfl⟩)) (fun u208 => [.int (iI u208)]) (fun _ => rfl) 0 0 ⟨rfl, rfl⟩ (fun u208 hu208 => ?_)
                            refine k_if_eq C 227 (⟨by omega, by omega⟩) dX7_reads_211 (by decide) (fun c211 => ?_) (fun c211 => ?_)
                            · skip
                              have hu208 := bo_f hu208 c211
                              have hN := nm_n hF hsw (by omega) (by omega)
                              have hnn : ¬ ((0 : Int) = 0 ∧ wnn (sW (tA ff ty) a) = 1) := fun z => by have := z.2; rw [hw] at this; exact absurd this (by decide)
                              have hX := ob_X (T := (tA ff ty)) (a := a) (V := 0) (X := 1) (Or.inr ⟨by omega, rfl⟩)
                              have hPp : p = ((a + sl : Nat) : Int) := j1
                              try have hX := ob_X (T := (tA ff ty)) (a := a) (V := (tA ff ty) (a + sl) - 48) (X := v221) (Or.inl (by omega))
                              try have hPp : v224 = ((a + sl + 1 : Nat) : Int) := by omega
                              refine k_iload_n C 7 rfl dX7_reads_227 rfl ?_
                              refine k_if_eq C 239 (⟨by omega, by omega⟩) dX7_reads_228 (by decide) (fun c228 => ?_) (fun c228 => ?_)
                              · exfalso; omega
                              · skip
                                refine k_aload_n C 6 rfl dX7_reads_231 rfl ?_
                                refine k_iload C 2 rfl dX7_reads_232 ?_
                                refine k_iload C 0 rfl dX7_reads_234 ?_
                                refine k_callV C (y := yX7_does) [.int (iI 1), .int (iI 1)] 2 rfl (c_X7_does (x_l X) (x_G X) mo s sv tx fa ea go qu st ty th un om1 nq kq mq 1 1 s1 fe (by omega) (by omega) (i6) (hE)) gX7_reads_X7_does rfl ⟨rfl, by decide +kernel, by decide +kernel, by decide +kernel⟩ ⟨by decide, by decide⟩ 0 (fs := [.ref s, .int (iI st), .ref sv, .ref tx, .int (iI ty), .int (iI th), .ref fa, .ref ea, .ref go, .ref qu, .int (iI un), .int (iI om1)]) rfl rfl rfl [0, 1, 2] (by decide) (wc := [(mo, .inr (6, [.ref s, .int (iI st), .ref sv, .ref tx, .int (iI ty), .int (iI th), .ref fa, .ref ea, .ref go, .ref qu, .int (iI un), .int (iI om1)])), (s, .inl (g_I (x_G X), 756, .inl (aI s1))), (ea, .inl (g_I (x_G X), 40, .inl (aI fe)))]) rfl [] rfl (Nat.le_of_ble_eq_true rfl) ⟨Nat.le_of_ble_eq_true rfl, Nat.le_of_ble_eq_true rfl⟩ dX7_reads_236 (fun u236 => [(mo, .inr (6, [.ref s, .int (iI st), .ref sv, .ref tx, .int (iI ty), .int (iI th), .ref fa, .ref ea, .ref go, .ref qu, .int (iI un), .int (iI u236.2)])), (s, .inl (g_I (x_G X), 756, .inl (aI u236.1))), (ea, .inl (g_I (x_G X), 40, .inl (aI fe))), (tx, .inl (g_C (x_G X), 60, .inl (aI ff)))]) (Or.inr ⟨[3], [1, 2, 3, 0], [(tx, .inl (g_C (x_G X), 60, .inl (aI ff)))], rfl, by decide, by decide, by decide, fun _ => rfl⟩) (fun u236 => []) (fun _ => rfl) 0 0 ⟨rfl, rfl⟩ (fun u236 hu236 => ?_)
                                refine k_iload_n C 5 rfl dX7_reads_239 rfl ?_
                                refine k_aload_n C 6 rfl dX7_reads_240 rfl ?_
                                refine k_get C (Cn := RX7) (T := TX7) (N := 12) (ci := 6) (ref := "StruckCountsModel") in_X7_reads_X7 0 rfl rfl 4 (by decide) 1 rfl rfl (v := .int (iI ty)) rfl dX7_reads_241 ?_
                                refine k_icmp_lt C 249 (⟨by omega, by omega⟩) (⟨by omega, by omega⟩) dX7_reads_244 (by decide) (fun c244 => ?_) (fun c244 => ?_)
                                · skip
                                  refine k_aload_n C 6 rfl dX7_reads_249 rfl ?_
                                  refine k_iload_n C 5 rfl dX7_reads_250 rfl ?_
                                  refine k_callV C (y := yX7_at) [.int (iI p)] 1 rfl (c_X7_at (x_l X) (x_G X) mo s sv tx fa ea go qu st ty th un u236.2 p ff (by omega) (by omega)) gX7_reads_X7_at rfl ⟨rfl, by decide +kernel, by decide +kernel, by decide +kernel⟩ ⟨by decide, by decide⟩ 0 (fs := [.ref s, .int (iI st), .ref sv, .ref tx, .int (iI ty), .int (iI th), .ref fa, .ref ea, .ref go, .ref qu, .int (iI un), .int (iI u236.2)]) rfl rfl rfl [0, 3] (by decide) (wc := [(mo, .inr (6, [.ref s, .int (iI st), .ref sv, .ref tx, .int (iI ty), .int (iI th), .ref fa, .ref ea, .ref go, .ref qu, .int (iI un), .int (iI u236.2)])), (tx, .inl (g_C (x_G X), 60, .inl (aI ff)))]) rfl [] rfl (Nat.le_of_ble_eq_true rfl) ⟨Nat.le_of_ble_eq_true rfl, Nat.le_of_ble_eq_true rfl⟩ dX7_reads_251 (fun _ => [(mo, .inr (6, [.ref s, .int (iI st), .ref sv, .ref tx, .int (iI ty), .int (iI th), .ref fa, .ref ea, .ref go, .ref qu, .int (iI un), .int (iI u236.2)])), (s, .inl (g_I (x_G X), 756, .inl (aI u236.1))), (ea, .inl (g_I (x_G X), 40, .inl (aI fe))), (tx, .inl (g_C (x_G X), 60, .inl (aI ff)))]) (Or.inl (fun _ => ⟨rfl, rfl⟩)) (fun u251 => [.int (iI u251)]) (fun _ => rfl) 0 0 ⟨rfl, rfl⟩ (fun u251 hu251 => ?_)
                                  rw [show _ = _ from congrArg Int.toNat hPp, Int.toNat_natCast] at hu251
                                  have hr251 : 0 ≤ u251 ∧ u251 ≤ 65535 := by rw [hu251]; exact hTr _
                                  refine k_bipush C dX7_reads_254 (by decide) ?_
                                  refine k_icmp_eq C 261 (⟨by omega, by omega⟩) (⟨by omega, by omega⟩) dX7_reads_256 (by decide) (fun c256 => ?_) (fun c256 => ?_)
                                  · skip
                                    have h44 := hu251.symm.trans c256
                                    obtain ⟨v261, e261⟩ : ∃ y : Int, y = p + 1 := ⟨_, rfl⟩
                                    refine k_iinc C (lo' := [(2, .int (iI v261)), (7, .int (iI 1)), (6, .int (iI i)), (5, .int (iI 1)), (4, .int (iI u12)), (3, .int (iI u4)), (0, .ref mo), (1, .int (iI 1))]) 5 rfl dX7_reads_261 (by decide) v261 e261 rfl ?_
                                    have hPI := pi_nx e261 hPp
                                    refine k_goto C 2 dX7_reads_264 (by decide) ?_
                                    refine k_lo (lo' := [(2, .int (iI v261)), (0, .ref mo), (1, .int (iI 1))]) [0, 6, 7] rfl ?_
                                    exact ih2 (f - 1) _ _ _ _ _ v261 u236.2 u236.1 (⟨hPI, by omega, by omega, by omega, by rw [← (fl_nx (L := ty.toNat) (f := f) (by omega) hF hN hnn (by omega) h44).2]; exact i5, hu236.1, MO_t i7 hu236.2.1, (LdM_nx LD (by omega) hF hN hnn (by omega) h44 hX hw i8 hu236).2, (LdM_nx LD (by omega) hF hN hnn (by omega) h44 hX hw i8 hu236).1⟩) (by omega)
                                  · skip
                                    refine k_iload_n C 5 rfl dX7_reads_259 rfl ?_
                                    exact k_iret C hR (u := (p, u236.1, u236.2)) rfl (by (try dsimp only) <;> exact (absurd LD.1 (by rw [fl_ft (by omega) hF hN hnn (by omega) (fun z => c256 (hu251.trans z))]; omega))) rfl (Nat.le_of_ble_eq_true rfl) (Nat.le_of_ble_eq_true rfl) dX7_reads_260
                                · skip
                                  refine k_iconst C dX7_reads_247 ?_
                                  exact k_iret C hR (u := ((-1), u236.1, u236.2)) rfl (by (try dsimp only) <;> exact (⟨rfl, LdM_end LD (by omega) hF hN hnn (by omega) hX hw i7 i8 hu236⟩)) rfl (Nat.le_of_ble_eq_true rfl) (Nat.le_of_ble_eq_true rfl) dX7_reads_248
                            · skip
                              have hu208 := bo_t hu208 c211
                              have hN := nm_y hF hsw (by omega) (by omega)
                              have hnn : ¬ (((tA ff ty) (a + sl) - 48) = 0 ∧ wnn (sW (tA ff ty) a) = 1) := fun z => by omega
                              refine k_aload_n C 6 rfl dX7_reads_214 rfl ?_
                              refine k_iload_n C 5 rfl dX7_reads_215 rfl ?_
                              refine k_callV C (y := yX7_at) [.int (iI p)] 1 rfl (c_X7_at (x_l X) (x_G X) mo s sv tx fa ea go qu st ty th un om1 p ff (by omega) (by omega)) gX7_reads_X7_at rfl ⟨rfl, by decide +kernel, by decide +kernel, by decide +kernel⟩ ⟨by decide, by decide⟩ 0 (fs := [.ref s, .int (iI st), .ref sv, .ref tx, .int (iI ty), .int (iI th), .ref fa, .ref ea, .ref go, .ref qu, .int (iI un), .int (iI om1)]) rfl rfl rfl [0, 3] (by decide) (wc := [(mo, .inr (6, [.ref s, .int (iI st), .ref sv, .ref tx, .int (iI ty), .int (iI th), .ref fa, .ref ea, .ref go, .ref qu, .int (iI un), .int (iI om1)])), (tx, .inl (g_C (x_G X), 60, .inl (aI ff)))]) rfl [] rfl (Nat.le_of_ble_eq_true rfl) ⟨Nat.le_of_ble_eq_true rfl, Nat.le_of_ble_eq_true rfl⟩ dX7_reads_216 (fun _ => [(mo, .inr (6, [.ref s, .int (iI st), .ref sv, .ref tx, .int (iI ty), .int (iI th), .ref fa, .ref ea, .ref go, .ref qu, .int (iI un), .int (iI om1)])), (s, .inl (g_I (x_G X), 756, .inl (aI s1))), (ea, .inl (g_I (x_G X), 40, .inl (aI fe))), (tx, .inl (g_C (x_G X), 60, .inl (aI ff)))]) (Or.inl (fun _ => ⟨rfl, rfl⟩)) (fun u216 => [.int (iI u216)]) (fun _ => rfl) 0 0 ⟨rfl, rfl⟩ (fun u216 hu216 => ?_)
                              rw [show p.toNat = a + sl by omega] at hu216
                              refine k_bipush C dX7_reads_219 (by decide) ?_
                              refine k_isub C dX7_reads_221 ?_
                              refine k_nmI (fun v221 e221 => ?_)
                              refine k_istore C (lo' := [(7, .int (iI v221)), (6, .int (iI i)), (5, .int (iI 1)), (4, .int (iI u12)), (3, .int (iI u4)), (2, .int (iI p)), (0, .ref mo), (1, .int (iI 1))]) dX7_reads_222 (by decide) rfl ?_
                              obtain ⟨v224, e224⟩ : ∃ y : Int, y = p + 1 := ⟨_, rfl⟩
                              refine k_iinc C (lo' := [(2, .int (iI v224)), (7, .int (iI v221)), (6, .int (iI i)), (5, .int (iI 1)), (4, .int (iI u12)), (3, .int (iI u4)), (0, .ref mo), (1, .int (iI 1))]) 5 rfl dX7_reads_224 (by decide) v224 e224 rfl ?_
                              try have hX := ob_X (T := (tA ff ty)) (a := a) (V := (tA ff ty) (a + sl) - 48) (X := v221) (Or.inl (by omega))
                              try have hPp : v224 = ((a + sl + 1 : Nat) : Int) := by omega
                              refine k_iload_n C 7 rfl dX7_reads_227 rfl ?_
                              refine k_if_eq C 239 (⟨by omega, by omega⟩) dX7_reads_228 (by decide) (fun c228 => ?_) (fun c228 => ?_)
                              · exfalso; omega
                              · skip
                                refine k_aload_n C 6 rfl dX7_reads_231 rfl ?_
                                refine k_iload C 3 rfl dX7_reads_232 ?_
                                refine k_iload C 1 rfl dX7_reads_234 ?_
                                refine k_callV C (y := yX7_does) [.int (iI 1), .int (iI v221)] 2 rfl (c_X7_does (x_l X) (x_G X) mo s sv tx fa ea go qu st ty th un om1 nq kq mq 1 v221 s1 fe (by omega) (by omega) (i6) (hE)) gX7_reads_X7_does rfl ⟨rfl, by decide +kernel, by decide +kernel, by decide +kernel⟩ ⟨by decide, by decide⟩ 0 (fs := [.ref s, .int (iI st), .ref sv, .ref tx, .int (iI ty), .int (iI th), .ref fa, .ref ea, .ref go, .ref qu, .int (iI un), .int (iI om1)]) rfl rfl rfl [0, 1, 2] (by decide) (wc := [(mo, .inr (6, [.ref s, .int (iI st), .ref sv, .ref tx, .int (iI ty), .int (iI th), .ref fa, .ref ea, .ref go, .ref qu, .int (iI un), .int (iI om1)])), (s, .inl (g_I (x_G X), 756, .inl (aI s1))), (ea, .inl (g_I (x_G X), 40, .inl (aI fe)))]) rfl [] rfl (Nat.le_of_ble_eq_true rfl) ⟨Nat.le_of_ble_eq_true rfl, Nat.le_of_ble_eq_true rfl⟩ dX7_reads_236 (fun u236 => [(mo, .inr (6, [.ref s, .int (iI st), .ref sv, .ref tx, .int (iI ty), .int (iI th), .ref fa, .ref ea, .ref go, .ref qu, .int (iI un), .int (iI u236.2)])), (s, .inl (g_I (x_G X), 756, .inl (aI u236.1))), (ea, .inl (g_I (x_G X), 40, .inl (aI fe))), (tx, .inl (g_C (x_G X), 60, .inl (aI ff)))]) (Or.inr ⟨[3], [1, 2, 3, 0], [(tx, .inl (g_C (x_G X), 60, .inl (aI ff)))], rfl, by decide, by decide, by decide, fun _ => rfl⟩) (fun u236 => []) (fun _ => rfl) 0 0 ⟨rfl, rfl⟩ (fun u236 hu236 => ?_)
                                refine k_iload_n C 0 rfl dX7_reads_239 rfl ?_
                                refine k_aload_n C 6 rfl dX7_reads_240 rfl ?_
                                refine k_get C (Cn := RX7) (T := TX7) (N := 12) (ci := 6) (ref := "StruckCountsModel") in_X7_reads_X7 0 rfl rfl 4 (by decide) 1 rfl rfl (v := .int (iI ty)) rfl dX7_reads_241 ?_
                                refine k_icmp_lt C 249 (⟨by omega, by omega⟩) (⟨by omega, by omega⟩) dX7_reads_244 (by decide) (fun c244 => ?_) (fun c244 => ?_)
                                · skip
                                  refine k_aload_n C 6 rfl dX7_reads_249 rfl ?_
                                  refine k_iload_n C 0 rfl dX7_reads_250 rfl ?_
                                  refine k_callV C (y := yX7_at) [.int (iI v224)] 1 rfl (c_X7_at (x_l X) (x_G X) mo s sv tx fa ea go qu st ty th un u236.2 v224 ff (by omega) (by omega)) gX7_reads_X7_at rfl ⟨rfl, by decide +kernel, by decide +kernel, by decide +kernel⟩ ⟨by decide, by decide⟩ 0 (fs := [.ref s, .int (iI st), .ref sv, .ref tx, .int (iI ty), .int (iI th), .ref fa, .ref ea, .ref go, .ref qu, .int (iI un), .int (iI u236.2)]) rfl rfl rfl [0, 3] (by decide) (wc := [(mo, .inr (6, [.ref s, .int (iI st), .ref sv, .ref tx, .int (iI ty), .int (iI th), .ref fa, .ref ea, .ref go, .ref qu, .int (iI un), .int (iI u236.2)])), (tx, .inl (g_C (x_G X), 60, .inl (aI ff)))]) rfl [] rfl (Nat.le_of_ble_eq_true rfl) ⟨Nat.le_of_ble_eq_true rfl, Nat.le_of_ble_eq_true rfl⟩ dX7_reads_251 (fun _ => [(mo, .inr (6, [.ref s, .int (iI st), .ref sv, .ref tx, .int (iI ty), .int (iI th), .ref fa, .ref ea, .ref go, .ref qu, .int (iI un), .int (iI u236.2)])), (s, .inl (g_I (x_G X), 756, .inl (aI u236.1))), (ea, .inl (g_I (x_G X), 40, .inl (aI fe))), (tx, .inl (g_C (x_G X), 60, .inl (aI ff)))]) (Or.inl (fun _ => ⟨rfl, rfl⟩)) (fun u251 => [.int (iI u251)]) (fun _ => rfl) 0 0 ⟨rfl, rfl⟩ (fun u251 hu251 => ?_)
                                  rw [show _ = _ from congrArg Int.toNat hPp, Int.toNat_natCast] at hu251
                                  have hr251 : 0 ≤ u251 ∧ u251 ≤ 65535 := by rw [hu251]; exact hTr _
                                  refine k_bipush C dX7_reads_254 (by decide) ?_
                                  refine k_icmp_eq C 261 (⟨by omega, by omega⟩) (⟨by omega, by omega⟩) dX7_reads_256 (by decide) (fun c256 => ?_) (fun c256 => ?_)
                                  · skip
                                    have h44 := hu251.symm.trans c256
                                    obtain ⟨v261, e261⟩ : ∃ y : Int, y = v224 + 1 := ⟨_, rfl⟩
                                    refine k_iinc C (lo' := [(2, .int (iI v261)), (7, .int (iI v221)), (6, .int (iI i)), (5, .int (iI 1)), (4, .int (iI u12)), (3, .int (iI u4)), (0, .ref mo), (1, .int (iI 1))]) 0 rfl dX7_reads_261 (by decide) v261 e261 rfl ?_
                                    have hPI := pi_nx e261 hPp
                                    refine k_goto C 2 dX7_reads_264 (by decide) ?_
                                    refine k_lo (lo' := [(2, .int (iI v261)), (0, .ref mo), (1, .int (iI 1))]) [0, 6, 7] rfl ?_
                                    exact ih2 (f - 1) _ _ _ _ _ v261 u236.2 u236.1 (⟨hPI, by omega, by omega, by omega, by rw [← (fl_nx (L := ty.toNat) (f := f) (by omega) hF hN hnn (by omega) h44).2]; exact i5, hu236.1, MO_t i7 hu236.2.1, (LdM_nx LD (by omega) hF hN hnn (by omega) h44 hX hw i8 hu236).2, (LdM_nx LD (by omega) hF hN hnn (by omega) h44 hX hw i8 hu236).1⟩) (by omega)
                                  · skip
                                    refine k_iload_n C 0 rfl dX7_reads_259 rfl ?_
                                    exact k_iret C hR (u := (v224, u236.1, u236.2)) rfl (by (try dsimp only) <;> exact (absurd LD.1 (by rw [fl_ft (by omega) hF hN hnn (by omega) (fun z => c256 (hu251.trans z))]; omega))) rfl (Nat.le_of_ble_eq_true rfl) (Nat.le_of_ble_eq_true rfl) dX7_reads_260
                                · skip
                                  refine k_iconst C dX7_reads_247 ?_
                                  exact k_iret C hR (u := ((-1), u236.1, u236.2)) rfl (by (try dsimp only) <;> exact (⟨rfl, LdM_end LD (by omega) hF hN hnn (by omega) hX hw i7 i8 hu236⟩)) rfl (Nat.le_of_ble_eq_true rfl) (Nat.le_of_ble_eq_true rfl) dX7_reads_248
                        · exfalso; omega
                      · exfalso; omega
                    · skip
                      have hsl : sl < wl (sW (tA ff ty) a) := wc_w hw4 j2 (by rw [← h77]; omega)
                      refine k_aload_n C 5 rfl dX7_reads_83 rfl ?_
                      refine k_iload_n C 4 rfl dX7_reads_84 rfl ?_
                      refine k_callV C (y := yX7_at) [.int (iI p)] 1 rfl (c_X7_at (x_l X) (x_G X) mo s sv tx fa ea go qu st ty th un om1 p ff (by omega) (by omega)) gX7_reads_X7_at rfl ⟨rfl, by decide +kernel, by decide +kernel, by decide +kernel⟩ ⟨by decide, by decide⟩ 0 (fs := [.ref s, .int (iI st), .ref sv, .ref tx, .int (iI ty), .int (iI th), .ref fa, .ref ea, .ref go, .ref qu, .int (iI un), .int (iI om1)]) rfl rfl rfl [0, 3] (by decide) (wc := [(mo, .inr (6, [.ref s, .int (iI st), .ref sv, .ref tx, .int (iI ty), .int (iI th), .ref fa, .ref ea, .ref go, .ref qu, .int (iI un), .int (iI om1)])), (tx, .inl (g_C (x_G X), 60, .inl (aI ff)))]) rfl [] rfl (Nat.le_of_ble_eq_true rfl) ⟨Nat.le_of_ble_eq_true rfl, Nat.le_of_ble_eq_true rfl⟩ dX7_reads_85 (fun _ => [(mo, .inr (6, [.ref s, .int (iI st), .ref sv, .ref tx, .int (iI ty), .int (iI th), .ref fa, .ref ea, .ref go, .ref qu, .int (iI un), .int (iI om1)])), (s, .inl (g_I (x_G X), 756, .inl (aI s1))), (ea, .inl (g_I (x_G X), 40, .inl (aI fe))), (tx, .inl (g_C (x_G X), 60, .inl (aI ff)))]) (Or.inl (fun _ => ⟨rfl, rfl⟩)) (fun u85 => [.int (iI u85)]) (fun _ => rfl) 0 0 ⟨rfl, rfl⟩ (fun u85 hu85 => ?_)
                      rw [show p.toNat = a + sl by omega] at hu85
                      have hr85 := hTr (a + sl)
                      refine k_iload C 1 rfl dX7_reads_88 ?_
                      refine k_iload_n C 4 rfl dX7_reads_90 rfl ?_
                      refine k_iload C 0 rfl dX7_reads_91 ?_
                      refine k_isub C dX7_reads_93 ?_
                      refine k_nmI (fun v93 e93 => ?_)
                      refine k_callS C (y := yX7_letter) [.int (iI 1), .int (iI v93)] 2 rfl (c_X7_letter (x_l X) (x_G X) 1 v93 (by omega) (by omega)) gX7_reads_X7_letter rfl ⟨by decide +kernel, by decide +kernel, by decide +kernel⟩ ⟨by decide, by decide⟩ [] (by decide) (wc := []) rfl [.int (iI u85)] rfl (Nat.le_of_ble_eq_true rfl) ⟨Nat.le_of_ble_eq_true rfl, Nat.le_of_ble_eq_true rfl⟩ dX7_reads_94 (fun _ => [(mo, .inr (6, [.ref s, .int (iI st), .ref sv, .ref tx, .int (iI ty), .int (iI th), .ref fa, .ref ea, .ref go, .ref qu, .int (iI un), .int (iI om1)])), (s, .inl (g_I (x_G X), 756, .inl (aI s1))), (ea, .inl (g_I (x_G X), 40, .inl (aI fe))), (tx, .inl (g_C (x_G X), 60, .inl (aI ff)))]) (Or.inl (fun _ => ⟨rfl, rfl⟩)) (fun u94 => [.int (iI u94), .int (iI u85)]) (fun _ => rfl) 0 0 ⟨rfl, rfl⟩ (fun u94 hu94 => ?_)
                      have h94 : u94 = wc (sW (tA ff ty) a) sl := by (rw [hu94, hw, show v93.toNat = sl by omega]) <;> rfl
                      have hr94 := wc_rng hw4 hsl
                      refine k_icmp_eq C 102 (⟨by omega, by omega⟩) (⟨by omega, by omega⟩) dX7_reads_97 (by decide) (fun c97 => ?_) (fun c97 => ?_)
                      · skip
                        obtain ⟨v102, e102⟩ : ∃ y : Int, y = p + 1 := ⟨_, rfl⟩
                        refine k_iinc C (lo' := [(2, .int (iI v102)), (6, .int (iI i)), (5, .int (iI 1)), (4, .int (iI u12)), (3, .int (iI u4)), (0, .ref mo), (1, .int (iI 1))]) 4 rfl dX7_reads_102 (by decide) v102 e102 rfl ?_
                        refine k_goto C 71 dX7_reads_105 (by decide) ?_
                        refine k_lo (lo' := [(6, .int (iI i)), (5, .int (iI 1)), (4, .int (iI u12)), (3, .int (iI u4)), (2, .int (iI v102)), (0, .ref mo), (1, .int (iI 1))]) [1, 2, 3, 4, 0, 5, 6] rfl ?_
                        exact ih71 (sl + 1) v102 (⟨by omega, by omega, csn_step j3 (by rw [← hu85, ← h94]; exact c97)⟩) (by omega)
                      · skip
                        refine k_iload_n C 4 rfl dX7_reads_100 rfl ?_
                        exact k_iret C hR (u := (p, s1, om1)) rfl (by (try dsimp only) <;> exact (absurd LD.1 (by rw [fl_sp (by omega) hw4 j3 (by rw [← hu85, ← h94]; exact c97) hsl]; omega))) rfl (Nat.le_of_ble_eq_true rfl) (Nat.le_of_ble_eq_true rfl) dX7_reads_101
                exact L71 _ 0 i (⟨by omega, Nat.zero_le _, rfl⟩) (Nat.lt_succ_self _)
              · exfalso; omega
            · skip
              have hw : sW (tA ff ty) a = 2 := sW_2 (by omega) (by omega) (by omega) (by omega)
              refine k_iconst C dX7_reads_50 ?_
              refine k_goto C 59 dX7_reads_51 (by decide) ?_
              refine k_istore C (lo' := [(5, .int (iI 2)), (4, .int (iI u12)), (3, .int (iI u4)), (2, .int (iI i)), (0, .ref mo), (1, .int (iI 1))]) dX7_reads_59 (by decide) rfl ?_
              refine k_iload C 0 rfl dX7_reads_61 ?_
              refine k_if_ge C 68 (⟨by omega, by omega⟩) dX7_reads_63 (by decide) (fun c63 => ?_) (fun c63 => ?_)
              · skip
                refine k_iload_n C 3 rfl dX7_reads_68 rfl ?_
                refine k_istore C (lo' := [(6, .int (iI i)), (5, .int (iI 2)), (4, .int (iI u12)), (3, .int (iI u4)), (2, .int (iI i)), (0, .ref mo), (1, .int (iI 1))]) dX7_reads_69 (by decide) rfl ?_
                have L71 : ∀ (nf : Nat) (sl : Nat) (p : Int), (p = ((a + sl : Nat) : Int) ∧ sl ≤ wl (sW (tA ff ty) a) ∧ csn (tA ff ty) a (sW (tA ff ty) a) sl = sl) → wl (sW (tA ff ty) a) - sl < nf → K_ X 0 0 [(mo, .inr (6, [.ref s, .int (iI st), .ref sv, .ref tx, .int (iI ty), .int (iI th), .ref fa, .ref ea, .ref go, .ref qu, .int (iI un), .int (iI om1)])), (s, .inl (g_I (x_G X), 756, .inl (aI s1))), (ea, .inl (g_I (x_G X), 40, .inl (aI fe))), (tx, .inl (g_C (x_G X), 60, .inl (aI ff)))] 71 [(6, .int (iI i)), (5, .int (iI 2)), (4, .int (iI u12)), (3, .int (iI u4)), (2, .int (iI p)), (0, .ref mo), (1, .int (iI 1))] [] := by
                  intro nf
                  induction nf with
                  | zero => intro sl p hI hm; exact absurd hm (Nat.not_lt_zero _)
                  | succ nf ih71 =>
                    intro sl p hI71 hm71
                    obtain ⟨j1, j2, j3⟩ := hI71
                    have hw4 : (sW (tA ff ty) a) < 4 := by omega
                    have hwl := wl_rng hw4
                    refine k_iload C 1 rfl dX7_reads_71 ?_
                    refine k_iload_n C 4 rfl dX7_reads_73 rfl ?_
                    refine k_iload C 0 rfl dX7_reads_74 ?_
                    refine k_isub C dX7_reads_76 ?_
                    refine k_nmI (fun v76 e76 => ?_)
                    refine k_callS C (y := yX7_letter) [.int (iI 2), .int (iI v76)] 2 rfl (c_X7_letter (x_l X) (x_G X) 2 v76 (by omega) (by omega)) gX7_reads_X7_letter rfl ⟨by decide +kernel, by decide +kernel, by decide +kernel⟩ ⟨by decide, by decide⟩ [] (by decide) (wc := []) rfl [] rfl (Nat.le_of_ble_eq_true rfl) ⟨Nat.le_of_ble_eq_true rfl, Nat.le_of_ble_eq_true rfl⟩ dX7_reads_77 (fun _ => [(mo, .inr (6, [.ref s, .int (iI st), .ref sv, .ref tx, .int (iI ty), .int (iI th), .ref fa, .ref ea, .ref go, .ref qu, .int (iI un), .int (iI om1)])), (s, .inl (g_I (x_G X), 756, .inl (aI s1))), (ea, .inl (g_I (x_G X), 40, .inl (aI fe))), (tx, .inl (g_C (x_G X), 60, .inl (aI ff)))]) (Or.inl (fun _ => ⟨rfl, rfl⟩)) (fun u77 => [.int (iI u77)]) (fun _ => rfl) 0 0 ⟨rfl, rfl⟩ (fun u77 hu77 => ?_)
                    have h77 : u77 = wc (sW (tA ff ty) a) sl := by (rw [hu77, hw, show v76.toNat = sl by omega]) <;> rfl
                    have hr77 : 0 ≤ u77 ∧ u77 ≤ 122 := by (by_cases e : sl < wl (sW (tA ff ty) a); (have := wc_rng hw4 e; omega); (rw [h77, show sl = wl (sW (tA ff ty) a) by omega, wc_e hw4]; omega))
                    refine k_if_eq C 108 (⟨by omega, by omega⟩) dX7_reads_80 (by decide) (fun c80 => ?_) (fun c80 => ?_)
                    · skip
                      have hsw : sl = wl (sW (tA ff ty) a) := wc_z hw4 j2 (by rw [← h77]; omega)
                      have hF := ful_of hw4 j3 hsw
                      refine k_iload C 1 rfl dX7_reads_108 ?_
                      refine k_if_ne C 117 (⟨by omega, by omega⟩) dX7_reads_110 (by decide) (fun c110 => ?_) (fun c110 => ?_)
                      · skip
                        refine k_iconst C dX7_reads_117 ?_
                        refine k_istore C (lo' := [(7, .int (iI 1)), (6, .int (iI i)), (5, .int (iI 2)), (4, .int (iI u12)), (3, .int (iI u4)), (2, .int (iI p)), (0, .ref mo), (1, .int (iI 1))]) dX7_reads_118 (by decide) rfl ?_
                        refine k_iload C 2 rfl dX7_reads_120 ?_
                        refine k_if_ne C 193 (⟨by omega, by omega⟩) dX7_reads_122 (by decide) (fun c122 => ?_) (fun c122 => ?_)
                        · skip
                          refine k_iload C 2 rfl dX7_reads_193 ?_
                          refine k_iconst C dX7_reads_195 ?_
                          refine k_icmp_ge C 227 (⟨by omega, by omega⟩) (⟨by omega, by omega⟩) dX7_reads_196 (by decide) (fun c196 => ?_) (fun c196 => ?_)
                          · exfalso; omega
                          · skip
                            refine k_aload_n C 6 rfl dX7_reads_199 rfl ?_
                            refine k_iload_n C 5 rfl dX7_reads_200 rfl ?_
                            refine k_callV C (y := yX7_at) [.int (iI p)] 1 rfl (c_X7_at (x_l X) (x_G X) mo s sv tx fa ea go qu st ty th un om1 p ff (by omega) (by omega)) gX7_reads_X7_at rfl ⟨rfl, by decide +kernel, by decide +kernel, by decide +kernel⟩ ⟨by decide, by decide⟩ 0 (fs := [.ref s, .int (iI st), .ref sv, .ref tx, .int (iI ty), .int (iI th), .ref fa, .ref ea, .ref go, .ref qu, .int (iI un), .int (iI om1)]) rfl rfl rfl [0, 3] (by decide) (wc := [(mo, .inr (6, [.ref s, .int (iI st), .ref sv, .ref tx, .int (iI ty), .int (iI th), .ref fa, .ref ea, .ref go, .ref qu, .int (iI un), .int (iI om1)])), (tx, .inl (g_C (x_G X), 60, .inl (aI ff)))]) rfl [] rfl (Nat.le_of_ble_eq_true rfl) ⟨Nat.le_of_ble_eq_true rfl, Nat.le_of_ble_eq_true rfl⟩ dX7_reads_201 (fun _ => [(mo, .inr (6, [.ref s, .int (iI st), .ref sv, .ref tx, .int (iI ty), .int (iI th), .ref fa, .ref ea, .ref go, .ref qu, .int (iI un), .int (iI om1)])), (s, .inl (g_I (x_G X), 756, .inl (aI s1))), (ea, .inl (g_I (x_G X), 40, .inl (aI fe))), (tx, .inl (g_C (x_G X), 60, .inl (aI ff)))]) (Or.inl (fun _ => ⟨rfl, rfl⟩)) (fun u201 => [.int (iI u201)]) (fun _ => rfl) 0 0 ⟨rfl, rfl⟩ (fun u201 hu201 => ?_)
                            rw [show p.toNat = a + sl by omega] at hu201
                            have hr201 := hTr (a + sl)
                            refine k_bipush C dX7_reads_204 (by decide) ?_
                            refine k_bipush C dX7_reads_206 (by decide) ?_
                            refine k_callS C (y := yX7_in) [.int (iI u201), .int (iI 50), .int (iI 57)] 3 rfl (c_X7_in (x_l X) (x_G X) u201 50 57 (by omega) (by omega) (by omega)) gX7_reads_X7_in rfl ⟨by decide +kernel, by decide +kernel, by decide +kernel⟩ ⟨by decide, by decide⟩ [] (by decide) (wc := []) rfl [] rfl (Nat.le_of_ble_eq_true rfl) ⟨Nat.le_of_ble_eq_true rfl, Nat.le_of_ble_eq_true rfl⟩ dX7_reads_208 (fun _ => [(mo, .inr (6, [.ref s, .int (iI st), .ref sv, .ref tx, .int (iI ty), .int (iI th), .ref fa, .ref ea, .ref go, .ref qu, .int (iI un), .int (iI om1)])), (s, .inl (g_I (x_G X), 756, .inl (aI s1))), (ea, .inl (g_I (x_G X), 40, .inl (aI fe))), (tx, .inl (g_C (x_G X), 60, .inl (aI ff)))]) (Or.inl (fun _ => ⟨rfl, rfl⟩)) (fun u208 => [.int (iI u208)]) (fun _ => rfl) 0 0 ⟨rfl, rfl⟩ (fun u208 hu208 => ?_)
                            refine k_if_eq C 227 (⟨by omega, by omega⟩) dX7_reads_211 (by decide) (fun c211 => ?_) (fun c211 => ?_)
                            · skip
                              have hu208 := bo_f hu208 c211
                              have hN := nm_n hF hsw (by omega) (by omega)
                              have hnn : ¬ ((0 : Int) = 0 ∧ wnn (sW (tA ff ty) a) = 1) := fun z => by have := z.2; rw [hw] at this; exact absurd this (by decide)
                              have hX := ob_X (T := (tA ff ty)) (a := a) (V := 0) (X := 1) (Or.inr ⟨by omega, rfl⟩)
                              have hPp : p = ((a + sl : Nat) : Int) := j1
                              try have hX := ob_X (T := (tA ff ty)) (a := a) (V := (tA ff ty) (a + sl) - 48) (X := v221) (Or.inl (by omega))
                              try have hPp : v224 = ((a + sl + 1 : Nat) : Int) := by omega
                              refine k_iload_n C 7 rfl dX7_reads_227 rfl ?_
                              refine k_if_eq C 239 (⟨by omega, by omega⟩) dX7_reads_228 (by decide) (fun c228 => ?_) (fun c228 => ?_)
                              · exfalso; omega
                              · skip
                                refine k_aload_n C 6 rfl dX7_reads_231 rfl ?_
                                refine k_iload C 2 rfl dX7_reads_232 ?_
                                refine k_iload C 0 rfl dX7_reads_234 ?_
                                refine k_callV C (y := yX7_does) [.int (iI 2), .int (iI 1)] 2 rfl (c_X7_does (x_l X) (x_G X) mo s sv tx fa ea go qu st ty th un om1 nq kq mq 2 1 s1 fe (by omega) (by omega) (i6) (hE)) gX7_reads_X7_does rfl ⟨rfl, by decide +kernel, by decide +kernel, by decide +kernel⟩ ⟨by decide, by decide⟩ 0 (fs := [.ref s, .int (iI st), .ref sv, .ref tx, .int (iI ty), .int (iI th), .ref fa, .ref ea, .ref go, .ref qu, .int (iI un), .int (iI om1)]) rfl rfl rfl [0, 1, 2] (by decide) (wc := [(mo, .inr (6, [.ref s, .int (iI st), .ref sv, .ref tx, .int (iI ty), .int (iI th), .ref fa, .ref ea, .ref go, .ref qu, .int (iI un), .int (iI om1)])), (s, .inl (g_I (x_G X), 756, .inl (aI s1))), (ea, .inl (g_I (x_G X), 40, .inl (aI fe)))]) rfl [] rfl (Nat.le_of_ble_eq_true rfl) ⟨Nat.le_of_ble_eq_true rfl, Nat.le_of_ble_eq_true rfl⟩ dX7_reads_236 (fun u236 => [(mo, .inr (6, [.ref s, .int (iI st), .ref sv, .ref tx, .int (iI ty), .int (iI th), .ref fa, .ref ea, .ref go, .ref qu, .int (iI un), .int (iI u236.2)])), (s, .inl (g_I (x_G X), 756, .inl (aI u236.1))), (ea, .inl (g_I (x_G X), 40, .inl (aI fe))), (tx, .inl (g_C (x_G X), 60, .inl (aI ff)))]) (Or.inr ⟨[3], [1, 2, 3, 0], [(tx, .inl (g_C (x_G X), 60, .inl (aI ff)))], rfl, by decide, by decide, by decide, fun _ => rfl⟩) (fun u236 => []) (fun _ => rfl) 0 0 ⟨rfl, rfl⟩ (fun u236 hu236 => ?_)
                                refine k_iload_n C 5 rfl dX7_reads_239 rfl ?_
                                refine k_aload_n C 6 rfl dX7_reads_240 rfl ?_
                                refine k_get C (Cn := RX7) (T := TX7) (N := 12) (ci := 6) (ref := "StruckCountsModel") in_X7_reads_X7 0 rfl rfl 4 (by decide) 1 rfl rfl (v := .int (iI ty)) rfl dX7_reads_241 ?_
                                refine k_icmp_lt C 249 (⟨by omega, by omega⟩) (⟨by omega, by omega⟩) dX7_reads_244 (by decide) (fun c244 => ?_) (fun c244 => ?_)
                                · skip
                                  refine k_aload_n C 6 rfl dX7_reads_249 rfl ?_
                                  refine k_iload_n C 5 rfl dX7_reads_250 rfl ?_
                                  refine k_callV C (y := yX7_at) [.int (iI p)] 1 rfl (c_X7_at (x_l X) (x_G X) mo s sv tx fa ea go qu st ty th un u236.2 p ff (by omega) (by omega)) gX7_reads_X7_at rfl ⟨rfl, by decide +kernel, by decide +kernel, by decide +kernel⟩ ⟨by decide, by decide⟩ 0 (fs := [.ref s, .int (iI st), .ref sv, .ref tx, .int (iI ty), .int (iI th), .ref fa, .ref ea, .ref go, .ref qu, .int (iI un), .int (iI u236.2)]) rfl rfl rfl [0, 3] (by decide) (wc := [(mo, .inr (6, [.ref s, .int (iI st), .ref sv, .ref tx, .int (iI ty), .int (iI th), .ref fa, .ref ea, .ref go, .ref qu, .int (iI un), .int (iI u236.2)])), (tx, .inl (g_C (x_G X), 60, .inl (aI ff)))]) rfl [] rfl (Nat.le_of_ble_eq_true rfl) ⟨Nat.le_of_ble_eq_true rfl, Nat.le_of_ble_eq_true rfl⟩ dX7_reads_251 (fun _ => [(mo, .inr (6, [.ref s, .int (iI st), .ref sv, .ref tx, .int (iI ty), .int (iI th), .ref fa, .ref ea, .ref go, .ref qu, .int (iI un), .int (iI u236.2)])), (s, .inl (g_I (x_G X), 756, .inl (aI u236.1))), (ea, .inl (g_I (x_G X), 40, .inl (aI fe))), (tx, .inl (g_C (x_G X), 60, .inl (aI ff)))]) (Or.inl (fun _ => ⟨rfl, rfl⟩)) (fun u251 => [.int (iI u251)]) (fun _ => rfl) 0 0 ⟨rfl, rfl⟩ (fun u251 hu251 => ?_)
                                  rw [show _ = _ from congrArg Int.toNat hPp, Int.toNat_natCast] at hu251
                                  have hr251 : 0 ≤ u251 ∧ u251 ≤ 65535 := by rw [hu251]; exact hTr _
                                  refine k_bipush C dX7_reads_254 (by decide) ?_
                                  refine k_icmp_eq C 261 (⟨by omega, by omega⟩) (⟨by omega, by omega⟩) dX7_reads_256 (by decide) (fun c256 => ?_) (fun c256 => ?_)
                                  · skip
                                    have h44 := hu251.symm.trans c256
                                    obtain ⟨v261, e261⟩ : ∃ y : Int, y = p + 1 := ⟨_, rfl⟩
                                    refine k_iinc C (lo' := [(2, .int (iI v261)), (7, .int (iI 1)), (6, .int (iI i)), (5, .int (iI 2)), (4, .int (iI u12)), (3, .int (iI u4)), (0, .ref mo), (1, .int (iI 1))]) 5 rfl dX7_reads_261 (by decide) v261 e261 rfl ?_
                                    have hPI := pi_nx e261 hPp
                                    refine k_goto C 2 dX7_reads_264 (by decide) ?_
                                    refine k_lo (lo' := [(2, .int (iI v261)), (0, .ref mo), (1, .int (iI 1))]) [0, 6, 7] rfl ?_
                                    exact ih2 (f - 1) _ _ _ _ _ v261 u236.2 u236.1 (⟨hPI, by omega, by omega, by omega, by rw [← (fl_nx (L := ty.toNat) (f := f) (by omega) hF hN hnn (by omega) h44).2]; exact i5, hu236.1, MO_t i7 hu236.2.1, (LdM_nx LD (by omega) hF hN hnn (by omega) h44 hX hw i8 hu236).2, (LdM_nx LD (by omega) hF hN hnn (by omega) h44 hX hw i8 hu236).1⟩) (by omega)
                                  · skip
                                    refine k_iload_n C 5 rfl dX7_reads_259 rfl ?_
                                    exact k_iret C hR (u := (p, u236.1, u236.2)) rfl (by (try dsimp only) <;> exact (absurd LD.1 (by rw [fl_ft (by omega) hF hN hnn (by omega) (fun z => c256 (hu251.trans z))]; omega))) rfl (Nat.le_of_ble_eq_true rfl) (Nat.le_of_ble_eq_true rfl) dX7_reads_260
                                · skip
                                  refine k_iconst C dX7_reads_247 ?_
                                  exact k_iret C hR (u := ((-1), u236.1, u236.2)) rfl (by (try dsimp only) <;> exact (⟨rfl, LdM_end LD (by omega) hF hN hnn (by omega) hX hw i7 i8 hu236⟩)) rfl (Nat.le_of_ble_eq_true rfl) (Nat.le_of_ble_eq_true rfl) dX7_reads_248
                            · skip
                              have hu208 := bo_t hu208 c211
                              have hN := nm_y hF hsw (by omega) (by omega)
                              have hnn : ¬ (((tA ff ty) (a + sl) - 48) = 0 ∧ wnn (sW (tA ff ty) a) = 1) := fun z => by omega
                              refine k_aload_n C 6 rfl dX7_reads_214 rfl ?_
                              refine k_iload_n C 5 rfl dX7_reads_215 rfl ?_
                              refine k_callV C (y := yX7_at) [.int (iI p)] 1 rfl (c_X7_at (x_l X) (x_G X) mo s sv tx fa ea go qu st ty th un om1 p ff (by omega) (by omega)) gX7_reads_X7_at rfl ⟨rfl, by decide +kernel, by decide +kernel, by decide +kernel⟩ ⟨by decide, by decide⟩ 0 (fs := [.ref s, .int (iI st), .ref sv, .ref tx, .int (iI ty), .int (iI th), .ref fa, .ref ea, .ref go, .ref qu, .int (iI un), .int (iI om1)]) rfl rfl rfl [0, 3] (by decide) (wc := [(mo, .inr (6, [.ref s, .int (iI st), .ref sv, .ref tx, .int (iI ty), .int (iI th), .ref fa, .ref ea, .ref go, .ref qu, .int (iI un), .int (iI om1)])), (tx, .inl (g_C (x_G X), 60, .inl (aI ff)))]) rfl [] rfl (Nat.le_of_ble_eq_true rfl) ⟨Nat.le_of_ble_eq_true rfl, Nat.le_of_ble_eq_true rfl⟩ dX7_reads_216 (fun _ => [(mo, .inr (6, [.ref s, .int (iI st), .ref sv, .ref tx, .int (iI ty), .int (iI th), .ref fa, .ref ea, .ref go, .ref qu, .int (iI un), .int (iI om1)])), (s, .inl (g_I (x_G X), 756, .inl (aI s1))), (ea, .inl (g_I (x_G X), 40, .inl (aI fe))), (tx, .inl (g_C (x_G X), 60, .inl (aI ff)))]) (Or.inl (fun _ => ⟨rfl, rfl⟩)) (fun u216 => [.int (iI u216)]) (fun _ => rfl) 0 0 ⟨rfl, rfl⟩ (fun u216 hu216 => ?_)
                              rw [show p.toNat = a + sl by omega] at hu216
                              refine k_bipush C dX7_reads_219 (by decide) ?_
                              refine k_isub C dX7_reads_221 ?_
                              refine k_nmI (fun v221 e221 => ?_)
                              refine k_istore C (lo' := [(7, .int (iI v221)), (6, .int (iI i)), (5, .int (iI 2)), (4, .int (iI u12)), (3, .int (iI u4)), (2, .int (iI p)), (0, .ref mo), (1, .int (iI 1))]) dX7_reads_222 (by decide) rfl ?_
                              obtain ⟨v224, e224⟩ : ∃ y : Int, y = p + 1 := ⟨_, rfl⟩
                              refine k_iinc C (lo' := [(2, .int (iI v224)), (7, .int (iI v221)), (6, .int (iI i)), (5, .int (iI 2)), (4, .int (iI u12)), (3, .int (iI u4)), (0, .ref mo), (1, .int (iI 1))]) 5 rfl dX7_reads_224 (by decide) v224 e224 rfl ?_
                              try have hX := ob_X (T := (tA ff ty)) (a := a) (V := (tA ff ty) (a + sl) - 48) (X := v221) (Or.inl (by omega))
                              try have hPp : v224 = ((a + sl + 1 : Nat) : Int) := by omega
                              refine k_iload_n C 7 rfl dX7_reads_227 rfl ?_
                              refine k_if_eq C 239 (⟨by omega, by omega⟩) dX7_reads_228 (by decide) (fun c228 => ?_) (fun c228 => ?_)
                              · exfalso; omega
                              · skip
                                refine k_aload_n C 6 rfl dX7_reads_231 rfl ?_
                                refine k_iload C 3 rfl dX7_reads_232 ?_
                                refine k_iload C 1 rfl dX7_reads_234 ?_
                                refine k_callV C (y := yX7_does) [.int (iI 2), .int (iI v221)] 2 rfl (c_X7_does (x_l X) (x_G X) mo s sv tx fa ea go qu st ty th un om1 nq kq mq 2 v221 s1 fe (by omega) (by omega) (i6) (hE)) gX7_reads_X7_does rfl ⟨rfl, by decide +kernel, by decide +kernel, by decide +kernel⟩ ⟨by decide, by decide⟩ 0 (fs := [.ref s, .int (iI st), .ref sv, .ref tx, .int (iI ty), .int (iI th), .ref fa, .ref ea, .ref go, .ref qu, .int (iI un), .int (iI om1)]) rfl rfl rfl [0, 1, 2] (by decide) (wc := [(mo, .inr (6, [.ref s, .int (iI st), .ref sv, .ref tx, .int (iI ty), .int (iI th), .ref fa, .ref ea, .ref go, .ref qu, .int (iI un), .int (iI om1)])), (s, .inl (g_I (x_G X), 756, .inl (aI s1))), (ea, .inl (g_I (x_G X), 40, .inl (aI fe)))]) rfl [] rfl (Nat.le_of_ble_eq_true rfl) ⟨Nat.le_of_ble_eq_true rfl, Nat.le_of_ble_eq_true rfl⟩ dX7_reads_236 (fun u236 => [(mo, .inr (6, [.ref s, .int (iI st), .ref sv, .ref tx, .int (iI ty), .int (iI th), .ref fa, .ref ea, .ref go, .ref qu, .int (iI un), .int (iI u236.2)])), (s, .inl (g_I (x_G X), 756, .inl (aI u236.1))), (ea, .inl (g_I (x_G X), 40, .inl (aI fe))), (tx, .inl (g_C (x_G X), 60, .inl (aI ff)))]) (Or.inr ⟨[3], [1, 2, 3, 0], [(tx, .inl (g_C (x_G X), 60, .inl (aI ff)))], rfl, by decide, by decide, by decide, fun _ => rfl⟩) (fun u236 => []) (fun _ => rfl) 0 0 ⟨rfl, rfl⟩ (fun u236 hu236 => ?_)
                                refine k_iload_n C 0 rfl dX7_reads_239 rfl ?_
                                refine k_aload_n C 6 rfl dX7_reads_240 rfl ?_
                                refine k_get C (Cn := RX7) (T := TX7) (N := 12) (ci := 6) (ref := "StruckCountsModel") in_X7_reads_X7 0 rfl rfl 4 (by decide) 1 rfl rfl (v := .int (iI ty)) rfl dX7_reads_241 ?_
                                refine k_icmp_lt C 249 (⟨by omega, by omega⟩) (⟨by omega, by omega⟩) dX7_reads_244 (by decide) (fun c244 => ?_) (fun c244 => ?_)
                                · skip
                                  refine k_aload_n C 6 rfl dX7_reads_249 rfl ?_
                                  refine k_iload_n C 0 rfl dX7_reads_250 rfl ?_
                                  refine k_callV C (y := yX7_at) [.int (iI v224)] 1 rfl (c_X7_at (x_l X) (x_G X) mo s sv tx fa ea go qu st ty th un u236.2 v224 ff (by omega) (by omega)) gX7_reads_X7_at rfl ⟨rfl, by decide +kernel, by decide +kernel, by decide +kernel⟩ ⟨by decide, by decide⟩ 0 (fs := [.ref s, .int (iI st), .ref sv, .ref tx, .int (iI ty), .int (iI th), .ref fa, .ref ea, .ref go, .ref qu, .int (iI un), .int (iI u236.2)]) rfl rfl rfl [0, 3] (by decide) (wc := [(mo, .inr (6, [.ref s, .int (iI st), .ref sv, .ref tx, .int (iI ty), .int (iI th), .ref fa, .ref ea, .ref go, .ref qu, .int (iI un), .int (iI u236.2)])), (tx, .inl (g_C (x_G X), 60, .inl (aI ff)))]) rfl [] rfl (Nat.le_of_ble_eq_true rfl) ⟨Nat.le_of_ble_eq_true rfl, Nat.le_of_ble_eq_true rfl⟩ dX7_reads_251 (fun _ => [(mo, .inr (6, [.ref s, .int (iI st), .ref sv, .ref tx, .int (iI ty), .int (iI th), .ref fa, .ref ea, .ref go, .ref qu, .int (iI un), .int (iI u236.2)])), (s, .inl (g_I (x_G X), 756, .inl (aI u236.1))), (ea, .inl (g_I (x_G X), 40, .inl (aI fe))), (tx, .inl (g_C (x_G X), 60, .inl (aI ff)))]) (Or.inl (fun _ => ⟨rfl, rfl⟩)) (fun u251 => [.int (iI u251)]) (fun _ => rfl) 0 0 ⟨rfl, rfl⟩ (fun u251 hu251 => ?_)
                                  rw [show _ = _ from congrArg Int.toNat hPp, Int.toNat_natCast] at hu251
                                  have hr251 : 0 ≤ u251 ∧ u251 ≤ 65535 := by rw [hu251]; exact hTr _
                                  refine k_bipush C dX7_reads_254 (by decide) ?_
                                  refine k_icmp_eq C 261 (⟨by omega, by omega⟩) (⟨by omega, by omega⟩) dX7_reads_256 (by decide) (fun c256 => ?_) (fun c256 => ?_)
                                  · skip
                                    have h44 := hu251.symm.trans c256
                                    obtain ⟨v261, e261⟩ : ∃ y : Int, y = v224 + 1 := ⟨_, rfl⟩
                                    refine k_iinc C (lo' := [(2, .int (iI v261)), (7, .int (iI v221)), (6, .int (iI i)), (5, .int (iI 2)), (4, .int (iI u12)), (3, .int (iI u4)), (0, .ref mo), (1, .int (iI 1))]) 0 rfl dX7_reads_261 (by decide) v261 e261 rfl ?_
                                    have hPI := pi_nx e261 hPp
                                    refine k_goto C 2 dX7_reads_264 (by decide) ?_
                                    refine k_lo (lo' := [(2, .int (iI v261)), (0, .ref mo), (1, .int (iI 1))]) [0, 6, 7] rfl ?_
                                    exact ih2 (f - 1) _ _ _ _ _ v261 u236.2 u236.1 (⟨hPI, by omega, by omega, by omega, by rw [← (fl_nx (L := ty.toNat) (f := f) (by omega) hF hN hnn (by omega) h44).2]; exact i5, hu236.1, MO_t i7 hu236.2.1, (LdM_nx LD (by omega) hF hN hnn (by omega) h44 hX hw i8 hu236).2, (LdM_nx LD (by omega) hF hN hnn (by omega) h44 hX hw i8 hu236).1⟩) (by omega)
                                  · skip
                                    refine k_iload_n C 0 rfl dX7_reads_259 rfl ?_
                                    exact k_iret C hR (u := (v224, u236.1, u236.2)) rfl (by (try dsimp only) <;> exact (absurd LD.1 (by rw [fl_ft (by omega) hF hN hnn (by omega) (fun z => c256 (hu251.trans z))]; omega))) rfl (Nat.le_of_ble_eq_true rfl) (Nat.le_of_ble_eq_true rfl) dX7_reads_260
                                · skip
                                  refine k_iconst C dX7_reads_247 ?_
                                  exact k_iret C hR (u := ((-1), u236.1, u236.2)) rfl (by (try dsimp only) <;> exact (⟨rfl, LdM_end LD (by omega) hF hN hnn (by omega) hX hw i7 i8 hu236⟩)) rfl (Nat.le_of_ble_eq_true rfl) (Nat.le_of_ble_eq_true rfl) dX7_reads_248
                        · exfalso; omega
                      · exfalso; omega
                    · skip
                      have hsl : sl < wl (sW (tA ff ty) a) := wc_w hw4 j2 (by rw [← h77]; omega)
                      refine k_aload_n C 5 rfl dX7_reads_83 rfl ?_
                      refine k_iload_n C 4 rfl dX7_reads_84 rfl ?_
                      refine k_callV C (y := yX7_at) [.int (iI p)] 1 rfl (c_X7_at (x_l X) (x_G X) mo s sv tx fa ea go qu st ty th un om1 p ff (by omega) (by omega)) gX7_reads_X7_at rfl ⟨rfl, by decide +kernel, by decide +kernel, by decide +kernel⟩ ⟨by decide, by decide⟩ 0 (fs := [.ref s, .int (iI st), .ref sv, .ref tx, .int (iI ty), .int (iI th), .ref fa, .ref ea, .ref go, .ref qu, .int (iI un), .int (iI om1)]) rfl rfl rfl [0, 3] (by decide) (wc := [(mo, .inr (6, [.ref s, .int (iI st), .ref sv, .ref tx, .int (iI ty), .int (iI th), .ref fa, .ref ea, .ref go, .ref qu, .int (iI un), .int (iI om1)])), (tx, .inl (g_C (x_G X), 60, .inl (aI ff)))]) rfl [] rfl (Nat.le_of_ble_eq_true rfl) ⟨Nat.le_of_ble_eq_true rfl, Nat.le_of_ble_eq_true rfl⟩ dX7_reads_85 (fun _ => [(mo, .inr (6, [.ref s, .int (iI st), .ref sv, .ref tx, .int (iI ty), .int (iI th), .ref fa, .ref ea, .ref go, .ref qu, .int (iI un), .int (iI om1)])), (s, .inl (g_I (x_G X), 756, .inl (aI s1))), (ea, .inl (g_I (x_G X), 40, .inl (aI fe))), (tx, .inl (g_C (x_G X), 60, .inl (aI ff)))]) (Or.inl (fun _ => ⟨rfl, rfl⟩)) (fun u85 => [.int (iI u85)]) (fun _ => rfl) 0 0 ⟨rfl, rfl⟩ (fun u85 hu85 => ?_)
                      rw [show p.toNat = a + sl by omega] at hu85
                      have hr85 := hTr (a + sl)
                      refine k_iload C 1 rfl dX7_reads_88 ?_
                      refine k_iload_n C 4 rfl dX7_reads_90 rfl ?_
                      refine k_iload C 0 rfl dX7_reads_91 ?_
                      refine k_isub C dX7_reads_93 ?_
                      refine k_nmI (fun v93 e93 => ?_)
                      refine k_callS C (y := yX7_letter) [.int (iI 2), .int (iI v93)] 2 rfl (c_X7_letter (x_l X) (x_G X) 2 v93 (by omega) (by omega)) gX7_reads_X7_letter rfl ⟨by decide +kernel, by decide +kernel, by decide +kernel⟩ ⟨by decide, by decide⟩ [] (by decide) (wc := []) rfl [.int (iI u85)] rfl (Nat.le_of_ble_eq_true rfl) ⟨Nat.le_of_ble_eq_true rfl, Nat.le_of_ble_eq_true rfl⟩ dX7_reads_94 (fun _ => [(mo, .inr (6, [.ref s, .int (iI st), .ref sv, .ref tx, .int (iI ty), .int (iI th), .ref fa, .ref ea, .ref go, .ref qu, .int (iI un), .int (iI om1)])), (s, .inl (g_I (x_G X), 756, .inl (aI s1))), (ea, .inl (g_I (x_G X), 40, .inl (aI fe))), (tx, .inl (g_C (x_G X), 60, .inl (aI ff)))]) (Or.inl (fun _ => ⟨rfl, rfl⟩)) (fun u94 => [.int (iI u94), .int (iI u85)]) (fun _ => rfl) 0 0 ⟨rfl, rfl⟩ (fun u94 hu94 => ?_)
                      have h94 : u94 = wc (sW (tA ff ty) a) sl := by (rw [hu94, hw, show v93.toNat = sl by omega]) <;> rfl
                      have hr94 := wc_rng hw4 hsl
                      refine k_icmp_eq C 102 (⟨by omega, by omega⟩) (⟨by omega, by omega⟩) dX7_reads_97 (by decide) (fun c97 => ?_) (fun c97 => ?_)
                      · skip
                        obtain ⟨v102, e102⟩ : ∃ y : Int, y = p + 1 := ⟨_, rfl⟩
                        refine k_iinc C (lo' := [(2, .int (iI v102)), (6, .int (iI i)), (5, .int (iI 2)), (4, .int (iI u12)), (3, .int (iI u4)), (0, .ref mo), (1, .int (iI 1))]) 4 rfl dX7_reads_102 (by decide) v102 e102 rfl ?_
                        refine k_goto C 71 dX7_reads_105 (by decide) ?_
                        refine k_lo (lo' := [(6, .int (iI i)), (5, .int (iI 2)), (4, .int (iI u12)), (3, .int (iI u4)), (2, .int (iI v102)), (0, .ref mo), (1, .int (iI 1))]) [1, 2, 3, 4, 0, 5, 6] rfl ?_
                        exact ih71 (sl + 1) v102 (⟨by omega, by omega, csn_step j3 (by rw [← hu85, ← h94]; exact c97)⟩) (by omega)
                      · skip
                        refine k_iload_n C 4 rfl dX7_reads_100 rfl ?_
                        exact k_iret C hR (u := (p, s1, om1)) rfl (by (try dsimp only) <;> exact (absurd LD.1 (by rw [fl_sp (by omega) hw4 j3 (by rw [← hu85, ← h94]; exact c97) hsl]; omega))) rfl (Nat.le_of_ble_eq_true rfl) (Nat.le_of_ble_eq_true rfl) dX7_reads_101
                exact L71 _ 0 i (⟨by omega, Nat.zero_le _, rfl⟩) (Nat.lt_succ_self _)
              · exfalso; omega
        · skip
          have hw : sW (tA ff ty) a = 3 := sW_3 (by omega) (by omega)
          refine k_iconst C dX7_reads_33 ?_
          refine k_goto C 59 dX7_reads_34 (by decide) ?_
          refine k_istore C (lo' := [(5, .int (iI 3)), (4, .int (iI u12)), (3, .int (iI u4)), (2, .int (iI i)), (0, .ref mo), (1, .int (iI 1))]) dX7_reads_59 (by decide) rfl ?_
          refine k_iload C 0 rfl dX7_reads_61 ?_
          refine k_if_ge C 68 (⟨by omega, by omega⟩) dX7_reads_63 (by decide) (fun c63 => ?_) (fun c63 => ?_)
          · skip
            refine k_iload_n C 3 rfl dX7_reads_68 rfl ?_
            refine k_istore C (lo' := [(6, .int (iI i)), (5, .int (iI 3)), (4, .int (iI u12)), (3, .int (iI u4)), (2, .int (iI i)), (0, .ref mo), (1, .int (iI 1))]) dX7_reads_69 (by decide) rfl ?_
            have L71 : ∀ (nf : Nat) (sl : Nat) (p : Int), (p = ((a + sl : Nat) : Int) ∧ sl ≤ wl (sW (tA ff ty) a) ∧ csn (tA ff ty) a (sW (tA ff ty) a) sl = sl) → wl (sW (tA ff ty) a) - sl < nf → K_ X 0 0 [(mo, .inr (6, [.ref s, .int (iI st), .ref sv, .ref tx, .int (iI ty), .int (iI th), .ref fa, .ref ea, .ref go, .ref qu, .int (iI un), .int (iI om1)])), (s, .inl (g_I (x_G X), 756, .inl (aI s1))), (ea, .inl (g_I (x_G X), 40, .inl (aI fe))), (tx, .inl (g_C (x_G X), 60, .inl (aI ff)))] 71 [(6, .int (iI i)), (5, .int (iI 3)), (4, .int (iI u12)), (3, .int (iI u4)), (2, .int (iI p)), (0, .ref mo), (1, .int (iI 1))] [] := by
              intro nf
              induction nf with
              | zero => intro sl p hI hm; exact absurd hm (Nat.not_lt_zero _)
              | succ nf ih71 =>
                intro sl p hI71 hm71
                obtain ⟨j1, j2, j3⟩ := hI71
                have hw4 : (sW (tA ff ty) a) < 4 := by omega
                have hwl := wl_rng hw4
                refine k_iload C 1 rfl dX7_reads_71 ?_
                refine k_iload_n C 4 rfl dX7_reads_73 rfl ?_
                refine k_iload C 0 rfl dX7_reads_74 ?_
                refine k_isub C dX7_reads_76 ?_
                refine k_nmI (fun v76 e76 => ?_)
                refine k_callS C (y := yX7_letter) [.int (iI 3), .int (iI v76)] 2 rfl (c_X7_letter (x_l X) (x_G X) 3 v76 (by omega) (by omega)) gX7_reads_X7_letter rfl ⟨by decide +kernel, by decide +kernel, by decide +kernel⟩ ⟨by decide, by decide⟩ [] (by decide) (wc := []) rfl [] rfl (Nat.le_of_ble_eq_true rfl) ⟨Nat.le_of_ble_eq_true rfl, Nat.le_of_ble_eq_true rfl⟩ dX7_reads_77 (fun _ => [(mo, .inr (6, [.ref s, .int (iI st), .ref sv, .ref tx, .int (iI ty), .int (iI th), .ref fa, .ref ea, .ref go, .ref qu, .int (iI un), .int (iI om1)])), (s, .inl (g_I (x_G X), 756, .inl (aI s1))), (ea, .inl (g_I (x_G X), 40, .inl (aI fe))), (tx, .inl (g_C (x_G X), 60, .inl (aI ff)))]) (Or.inl (fun _ => ⟨rfl, rfl⟩)) (fun u77 => [.int (iI u77)]) (fun _ => rfl) 0 0 ⟨rfl, rfl⟩ (fun u77 hu77 => ?_)
                have h77 : u77 = wc (sW (tA ff ty) a) sl := by (rw [hu77, hw, show v76.toNat = sl by omega]) <;> rfl
                have hr77 : 0 ≤ u77 ∧ u77 ≤ 122 := by (by_cases e : sl < wl (sW (tA ff ty) a); (have := wc_rng hw4 e; omega); (rw [h77, show sl = wl (sW (tA ff ty) a) by omega, wc_e hw4]; omega))
                refine k_if_eq C 108 (⟨by omega, by omega⟩) dX7_reads_80 (by decide) (fun c80 => ?_) (fun c80 => ?_)
                · skip
                  have hsw : sl = wl (sW (tA ff ty) a) := wc_z hw4 j2 (by rw [← h77]; omega)
                  have hF := ful_of hw4 j3 hsw
                  refine k_iload C 1 rfl dX7_reads_108 ?_
                  refine k_if_ne C 117 (⟨by omega, by omega⟩) dX7_reads_110 (by decide) (fun c110 => ?_) (fun c110 => ?_)
                  · skip
                    refine k_iconst C dX7_reads_117 ?_
                    refine k_istore C (lo' := [(7, .int (iI 1)), (6, .int (iI i)), (5, .int (iI 3)), (4, .int (iI u12)), (3, .int (iI u4)), (2, .int (iI p)), (0, .ref mo), (1, .int (iI 1))]) dX7_reads_118 (by decide) rfl ?_
                    refine k_iload C 2 rfl dX7_reads_120 ?_
                    refine k_if_ne C 193 (⟨by omega, by omega⟩) dX7_reads_122 (by decide) (fun c122 => ?_) (fun c122 => ?_)
                    · skip
                      refine k_iload C 2 rfl dX7_reads_193 ?_
                      refine k_iconst C dX7_reads_195 ?_
                      refine k_icmp_ge C 227 (⟨by omega, by omega⟩) (⟨by omega, by omega⟩) dX7_reads_196 (by decide) (fun c196 => ?_) (fun c196 => ?_)
                      · skip
                        have hN := nm_3 hF hsw hw
                        have hnn : ¬ ((0 : Int) = 0 ∧ wnn (sW (tA ff ty) a) = 1) := fun z => by have := z.2; rw [hw] at this; exact absurd this (by decide)
                        have hX := ob_X (T := (tA ff ty)) (a := a) (V := 0) (X := 1) (Or.inr ⟨by omega, rfl⟩)
                        have hPp : p = ((a + sl : Nat) : Int) := j1
                        try have hX := ob_X (T := (tA ff ty)) (a := a) (V := (tA ff ty) (a + sl) - 48) (X := v221) (Or.inl (by omega))
                        try have hPp : v224 = ((a + sl + 1 : Nat) : Int) := by omega
                        refine k_iload_n C 7 rfl dX7_reads_227 rfl ?_
                        refine k_if_eq C 239 (⟨by omega, by omega⟩) dX7_reads_228 (by decide) (fun c228 => ?_) (fun c228 => ?_)
                        · exfalso; omega
                        · skip
                          refine k_aload_n C 6 rfl dX7_reads_231 rfl ?_
                          refine k_iload C 2 rfl dX7_reads_232 ?_
                          refine k_iload C 0 rfl dX7_reads_234 ?_
                          refine k_callV C (y := yX7_does) [.int (iI 3), .int (iI 1)] 2 rfl (c_X7_does (x_l X) (x_G X) mo s sv tx fa ea go qu st ty th un om1 nq kq mq 3 1 s1 fe (by omega) (by omega) (i6) (hE)) gX7_reads_X7_does rfl ⟨rfl, by decide +kernel, by decide +kernel, by decide +kernel⟩ ⟨by decide, by decide⟩ 0 (fs := [.ref s, .int (iI st), .ref sv, .ref tx, .int (iI ty), .int (iI th), .ref fa, .ref ea, .ref go, .ref qu, .int (iI un), .int (iI om1)]) rfl rfl rfl [0, 1, 2] (by decide) (wc := [(mo, .inr (6, [.ref s, .int (iI st), .ref sv, .ref tx, .int (iI ty), .int (iI th), .ref fa, .ref ea, .ref go, .ref qu, .int (iI un), .int (iI om1)])), (s, .inl (g_I (x_G X), 756, .inl (aI s1))), (ea, .inl (g_I (x_G X), 40, .inl (aI fe)))]) rfl [] rfl (Nat.le_of_ble_eq_true rfl) ⟨Nat.le_of_ble_eq_true rfl, Nat.le_of_ble_eq_true rfl⟩ dX7_reads_236 (fun u236 => [(mo, .inr (6, [.ref s, .int (iI st), .ref sv, .ref tx, .int (iI ty), .int (iI th), .ref fa, .ref ea, .ref go, .ref qu, .int (iI un), .int (iI u236.2)])), (s, .inl (g_I (x_G X), 756, .inl (aI u236.1))), (ea, .inl (g_I (x_G X), 40, .inl (aI fe))), (tx, .inl (g_C (x_G X), 60, .inl (aI ff)))]) (Or.inr ⟨[3], [1, 2, 3, 0], [(tx, .inl (g_C (x_G X), 60, .inl (aI ff)))], rfl, by decide, by decide, by decide, fun _ => rfl⟩) (fun u236 => []) (fun _ => rfl) 0 0 ⟨rfl, rfl⟩ (fun u236 hu236 => ?_)
                          refine k_iload_n C 5 rfl dX7_reads_239 rfl ?_
                          refine k_aload_n C 6 rfl dX7_reads_240 rfl ?_
                          refine k_get C (Cn := RX7) (T := TX7) (N := 12) (ci := 6) (ref := "StruckCountsModel") in_X7_reads_X7 0 rfl rfl 4 (by decide) 1 rfl rfl (v := .int (iI ty)) rfl dX7_reads_241 ?_
                          refine k_icmp_lt C 249 (⟨by omega, by omega⟩) (⟨by omega, by omega⟩) dX7_reads_244 (by decide) (fun c244 => ?_) (fun c244 => ?_)
                          · skip
                            refine k_aload_n C 6 rfl dX7_reads_249 rfl ?_
                            refine k_iload_n C 5 rfl dX7_reads_250 rfl ?_
                            refine k_callV C (y := yX7_at) [.int (iI p)] 1 rfl (c_X7_at (x_l X) (x_G X) mo s sv tx fa ea go qu st ty th un u236.2 p ff (by omega) (by omega)) gX7_reads_X7_at rfl ⟨rfl, by decide +kernel, by decide +kernel, by decide +kernel⟩ ⟨by decide, by decide⟩ 0 (fs := [.ref s, .int (iI st), .ref sv, .ref tx, .int (iI ty), .int (iI th), .ref fa, .ref ea, .ref go, .ref qu, .int (iI un), .int (iI u236.2)]) rfl rfl rfl [0, 3] (by decide) (wc := [(mo, .inr (6, [.ref s, .int (iI st), .ref sv, .ref tx, .int (iI ty), .int (iI th), .ref fa, .ref ea, .ref go, .ref qu, .int (iI un), .int (iI u236.2)])), (tx, .inl (g_C (x_G X), 60, .inl (aI ff)))]) rfl [] rfl (Nat.le_of_ble_eq_true rfl) ⟨Nat.le_of_ble_eq_true rfl, Nat.le_of_ble_eq_true rfl⟩ dX7_reads_251 (fun _ => [(mo, .inr (6, [.ref s, .int (iI st), .ref sv, .ref tx, .int (iI ty), .int (iI th), .ref fa, .ref ea, .ref go, .ref qu, .int (iI un), .int (iI u236.2)])), (s, .inl (g_I (x_G X), 756, .inl (aI u236.1))), (ea, .inl (g_I (x_G X), 40, .inl (aI fe))), (tx, .inl (g_C (x_G X), 60, .inl (aI ff)))]) (Or.inl (fun _ => ⟨rfl, rfl⟩)) (fun u251 => [.int (iI u251)]) (fun _ => rfl) 0 0 ⟨rfl, rfl⟩ (fun u251 hu251 => ?_)
                            rw [show _ = _ from congrArg Int.toNat hPp, Int.toNat_natCast] at hu251
                            have hr251 : 0 ≤ u251 ∧ u251 ≤ 65535 := by rw [hu251]; exact hTr _
                            refine k_bipush C dX7_reads_254 (by decide) ?_
                            refine k_icmp_eq C 261 (⟨by omega, by omega⟩) (⟨by omega, by omega⟩) dX7_reads_256 (by decide) (fun c256 => ?_) (fun c256 => ?_)
                            · skip
                              have h44 := hu251.symm.trans c256
                              obtain ⟨v261, e261⟩ : ∃ y : Int, y = p + 1 := ⟨_, rfl⟩
                              refine k_iinc C (lo' := [(2, .int (iI v261)), (7, .int (iI 1)), (6, .int (iI i)), (5, .int (iI 3)), (4, .int (iI u12)), (3, .int (iI u4)), (0, .ref mo), (1, .int (iI 1))]) 5 rfl dX7_reads_261 (by decide) v261 e261 rfl ?_
                              have hPI := pi_nx e261 hPp
                              refine k_goto C 2 dX7_reads_264 (by decide) ?_
                              refine k_lo (lo' := [(2, .int (iI v261)), (0, .ref mo), (1, .int (iI 1))]) [0, 6, 7] rfl ?_
                              exact ih2 (f - 1) _ _ _ _ _ v261 u236.2 u236.1 (⟨hPI, by omega, by omega, by omega, by rw [← (fl_nx (L := ty.toNat) (f := f) (by omega) hF hN hnn (by omega) h44).2]; exact i5, hu236.1, MO_t i7 hu236.2.1, (LdM_nx LD (by omega) hF hN hnn (by omega) h44 hX hw i8 hu236).2, (LdM_nx LD (by omega) hF hN hnn (by omega) h44 hX hw i8 hu236).1⟩) (by omega)
                            · skip
                              refine k_iload_n C 5 rfl dX7_reads_259 rfl ?_
                              exact k_iret C hR (u := (p, u236.1, u236.2)) rfl (by (try dsimp only) <;> exact (absurd LD.1 (by rw [fl_ft (by omega) hF hN hnn (by omega) (fun z => c256 (hu251.trans z))]; omega))) rfl (Nat.le_of_ble_eq_true rfl) (Nat.le_of_ble_eq_true rfl) dX7_reads_260
                          · skip
                            refine k_iconst C dX7_reads_247 ?_
                            exact k_iret C hR (u := ((-1), u236.1, u236.2)) rfl (by (try dsimp only) <;> exact (⟨rfl, LdM_end LD (by omega) hF hN hnn (by omega) hX hw i7 i8 hu236⟩)) rfl (Nat.le_of_ble_eq_true rfl) (Nat.le_of_ble_eq_true rfl) dX7_reads_248
                      · exfalso; omega
                    · exfalso; omega
                  · exfalso; omega
                · skip
                  have hsl : sl < wl (sW (tA ff ty) a) := wc_w hw4 j2 (by rw [← h77]; omega)
                  refine k_aload_n C 5 rfl dX7_reads_83 rfl ?_
                  refine k_iload_n C 4 rfl dX7_reads_84 rfl ?_
                  refine k_callV C (y := yX7_at) [.int (iI p)] 1 rfl (c_X7_at (x_l X) (x_G X) mo s sv tx fa ea go qu st ty th un om1 p ff (by omega) (by omega)) gX7_reads_X7_at rfl ⟨rfl, by decide +kernel, by decide +kernel, by decide +kernel⟩ ⟨by decide, by decide⟩ 0 (fs := [.ref s, .int (iI st), .ref sv, .ref tx, .int (iI ty), .int (iI th), .ref fa, .ref ea, .ref go, .ref qu, .int (iI un), .int (iI om1)]) rfl rfl rfl [0, 3] (by decide) (wc := [(mo, .inr (6, [.ref s, .int (iI st), .ref sv, .ref tx, .int (iI ty), .int (iI th), .ref fa, .ref ea, .ref go, .ref qu, .int (iI un), .int (iI om1)])), (tx, .inl (g_C (x_G X), 60, .inl (aI ff)))]) rfl [] rfl (Nat.le_of_ble_eq_true rfl) ⟨Nat.le_of_ble_eq_true rfl, Nat.le_of_ble_eq_true rfl⟩ dX7_reads_85 (fun _ => [(mo, .inr (6, [.ref s, .int (iI st), .ref sv, .ref tx, .int (iI ty), .int (iI th), .ref fa, .ref ea, .ref go, .ref qu, .int (iI un), .int (iI om1)])), (s, .inl (g_I (x_G X), 756, .inl (aI s1))), (ea, .inl (g_I (x_G X), 40, .inl (aI fe))), (tx, .inl (g_C (x_G X), 60, .inl (aI ff)))]) (Or.inl (fun _ => ⟨rfl, rfl⟩)) (fun u85 => [.int (iI u85)]) (fun _ => rfl) 0 0 ⟨rfl, rfl⟩ (fun u85 hu85 => ?_)
                  rw [show p.toNat = a + sl by omega] at hu85
                  have hr85 := hTr (a + sl)
                  refine k_iload C 1 rfl dX7_reads_88 ?_
                  refine k_iload_n C 4 rfl dX7_reads_90 rfl ?_
                  refine k_iload C 0 rfl dX7_reads_91 ?_
                  refine k_isub C dX7_reads_93 ?_
                  refine k_nmI (fun v93 e93 => ?_)
                  refine k_callS C (y := yX7_letter) [.int (iI 3), .int (iI v93)] 2 rfl (c_X7_letter (x_l X) (x_G X) 3 v93 (by omega) (by omega)) gX7_reads_X7_letter rfl ⟨by decide +kernel, by decide +kernel, by decide +kernel⟩ ⟨by decide, by decide⟩ [] (by decide) (wc := []) rfl [.int (iI u85)] rfl (Nat.le_of_ble_eq_true rfl) ⟨Nat.le_of_ble_eq_true rfl, Nat.le_of_ble_eq_true rfl⟩ dX7_reads_94 (fun _ => [(mo, .inr (6, [.ref s, .int (iI st), .ref sv, .ref tx, .int (iI ty), .int (iI th), .ref fa, .ref ea, .ref go, .ref qu, .int (iI un), .int (iI om1)])), (s, .inl (g_I (x_G X), 756, .inl (aI s1))), (ea, .inl (g_I (x_G X), 40, .inl (aI fe))), (tx, .inl (g_C (x_G X), 60, .inl (aI ff)))]) (Or.inl (fun _ => ⟨rfl, rfl⟩)) (fun u94 => [.int (iI u94), .int (iI u85)]) (fun _ => rfl) 0 0 ⟨rfl, rfl⟩ (fun u94 hu94 => ?_)
                  have h94 : u94 = wc (sW (tA ff ty) a) sl := by (rw [hu94, hw, show v93.toNat = sl by omega]) <;> rfl
                  have hr94 := wc_rng hw4 hsl
                  refine k_icmp_eq C 102 (⟨by omega, by omega⟩) (⟨by omega, by omega⟩) dX7_reads_97 (by decide) (fun c97 => ?_) (fun c97 => ?_)
                  · skip
                    obtain ⟨v102, e102⟩ : ∃ y : Int, y = p + 1 := ⟨_, rfl⟩
                    refine k_iinc C (lo' := [(2, .int (iI v102)), (6, .int (iI i)), (5, .int (iI 3)), (4, .int (iI u12)), (3, .int (iI u4)), (0, .ref mo), (1, .int (iI 1))]) 4 rfl dX7_reads_102 (by decide) v102 e102 rfl ?_
                    refine k_goto C 71 dX7_reads_105 (by decide) ?_
                    refine k_lo (lo' := [(6, .int (iI i)), (5, .int (iI 3)), (4, .int (iI u12)), (3, .int (iI u4)), (2, .int (iI v102)), (0, .ref mo), (1, .int (iI 1))]) [1, 2, 3, 4, 0, 5, 6] rfl ?_
                    exact ih71 (sl + 1) v102 (⟨by omega, by omega, csn_step j3 (by rw [← hu85, ← h94]; exact c97)⟩) (by omega)
                  · skip
                    refine k_iload_n C 4 rfl dX7_reads_100 rfl ?_
                    exact k_iret C hR (u := (p, s1, om1)) rfl (by (try dsimp only) <;> exact (absurd LD.1 (by rw [fl_sp (by omega) hw4 j3 (by rw [← hu85, ← h94]; exact c97) hsl]; omega))) rfl (Nat.le_of_ble_eq_true rfl) (Nat.le_of_ble_eq_true rfl) dX7_reads_101
            exact L71 _ 0 i (⟨by omega, Nat.zero_le _, rfl⟩) (Nat.lt_succ_self _)
          · exfalso; omega
      · skip
        have hw : sW (tA ff ty) a = 0 := sW_0 (by omega)
        refine k_iconst C dX7_reads_23 ?_
        refine k_goto C 59 dX7_reads_24 (by decide) ?_
        refine k_istore C (lo' := [(5, .int (iI 0)), (4, .int (iI u12)), (3, .int (iI u4)), (2, .int (iI i)), (0, .ref mo), (1, .int (iI 1))]) dX7_reads_59 (by decide) rfl ?_
        refine k_iload C 0 rfl dX7_reads_61 ?_
        refine k_if_ge C 68 (⟨by omega, by omega⟩) dX7_reads_63 (by decide) (fun c63 => ?_) (fun c63 => ?_)
        · skip
          refine k_iload_n C 3 rfl dX7_reads_68 rfl ?_
          refine k_istore C (lo' := [(6, .int (iI i)), (5, .int (iI 0)), (4, .int (iI u12)), (3, .int (iI u4)), (2, .int (iI i)), (0, .ref mo), (1, .int (iI 1))]) dX7_reads_69 (by decide) rfl ?_
          have L71 : ∀ (nf : Nat) (sl : Nat) (p : Int), (p = ((a + sl : Nat) : Int) ∧ sl ≤ wl (sW (tA ff ty) a) ∧ csn (tA ff ty) a (sW (tA ff ty) a) sl = sl) → wl (sW (tA ff ty) a) - sl < nf → K_ X 0 0 [(mo, .inr (6, [.ref s, .int (iI st), .ref sv, .ref tx, .int (iI ty), .int (iI th), .ref fa, .ref ea, .ref go, .ref qu, .int (iI un), .int (iI om1)])), (s, .inl (g_I (x_G X), 756, .inl (aI s1))), (ea, .inl (g_I (x_G X), 40, .inl (aI fe))), (tx, .inl (g_C (x_G X), 60, .inl (aI ff)))] 71 [(6, .int (iI i)), (5, .int (iI 0)), (4, .int (iI u12)), (3, .int (iI u4)), (2, .int (iI p)), (0, .ref mo), (1, .int (iI 1))] [] := by
            intro nf
            induction nf with
            | zero => intro sl p hI hm; exact absurd hm (Nat.not_lt_zero _)
            | succ nf ih71 =>
              intro sl p hI71 hm71
              obtain ⟨j1, j2, j3⟩ := hI71
              have hw4 : (sW (tA ff ty) a) < 4 := by omega
              have hwl := wl_rng hw4
              refine k_iload C 1 rfl dX7_reads_71 ?_
              refine k_iload_n C 4 rfl dX7_reads_73 rfl ?_
              refine k_iload C 0 rfl dX7_reads_74 ?_
              refine k_isub C dX7_reads_76 ?_
              refine k_nmI (fun v76 e76 => ?_)
              refine k_callS C (y := yX7_letter) [.int (iI 0), .int (iI v76)] 2 rfl (c_X7_letter (x_l X) (x_G X) 0 v76 (by omega) (by omega)) gX7_reads_X7_letter rfl ⟨by decide +kernel, by decide +kernel, by decide +kernel⟩ ⟨by decide, by decide⟩ [] (by decide) (wc := []) rfl [] rfl (Nat.le_of_ble_eq_true rfl) ⟨Nat.le_of_ble_eq_true rfl, Nat.le_of_ble_eq_true rfl⟩ dX7_reads_77 (fun _ => [(mo, .inr (6, [.ref s, .int (iI st), .ref sv, .ref tx, .int (iI ty), .int (iI th), .ref fa, .ref ea, .ref go, .ref qu, .int (iI un), .int (iI om1)])), (s, .inl (g_I (x_G X), 756, .inl (aI s1))), (ea, .inl (g_I (x_G X), 40, .inl (aI fe))), (tx, .inl (g_C (x_G X), 60, .inl (aI ff)))]) (Or.inl (fun _ => ⟨rfl, rfl⟩)) (fun u77 => [.int (iI u77)]) (fun _ => rfl) 0 0 ⟨rfl, rfl⟩ (fun u77 hu77 => ?_)
              have h77 : u77 = wc (sW (tA ff ty) a) sl := by (rw [hu77, hw, show v76.toNat = sl by omega]) <;> rfl
              have hr77 : 0 ≤ u77 ∧ u77 ≤ 122 := by (by_cases e : sl < wl (sW (tA ff ty) a); (have := wc_rng hw4 e; omega); (rw [h77, show sl = wl (sW (tA ff ty) a) by omega, wc_e hw4]; omega))
              refine k_if_eq C 108 (⟨by omega, by omega⟩) dX7_reads_80 (by decide) (fun c80 => ?_) (fun c80 => ?_)
              · skip
                have hsw : sl = wl (sW (tA ff ty) a) := wc_z hw4 j2 (by rw [← h77]; omega)
                have hF := ful_of hw4 j3 hsw
                refine k_iload C 1 rfl dX7_reads_108 ?_
                refine k_if_ne C 117 (⟨by omega, by omega⟩) dX7_reads_110 (by decide) (fun c110 => ?_) (fun c110 => ?_)
                · exfalso; omega
                · skip
                  refine k_iconst C dX7_reads_113 ?_
                  refine k_goto C 118 dX7_reads_114 (by decide) ?_
                  refine k_istore C (lo' := [(7, .int (iI 0)), (6, .int (iI i)), (5, .int (iI 0)), (4, .int (iI u12)), (3, .int (iI u4)), (2, .int (iI p)), (0, .ref mo), (1, .int (iI 1))]) dX7_reads_118 (by decide) rfl ?_
                  refine k_iload C 2 rfl dX7_reads_120 ?_
                  refine k_if_ne C 193 (⟨by omega, by omega⟩) dX7_reads_122 (by decide) (fun c122 => ?_) (fun c122 => ?_)
                  · exfalso; omega
                  · skip
                    refine k_aload_n C 6 rfl dX7_reads_125 rfl ?_
                    refine k_iload_n C 5 rfl dX7_reads_126 rfl ?_
                    refine k_callV C (y := yX7_at) [.int (iI p)] 1 rfl (c_X7_at (x_l X) (x_G X) mo s sv tx fa ea go qu st ty th un om1 p ff (by omega) (by omega)) gX7_reads_X7_at rfl ⟨rfl, by decide +kernel, by decide +kernel, by decide +kernel⟩ ⟨by decide, by decide⟩ 0 (fs := [.ref s, .int (iI st), .ref sv, .ref tx, .int (iI ty), .int (iI th), .ref fa, .ref ea, .ref go, .ref qu, .int (iI un), .int (iI om1)]) rfl rfl rfl [0, 3] (by decide) (wc := [(mo, .inr (6, [.ref s, .int (iI st), .ref sv, .ref tx, .int (iI ty), .int (iI th), .ref fa, .ref ea, .ref go, .ref qu, .int (iI un), .int (iI om1)])), (tx, .inl (g_C (x_G X), 60, .inl (aI ff)))]) rfl [] rfl (Nat.le_of_ble_eq_true rfl) ⟨Nat.le_of_ble_eq_true rfl, Nat.le_of_ble_eq_true rfl⟩ dX7_reads_127 (fun _ => [(mo, .inr (6, [.ref s, .int (iI st), .ref sv, .ref tx, .int (iI ty), .int (iI th), .ref fa, .ref ea, .ref go, .ref qu, .int (iI un), .int (iI om1)])), (s, .inl (g_I (x_G X), 756, .inl (aI s1))), (ea, .inl (g_I (x_G X), 40, .inl (aI fe))), (tx, .inl (g_C (x_G X), 60, .inl (aI ff)))]) (Or.inl (fun _ => ⟨rfl, rfl⟩)) (fun u127 => [.int (iI u127)]) (fun _ => rfl) 0 0 ⟨rfl, rfl⟩ (fun u127 hu127 => ?_)
                    rw [show p.toNat = a + sl by omega] at hu127
                    have hr127 := hTr (a + sl)
                    refine k_bipush C dX7_reads_130 (by decide) ?_
                    refine k_bipush C dX7_reads_132 (by decide) ?_
                    refine k_callS C (y := yX7_in) [.int (iI u127), .int (iI 49), .int (iI 57)] 3 rfl (c_X7_in (x_l X) (x_G X) u127 49 57 (by omega) (by omega) (by omega)) gX7_reads_X7_in rfl ⟨by decide +kernel, by decide +kernel, by decide +kernel⟩ ⟨by decide, by decide⟩ [] (by decide) (wc := []) rfl [] rfl (Nat.le_of_ble_eq_true rfl) ⟨Nat.le_of_ble_eq_true rfl, Nat.le_of_ble_eq_true rfl⟩ dX7_reads_134 (fun _ => [(mo, .inr (6, [.ref s, .int (iI st), .ref sv, .ref tx, .int (iI ty), .int (iI th), .ref fa, .ref ea, .ref go, .ref qu, .int (iI un), .int (iI om1)])), (s, .inl (g_I (x_G X), 756, .inl (aI s1))), (ea, .inl (g_I (x_G X), 40, .inl (aI fe))), (tx, .inl (g_C (x_G X), 60, .inl (aI ff)))]) (Or.inl (fun _ => ⟨rfl, rfl⟩)) (fun u134 => [.int (iI u134)]) (fun _ => rfl) 0 0 ⟨rfl, rfl⟩ (fun u134 hu134 => ?_)
                    refine k_if_ne C 142 (⟨by omega, by omega⟩) dX7_reads_137 (by decide) (fun c137 => ?_) (fun c137 => ?_)
                    · skip
                      have hu134 := bo_t hu134 c137
                      have h19 : 49 ≤ (tA ff ty) (a + sl) ∧ (tA ff ty) (a + sl) ≤ 57 := by omega
                      refine k_iload_n C 5 rfl dX7_reads_142 rfl ?_
                      refine k_istore C (lo' := [(8, .int (iI p)), (7, .int (iI 0)), (6, .int (iI i)), (5, .int (iI 0)), (4, .int (iI u12)), (3, .int (iI u4)), (2, .int (iI p)), (0, .ref mo), (1, .int (iI 1))]) dX7_reads_143 (by decide) rfl ?_
                      have L145 : ∀ (nf : Nat) (q : Nat) (p2 : Int) (x : Int), (p2 = ((a + sl + q : Nat) : Int) ∧ q ≤ 5 ∧ NmI (tA ff ty) 0 (a + sl) (a + sl + q) x ∧ Dgt q x) → 5 - q < nf → K_ X 0 0 [(mo, .inr (6, [.ref s, .int (iI st), .ref sv, .ref tx, .int (iI ty), .int (iI th), .ref fa, .ref ea, .ref go, .ref qu, .int (iI un), .int (iI om1)])), (s, .inl (g_I (x_G X), 756, .inl (aI s1))), (ea, .inl (g_I (x_G X), 40, .inl (aI fe))), (tx, .inl (g_C (x_G X), 60, .inl (aI ff)))] 145 [(8, .int (iI p)), (7, .int (iI x)), (6, .int (iI i)), (5, .int (iI 0)), (4, .int (iI u12)), (3, .int (iI u4)), (2, .int (iI p2)), (0, .ref mo), (1, .int (iI 1))] [] := by
                        intro nf
                        induction nf with
                        | zero => intro q p2 x hI hm; exact absurd hm (Nat.not_lt_zero _)
                        | succ nf ih145 =>
                          intro q p2 x hI145 hm145
                          obtain ⟨k1, k2, k3, k4⟩ := hI145
                          have hxr : 0 ≤ x ∧ x ≤ 99999 := by unfold Dgt at k4; omega
                          refine k_iload_n C 6 rfl dX7_reads_145 rfl ?_
                          refine k_iload C 0 rfl dX7_reads_146 ?_
                          refine k_iconst C dX7_reads_148 ?_
                          refine k_iadd C dX7_reads_149 ?_
                          refine k_nmI (fun v149 e149 => ?_)
                          refine k_icmp_ge C 190 (⟨by omega, by omega⟩) (⟨by omega, by omega⟩) dX7_reads_150 (by decide) (fun c150 => ?_) (fun c150 => ?_)
                          · skip
                            obtain ⟨hN, hx1, hx9⟩ := nm_be hF hsw hw k3 k4 h19 (Or.inl (by omega))
                            have hnn : ¬ (x = 0 ∧ wnn (sW (tA ff ty) a) = 1) := fun z => by omega
                            have hX := ob_X (T := (tA ff ty)) (a := a) (V := x) (X := x) (Or.inl rfl)
                            have hPp : p2 = ((a + sl + q : Nat) : Int) := k1
                            refine k_goto C 227 dX7_reads_190 (by decide) ?_
                            try have hX := ob_X (T := (tA ff ty)) (a := a) (V := (tA ff ty) (a + sl) - 48) (X := v221) (Or.inl (by omega))
                            try have hPp : v224 = ((a + sl + 1 : Nat) : Int) := by omega
                            refine k_iload_n C 8 rfl dX7_reads_227 rfl ?_
                            refine k_if_eq C 239 (⟨by omega, by omega⟩) dX7_reads_228 (by decide) (fun c228 => ?_) (fun c228 => ?_)
                            · exfalso; omega
                            · skip
                              refine k_aload_n C 7 rfl dX7_reads_231 rfl ?_
                              refine k_iload C 3 rfl dX7_reads_232 ?_
                              refine k_iload C 1 rfl dX7_reads_234 ?_
                              refine k_callV C (y := yX7_does) [.int (iI 0), .int (iI x)] 2 rfl (c_X7_does (x_l X) (x_G X) mo s sv tx fa ea go qu st ty th un om1 nq kq mq 0 x s1 fe (by omega) (by omega) (i6) (hE)) gX7_reads_X7_does rfl ⟨rfl, by decide +kernel, by decide +kernel, by decide +kernel⟩ ⟨by decide, by decide⟩ 0 (fs := [.ref s, .int (iI st), .ref sv, .ref tx, .int (iI ty), .int (iI th), .ref fa, .ref ea, .ref go, .ref qu, .int (iI un), .int (iI om1)]) rfl rfl rfl [0, 1, 2] (by decide) (wc := [(mo, .inr (6, [.ref s, .int (iI st), .ref sv, .ref tx, .int (iI ty), .int (iI th), .ref fa, .ref ea, .ref go, .ref qu, .int (iI un), .int (iI om1)])), (s, .inl (g_I (x_G X), 756, .inl (aI s1))), (ea, .inl (g_I (x_G X), 40, .inl (aI fe)))]) rfl [] rfl (Nat.le_of_ble_eq_true rfl) ⟨Nat.le_of_ble_eq_true rfl, Nat.le_of_ble_eq_true rfl⟩ dX7_reads_236 (fun u236 => [(mo, .inr (6, [.ref s, .int (iI st), .ref sv, .ref tx, .int (iI ty), .int (iI th), .ref fa, .ref ea, .ref go, .ref qu, .int (iI un), .int (iI u236.2)])), (s, .inl (g_I (x_G X), 756, .inl (aI u236.1))), (ea, .inl (g_I (x_G X), 40, .inl (aI fe))), (tx, .inl (g_C (x_G X), 60, .inl (aI ff)))]) (Or.inr ⟨[3], [1, 2, 3, 0], [(tx, .inl (g_C (x_G X), 60, .inl (aI ff)))], rfl, by decide, by decide, by decide, fun _ => rfl⟩) (fun u236 => []) (fun _ => rfl) 0 0 ⟨rfl, rfl⟩ (fun u236 hu236 => ?_)
                              refine k_iload_n C 6 rfl dX7_reads_239 rfl ?_
                              refine k_aload_n C 7 rfl dX7_reads_240 rfl ?_
                              refine k_get C (Cn := RX7) (T := TX7) (N := 12) (ci := 6) (ref := "StruckCountsModel") in_X7_reads_X7 0 rfl rfl 4 (by decide) 1 rfl rfl (v := .int (iI ty)) rfl dX7_reads_241 ?_
                              refine k_icmp_lt C 249 (⟨by omega, by omega⟩) (⟨by omega, by omega⟩) dX7_reads_244 (by decide) (fun c244 => ?_) (fun c244 => ?_)
                              · skip
                                refine k_aload_n C 7 rfl dX7_reads_249 rfl ?_
                                refine k_iload_n C 6 rfl dX7_reads_250 rfl ?_
                                refine k_callV C (y := yX7_at) [.int (iI p2)] 1 rfl (c_X7_at (x_l X) (x_G X) mo s sv tx fa ea go qu st ty th un u236.2 p2 ff (by omega) (by omega)) gX7_reads_X7_at rfl ⟨rfl, by decide +kernel, by decide +kernel, by decide +kernel⟩ ⟨by decide, by decide⟩ 0 (fs := [.ref s, .int (iI st), .ref sv, .ref tx, .int (iI ty), .int (iI th), .ref fa, .ref ea, .ref go, .ref qu, .int (iI un), .int (iI u236.2)]) rfl rfl rfl [0, 3] (by decide) (wc := [(mo, .inr (6, [.ref s, .int (iI st), .ref sv, .ref tx, .int (iI ty), .int (iI th), .ref fa, .ref ea, .ref go, .ref qu, .int (iI un), .int (iI u236.2)])), (tx, .inl (g_C (x_G X), 60, .inl (aI ff)))]) rfl [] rfl (Nat.le_of_ble_eq_true rfl) ⟨Nat.le_of_ble_eq_true rfl, Nat.le_of_ble_eq_true rfl⟩ dX7_reads_251 (fun _ => [(mo, .inr (6, [.ref s, .int (iI st), .ref sv, .ref tx, .int (iI ty), .int (iI th), .ref fa, .ref ea, .ref go, .ref qu, .int (iI un), .int (iI u236.2)])), (s, .inl (g_I (x_G X), 756, .inl (aI u236.1))), (ea, .inl (g_I (x_G X), 40, .inl (aI fe))), (tx, .inl (g_C (x_G X), 60, .inl (aI ff)))]) (Or.inl (fun _ => ⟨rfl, rfl⟩)) (fun u251 => [.int (iI u251)]) (fun _ => rfl) 0 0 ⟨rfl, rfl⟩ (fun u251 hu251 => ?_)
                                rw [show _ = _ from congrArg Int.toNat hPp, Int.toNat_natCast] at hu251
                                have hr251 : 0 ≤ u251 ∧ u251 ≤ 65535 := by rw [hu251]; exact hTr _
                                refine k_bipush C dX7_reads_254 (by decide) ?_
                                refine k_icmp_eq C 261 (⟨by omega, by omega⟩) (⟨by omega, by omega⟩) dX7_reads_256 (by decide) (fun c256 => ?_) (fun c256 => ?_)
                                · skip
                                  have h44 := hu251.symm.trans c256
                                  obtain ⟨v261, e261⟩ : ∃ y : Int, y = p2 + 1 := ⟨_, rfl⟩
                                  refine k_iinc C (lo' := [(2, .int (iI v261)), (8, .int (iI p)), (7, .int (iI x)), (6, .int (iI i)), (5, .int (iI 0)), (4, .int (iI u12)), (3, .int (iI u4)), (0, .ref mo), (1, .int (iI 1))]) 6 rfl dX7_reads_261 (by decide) v261 e261 rfl ?_
                                  have hPI := pi_nx e261 hPp
                                  refine k_goto C 2 dX7_reads_264 (by decide) ?_
                                  refine k_lo (lo' := [(2, .int (iI v261)), (0, .ref mo), (1, .int (iI 1))]) [0, 7, 8] rfl ?_
                                  exact ih2 (f - 1) _ _ _ _ _ v261 u236.2 u236.1 (⟨hPI, by omega, by omega, by omega, by rw [← (fl_nx (L := ty.toNat) (f := f) (by omega) hF hN hnn (by omega) h44).2]; exact i5, hu236.1, MO_t i7 hu236.2.1, (LdM_nx LD (by omega) hF hN hnn (by omega) h44 hX hw i8 hu236).2, (LdM_nx LD (by omega) hF hN hnn (by omega) h44 hX hw i8 hu236).1⟩) (by omega)
                                · skip
                                  refine k_iload_n C 6 rfl dX7_reads_259 rfl ?_
                                  exact k_iret C hR (u := (p2, u236.1, u236.2)) rfl (by (try dsimp only) <;> exact (absurd LD.1 (by rw [fl_ft (by omega) hF hN hnn (by omega) (fun z => c256 (hu251.trans z))]; omega))) rfl (Nat.le_of_ble_eq_true rfl) (Nat.le_of_ble_eq_true rfl) dX7_reads_260
                              · skip
                                refine k_iconst C dX7_reads_247 ?_
                                exact k_iret C hR (u := ((-1), u236.1, u236.2)) rfl (by (try dsimp only) <;> exact (⟨rfl, LdM_end LD (by omega) hF hN hnn (by omega) hX hw i7 i8 hu236⟩)) rfl (Nat.le_of_ble_eq_true rfl) (Nat.le_of_ble_eq_true rfl) dX7_reads_248
                          · skip
                            refine k_aload_n C 7 rfl dX7_reads_153 rfl ?_
                            refine k_iload_n C 6 rfl dX7_reads_154 rfl ?_
                            refine k_callV C (y := yX7_at) [.int (iI p2)] 1 rfl (c_X7_at (x_l X) (x_G X) mo s sv tx fa ea go qu st ty th un om1 p2 ff (by omega) (by omega)) gX7_reads_X7_at rfl ⟨rfl, by decide +kernel, by decide +kernel, by decide +kernel⟩ ⟨by decide, by decide⟩ 0 (fs := [.ref s, .int (iI st), .ref sv, .ref tx, .int (iI ty), .int (iI th), .ref fa, .ref ea, .ref go, .ref qu, .int (iI un), .int (iI om1)]) rfl rfl rfl [0, 3] (by decide) (wc := [(mo, .inr (6, [.ref s, .int (iI st), .ref sv, .ref tx, .int (iI ty), .int (iI th), .ref fa, .ref ea, .ref go, .ref qu, .int (iI un), .int (iI om1)])), (tx, .inl (g_C (x_G X), 60, .inl (aI ff)))]) rfl [] rfl (Nat.le_of_ble_eq_true rfl) ⟨Nat.le_of_ble_eq_true rfl, Nat.le_of_ble_eq_true rfl⟩ dX7_reads_155 (fun _ => [(mo, .inr (6, [.ref s, .int (iI st), .ref sv, .ref tx, .int (iI ty), .int (iI th), .ref fa, .ref ea, .ref go, .ref qu, .int (iI un), .int (iI om1)])), (s, .inl (g_I (x_G X), 756, .inl (aI s1))), (ea, .inl (g_I (x_G X), 40, .inl (aI fe))), (tx, .inl (g_C (x_G X), 60, .inl (aI ff)))]) (Or.inl (fun _ => ⟨rfl, rfl⟩)) (fun u155 => [.int (iI u155)]) (fun _ => rfl) 0 0 ⟨rfl, rfl⟩ (fun u155 hu155 => ?_)
                            rw [show p2.toNat = a + sl + q by omega] at hu155
                            have hr155 := hTr (a + sl + q)
                            refine k_bipush C dX7_reads_158 (by decide) ?_
                            refine k_bipush C dX7_reads_160 (by decide) ?_
                            refine k_callS C (y := yX7_in) [.int (iI u155), .int (iI 48), .int (iI 57)] 3 rfl (c_X7_in (x_l X) (x_G X) u155 48 57 (by omega) (by omega) (by omega)) gX7_reads_X7_in rfl ⟨by decide +kernel, by decide +kernel, by decide +kernel⟩ ⟨by decide, by decide⟩ [] (by decide) (wc := []) rfl [] rfl (Nat.le_of_ble_eq_true rfl) ⟨Nat.le_of_ble_eq_true rfl, Nat.le_of_ble_eq_true rfl⟩ dX7_reads_162 (fun _ => [(mo, .inr (6, [.ref s, .int (iI st), .ref sv, .ref tx, .int (iI ty), .int (iI th), .ref fa, .ref ea, .ref go, .ref qu, .int (iI un), .int (iI om1)])), (s, .inl (g_I (x_G X), 756, .inl (aI s1))), (ea, .inl (g_I (x_G X), 40, .inl (aI fe))), (tx, .inl (g_C (x_G X), 60, .inl (aI ff)))]) (Or.inl (fun _ => ⟨rfl, rfl⟩)) (fun u162 => [.int (iI u162)]) (fun _ => rfl) 0 0 ⟨rfl, rfl⟩ (fun u162 hu162 => ?_)
                            refine k_if_eq C 190 (⟨by omega, by omega⟩) dX7_reads_165 (by decide) (fun c165 => ?_) (fun c165 => ?_)
                            · skip
                              have hu162 := bo_f hu162 c165
                              obtain ⟨hN, hx1, hx9⟩ := nm_be hF hsw hw k3 k4 h19 (Or.inr (by omega))
                              have hnn : ¬ (x = 0 ∧ wnn (sW (tA ff ty) a) = 1) := fun z => by omega
                              have hX := ob_X (T := (tA ff ty)) (a := a) (V := x) (X := x) (Or.inl rfl)
                              have hPp : p2 = ((a + sl + q : Nat) : Int) := k1
                              refine k_goto C 227 dX7_reads_190 (by decide) ?_
                              try have hX := ob_X (T := (tA ff ty)) (a := a) (V := (tA ff ty) (a + sl) - 48) (X := v221) (Or.inl (by omega))
                              try have hPp : v224 = ((a + sl + 1 : Nat) : Int) := by omega
                              refine k_iload_n C 8 rfl dX7_reads_227 rfl ?_
                              refine k_if_eq C 239 (⟨by omega, by omega⟩) dX7_reads_228 (by decide) (fun c228 => ?_) (fun c228 => ?_)
                              · exfalso; omega
                              · skip
                                refine k_aload_n C 7 rfl dX7_reads_231 rfl ?_
                                refine k_iload C 3 rfl dX7_reads_232 ?_
                                refine k_iload C 1 rfl dX7_reads_234 ?_
                                refine k_callV C (y := yX7_does) [.int (iI 0), .int (iI x)] 2 rfl (c_X7_does (x_l X) (x_G X) mo s sv tx fa ea go qu st ty th un om1 nq kq mq 0 x s1 fe (by omega) (by omega) (i6) (hE)) gX7_reads_X7_does rfl ⟨rfl, by decide +kernel, by decide +kernel, by decide +kernel⟩ ⟨by decide, by decide⟩ 0 (fs := [.ref s, .int (iI st), .ref sv, .ref tx, .int (iI ty), .int (iI th), .ref fa, .ref ea, .ref go, .ref qu, .int (iI un), .int (iI om1)]) rfl rfl rfl [0, 1, 2] (by decide) (wc := [(mo, .inr (6, [.ref s, .int (iI st), .ref sv, .ref tx, .int (iI ty), .int (iI th), .ref fa, .ref ea, .ref go, .ref qu, .int (iI un), .int (iI om1)])), (s, .inl (g_I (x_G X), 756, .inl (aI s1))), (ea, .inl (g_I (x_G X), 40, .inl (aI fe)))]) rfl [] rfl (Nat.le_of_ble_eq_true rfl) ⟨Nat.le_of_ble_eq_true rfl, Nat.le_of_ble_eq_true rfl⟩ dX7_reads_236 (fun u236 => [(mo, .inr (6, [.ref s, .int (iI st), .ref sv, .ref tx, .int (iI ty), .int (iI th), .ref fa, .ref ea, .ref go, .ref qu, .int (iI un), .int (iI u236.2)])), (s, .inl (g_I (x_G X), 756, .inl (aI u236.1))), (ea, .inl (g_I (x_G X), 40, .inl (aI fe))), (tx, .inl (g_C (x_G X), 60, .inl (aI ff)))]) (Or.inr ⟨[3], [1, 2, 3, 0], [(tx, .inl (g_C (x_G X), 60, .inl (aI ff)))], rfl, by decide, by decide, by decide, fun _ => rfl⟩) (fun u236 => []) (fun _ => rfl) 0 0 ⟨rfl, rfl⟩ (fun u236 hu236 => ?_)
                                refine k_iload_n C 6 rfl dX7_reads_239 rfl ?_
                                refine k_aload_n C 7 rfl dX7_reads_240 rfl ?_
                                refine k_get C (Cn := RX7) (T := TX7) (N := 12) (ci := 6) (ref := "StruckCountsModel") in_X7_reads_X7 0 rfl rfl 4 (by decide) 1 rfl rfl (v := .int (iI ty)) rfl dX7_reads_241 ?_
                                refine k_icmp_lt C 249 (⟨by omega, by omega⟩) (⟨by omega, by omega⟩) dX7_reads_244 (by decide) (fun c244 => ?_) (fun c244 => ?_)
                                · skip
                                  refine k_aload_n C 7 rfl dX7_reads_249 rfl ?_
                                  refine k_iload_n C 6 rfl dX7_reads_250 rfl ?_
                                  refine k_callV C (y := yX7_at) [.int (iI p2)] 1 rfl (c_X7_at (x_l X) (x_G X) mo s sv tx fa ea go qu st ty th un u236.2 p2 ff (by omega) (by omega)) gX7_reads_X7_at rfl ⟨rfl, by decide +kernel, by decide +kernel, by decide +kernel⟩ ⟨by decide, by decide⟩ 0 (fs := [.ref s, .int (iI st), .ref sv, .ref tx, .int (iI ty), .int (iI th), .ref fa, .ref ea, .ref go, .ref qu, .int (iI un), .int (iI u236.2)]) rfl rfl rfl [0, 3] (by decide) (wc := [(mo, .inr (6, [.ref s, .int (iI st), .ref sv, .ref tx, .int (iI ty), .int (iI th), .ref fa, .ref ea, .ref go, .ref qu, .int (iI un), .int (iI u236.2)])), (tx, .inl (g_C (x_G X), 60, .inl (aI ff)))]) rfl [] rfl (Nat.le_of_ble_eq_true rfl) ⟨Nat.le_of_ble_eq_true rfl, Nat.le_of_ble_eq_true rfl⟩ dX7_reads_251 (fun _ => [(mo, .inr (6, [.ref s, .int (iI st), .ref sv, .ref tx, .int (iI ty), .int (iI th), .ref fa, .ref ea, .ref go, .ref qu, .int (iI un), .int (iI u236.2)])), (s, .inl (g_I (x_G X), 756, .inl (aI u236.1))), (ea, .inl (g_I (x_G X), 40, .inl (aI fe))), (tx, .inl (g_C (x_G X), 60, .inl (aI ff)))]) (Or.inl (fun _ => ⟨rfl, rfl⟩)) (fun u251 => [.int (iI u251)]) (fun _ => rfl) 0 0 ⟨rfl, rfl⟩ (fun u251 hu251 => ?_)
                                  rw [show _ = _ from congrArg Int.toNat hPp, Int.toNat_natCast] at hu251
                                  have hr251 : 0 ≤ u251 ∧ u251 ≤ 65535 := by rw [hu251]; exact hTr _
                                  refine k_bipush C dX7_reads_254 (by decide) ?_
                                  refine k_icmp_eq C 261 (⟨by omega, by omega⟩) (⟨by omega, by omega⟩) dX7_reads_256 (by decide) (fun c256 => ?_) (fun c256 => ?_)
                                  · skip
                                    have h44 := hu251.symm.trans c256
                                    obtain ⟨v261, e261⟩ : ∃ y : Int, y = p2 + 1 := ⟨_, rfl⟩
                                    refine k_iinc C (lo' := [(2, .int (iI v261)), (8, .int (iI p)), (7, .int (iI x)), (6, .int (iI i)), (5, .int (iI 0)), (4, .int (iI u12)), (3, .int (iI u4)), (0, .ref mo), (1, .int (iI 1))]) 6 rfl dX7_reads_261 (by decide) v261 e261 rfl ?_
                                    have hPI := pi_nx e261 hPp
                                    refine k_goto C 2 dX7_reads_264 (by decide) ?_
                                    refine k_lo (lo' := [(2, .int (iI v261)), (0, .ref mo), (1, .int (iI 1))]) [0, 7, 8] rfl ?_
                                    exact ih2 (f - 1) _ _ _ _ _ v261 u236.2 u236.1 (⟨hPI, by omega, by omega, by omega, by rw [← (fl_nx (L := ty.toNat) (f := f) (by omega) hF hN hnn (by omega) h44).2]; exact i5, hu236.1, MO_t i7 hu236.2.1, (LdM_nx LD (by omega) hF hN hnn (by omega) h44 hX hw i8 hu236).2, (LdM_nx LD (by omega) hF hN hnn (by omega) h44 hX hw i8 hu236).1⟩) (by omega)
                                  · skip
                                    refine k_iload_n C 6 rfl dX7_reads_259 rfl ?_
                                    exact k_iret C hR (u := (p2, u236.1, u236.2)) rfl (by (try dsimp only) <;> exact (absurd LD.1 (by rw [fl_ft (by omega) hF hN hnn (by omega) (fun z => c256 (hu251.trans z))]; omega))) rfl (Nat.le_of_ble_eq_true rfl) (Nat.le_of_ble_eq_true rfl) dX7_reads_260
                                · skip
                                  refine k_iconst C dX7_reads_247 ?_
                                  exact k_iret C hR (u := ((-1), u236.1, u236.2)) rfl (by (try dsimp only) <;> exact (⟨rfl, LdM_end LD (by omega) hF hN hnn (by omega) hX hw i7 i8 hu236⟩)) rfl (Nat.le_of_ble_eq_true rfl) (Nat.le_of_ble_eq_true rfl) dX7_reads_248
                            · skip
                              have hu162 := bo_t hu162 c165
                              refine k_bipush C dX7_reads_168 (by decide) ?_
                              refine k_iload C 1 rfl dX7_reads_170 ?_
                              refine k_imul C dX7_reads_172 ?_
                              refine k_nmI (fun v172 e172 => ?_)
                              refine k_aload_n C 7 rfl dX7_reads_173 rfl ?_
                              refine k_iload_n C 6 rfl dX7_reads_174 rfl ?_
                              refine k_callV C (y := yX7_at) [.int (iI p2)] 1 rfl (c_X7_at (x_l X) (x_G X) mo s sv tx fa ea go qu st ty th un om1 p2 ff (by omega) (by omega)) gX7_reads_X7_at rfl ⟨rfl, by decide +kernel, by decide +kernel, by decide +kernel⟩ ⟨by decide, by decide⟩ 0 (fs := [.ref s, .int (iI st), .ref sv, .ref tx, .int (iI ty), .int (iI th), .ref fa, .ref ea, .ref go, .ref qu, .int (iI un), .int (iI om1)]) rfl rfl rfl [0, 3] (by decide) (wc := [(mo, .inr (6, [.ref s, .int (iI st), .ref sv, .ref tx, .int (iI ty), .int (iI th), .ref fa, .ref ea, .ref go, .ref qu, .int (iI un), .int (iI om1)])), (tx, .inl (g_C (x_G X), 60, .inl (aI ff)))]) rfl [.int (iI v172)] rfl (Nat.le_of_ble_eq_true rfl) ⟨Nat.le_of_ble_eq_true rfl, Nat.le_of_ble_eq_true rfl⟩ dX7_reads_175 (fun _ => [(mo, .inr (6, [.ref s, .int (iI st), .ref sv, .ref tx, .int (iI ty), .int (iI th), .ref fa, .ref ea, .ref go, .ref qu, .int (iI un), .int (iI om1)])), (s, .inl (g_I (x_G X), 756, .inl (aI s1))), (ea, .inl (g_I (x_G X), 40, .inl (aI fe))), (tx, .inl (g_C (x_G X), 60, .inl (aI ff)))]) (Or.inl (fun _ => ⟨rfl, rfl⟩)) (fun u175 => [.int (iI u175), .int (iI v172)]) (fun _ => rfl) 0 0 ⟨rfl, rfl⟩ (fun u175 hu175 => ?_)
                              rw [show p2.toNat = a + sl + q by omega] at hu175
                              refine k_iadd C dX7_reads_178 ?_
                              refine k_nmI (fun v178 e178 => ?_)
                              refine k_bipush C dX7_reads_179 (by decide) ?_
                              refine k_isub C dX7_reads_181 ?_
                              refine k_nmI (fun v181 e181 => ?_)
                              have hbg := nm_bg (x2 := v181) k3 k4 (by omega) (by omega) (fun e => by rw [e, Nat.add_zero] at hu155 hr155 ⊢; omega) (by omega)
                              refine k_istore C (lo' := [(7, .int (iI v181)), (8, .int (iI p)), (6, .int (iI i)), (5, .int (iI 0)), (4, .int (iI u12)), (3, .int (iI u4)), (2, .int (iI p2)), (0, .ref mo), (1, .int (iI 1))]) dX7_reads_182 (by decide) rfl ?_
                              obtain ⟨v184, e184⟩ : ∃ y : Int, y = p2 + 1 := ⟨_, rfl⟩
                              refine k_iinc C (lo' := [(2, .int (iI v184)), (7, .int (iI v181)), (8, .int (iI p)), (6, .int (iI i)), (5, .int (iI 0)), (4, .int (iI u12)), (3, .int (iI u4)), (0, .ref mo), (1, .int (iI 1))]) 6 rfl dX7_reads_184 (by decide) v184 e184 rfl ?_
                              refine k_goto C 145 dX7_reads_187 (by decide) ?_
                              refine k_lo (lo' := [(8, .int (iI p)), (7, .int (iI v181)), (6, .int (iI i)), (5, .int (iI 0)), (4, .int (iI u12)), (3, .int (iI u4)), (2, .int (iI v184)), (0, .ref mo), (1, .int (iI 1))]) [2, 1, 3, 4, 5, 6, 0, 7, 8] rfl ?_
                              exact ih145 (q + 1) v184 v181 (⟨by omega, by omega, hbg.1, hbg.2⟩) (by omega)
                      exact L145 _ 0 p 0 (⟨by omega, by omega, NmI_0, Or.inl ⟨rfl, rfl⟩⟩) (Nat.lt_succ_self _)
                    · skip
                      have hu134 := bo_f hu134 c137
                      have hN := nm_b0 hF hsw hw (by omega)
                      refine k_iload_n C 5 rfl dX7_reads_140 rfl ?_
                      exact k_iret C hR (u := (p, s1, om1)) rfl (by (try dsimp only) <;> exact (absurd LD.1 (by rw [fl_nn (by omega) hF hw hN]; omega))) rfl (Nat.le_of_ble_eq_true rfl) (Nat.le_of_ble_eq_true rfl) dX7_reads_141
              · skip
                have hsl : sl < wl (sW (tA ff ty) a) := wc_w hw4 j2 (by rw [← h77]; omega)
                refine k_aload_n C 5 rfl dX7_reads_83 rfl ?_
                refine k_iload_n C 4 rfl dX7_reads_84 rfl ?_
                refine k_callV C (y := yX7_at) [.int (iI p)] 1 rfl (c_X7_at (x_l X) (x_G X) mo s sv tx fa ea go qu st ty th un om1 p ff (by omega) (by omega)) gX7_reads_X7_at rfl ⟨rfl, by decide +kernel, by decide +kernel, by decide +kernel⟩ ⟨by decide, by decide⟩ 0 (fs := [.ref s, .int (iI st), .ref sv, .ref tx, .int (iI ty), .int (iI th), .ref fa, .ref ea, .ref go, .ref qu, .int (iI un), .int (iI om1)]) rfl rfl rfl [0, 3] (by decide) (wc := [(mo, .inr (6, [.ref s, .int (iI st), .ref sv, .ref tx, .int (iI ty), .int (iI th), .ref fa, .ref ea, .ref go, .ref qu, .int (iI un), .int (iI om1)])), (tx, .inl (g_C (x_G X), 60, .inl (aI ff)))]) rfl [] rfl (Nat.le_of_ble_eq_true rfl) ⟨Nat.le_of_ble_eq_true rfl, Nat.le_of_ble_eq_true rfl⟩ dX7_reads_85 (fun _ => [(mo, .inr (6, [.ref s, .int (iI st), .ref sv, .ref tx, .int (iI ty), .int (iI th), .ref fa, .ref ea, .ref go, .ref qu, .int (iI un), .int (iI om1)])), (s, .inl (g_I (x_G X), 756, .inl (aI s1))), (ea, .inl (g_I (x_G X), 40, .inl (aI fe))), (tx, .inl (g_C (x_G X), 60, .inl (aI ff)))]) (Or.inl (fun _ => ⟨rfl, rfl⟩)) (fun u85 => [.int (iI u85)]) (fun _ => rfl) 0 0 ⟨rfl, rfl⟩ (fun u85 hu85 => ?_)
                rw [show p.toNat = a + sl by omega] at hu85
                have hr85 := hTr (a + sl)
                refine k_iload C 1 rfl dX7_reads_88 ?_
                refine k_iload_n C 4 rfl dX7_reads_90 rfl ?_
                refine k_iload C 0 rfl dX7_reads_91 ?_
                refine k_isub C dX7_reads_93 ?_
                refine k_nmI (fun v93 e93 => ?_)
                refine k_callS C (y := yX7_letter) [.int (iI 0), .int (iI v93)] 2 rfl (c_X7_letter (x_l X) (x_G X) 0 v93 (by omega) (by omega)) gX7_reads_X7_letter rfl ⟨by decide +kernel, by decide +kernel, by decide +kernel⟩ ⟨by decide, by decide⟩ [] (by decide) (wc := []) rfl [.int (iI u85)] rfl (Nat.le_of_ble_eq_true rfl) ⟨Nat.le_of_ble_eq_true rfl, Nat.le_of_ble_eq_true rfl⟩ dX7_reads_94 (fun _ => [(mo, .inr (6, [.ref s, .int (iI st), .ref sv, .ref tx, .int (iI ty), .int (iI th), .ref fa, .ref ea, .ref go, .ref qu, .int (iI un), .int (iI om1)])), (s, .inl (g_I (x_G X), 756, .inl (aI s1))), (ea, .inl (g_I (x_G X), 40, .inl (aI fe))), (tx, .inl (g_C (x_G X), 60, .inl (aI ff)))]) (Or.inl (fun _ => ⟨rfl, rfl⟩)) (fun u94 => [.int (iI u94), .int (iI u85)]) (fun _ => rfl) 0 0 ⟨rfl, rfl⟩ (fun u94 hu94 => ?_)
                have h94 : u94 = wc (sW (tA ff ty) a) sl := by (rw [hu94, hw, show v93.toNat = sl by omega]) <;> rfl
                have hr94 := wc_rng hw4 hsl
                refine k_icmp_eq C 102 (⟨by omega, by omega⟩) (⟨by omega, by omega⟩) dX7_reads_97 (by decide) (fun c97 => ?_) (fun c97 => ?_)
                · skip
                  obtain ⟨v102, e102⟩ : ∃ y : Int, y = p + 1 := ⟨_, rfl⟩
                  refine k_iinc C (lo' := [(2, .int (iI v102)), (6, .int (iI i)), (5, .int (iI 0)), (4, .int (iI u12)), (3, .int (iI u4)), (0, .ref mo), (1, .int (iI 1))]) 4 rfl dX7_reads_102 (by decide) v102 e102 rfl ?_
                  refine k_goto C 71 dX7_reads_105 (by decide) ?_
                  refine k_lo (lo' := [(6, .int (iI i)), (5, .int (iI 0)), (4, .int (iI u12)), (3, .int (iI u4)), (2, .int (iI v102)), (0, .ref mo), (1, .int (iI 1))]) [1, 2, 3, 4, 0, 5, 6] rfl ?_
                  exact ih71 (sl + 1) v102 (⟨by omega, by omega, csn_step j3 (by rw [← hu85, ← h94]; exact c97)⟩) (by omega)
                · skip
                  refine k_iload_n C 4 rfl dX7_reads_100 rfl ?_
                  exact k_iret C hR (u := (p, s1, om1)) rfl (by (try dsimp only) <;> exact (absurd LD.1 (by rw [fl_sp (by omega) hw4 j3 (by rw [← hu85, ← h94]; exact c97) hsl]; omega))) rfl (Nat.le_of_ble_eq_true rfl) (Nat.le_of_ble_eq_true rfl) dX7_reads_101
          exact L71 _ 0 i (⟨by omega, Nat.zero_le _, rfl⟩) (Nat.lt_succ_self _)
        · exfalso; omega
  exact L2 _ 60 0 n k m 0 0 om fs (⟨rfl, by omega, by omega, by omega, rfl, hM, MO_r, by omega, LdM_0 hfl0⟩) (Nat.lt_succ_self _)
