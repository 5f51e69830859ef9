def obR (n : Nat) (s : Bool) : Nat → Nat → Nat → Nat × Nat × Nat
  | 0, k, m => (k, m, 0)
  | t + 1, k, m => if nxI n k = -1 then (k, m, t + 1) else obR n s t (k + 1) (if s = true then m ||| 2 ^ k else m)
def obW (i : Nat) (x : Int) (n k m : Nat) : Nat × Nat × Nat × Nat := if i = 0 then (x.toNat, 0, 0, 0) else if i = 3 then (n, 0, 0, 0) else (n, obR n (decide (i = 1)) (max 1 x).toNat k m)
theorem obR_no {n t k m : Nat} {s : Bool} (h : nxI n k = -1) : obR n s (t + 1) k m = (k, m, t + 1) := if_pos h
theorem obR_go {n t k m : Nat} {s : Bool} (h : ¬ nxI n k = -1) : obR n s (t + 1) k m = obR n s t (k + 1) (if s = true then m ||| 2 ^ k else m) := if_neg h
theorem obW_0 {x : Int} {n k m : Nat} : obW 0 x n k m = (x.toNat, 0, 0, 0) := rfl
theorem obW_3 {x : Int} {n k m : Nat} : obW 3 x n k m = (n, 0, 0, 0) := rfl
theorem obW_r {i : Nat} {x : Int} {n k m : Nat} (h : ¬ i = 0) (h3 : ¬ i = 3) : obW i x n k m = (n, obR n (decide (i = 1)) (max 1 x).toNat k m) := by
  unfold obW; rw [if_neg h, if_neg h3]
def ObI (i : Nat) (x : Int) (n k m : Nat) (T d : Int) (kq mq : Nat) : Prop := obR n (decide (i = 1)) (T - d).toNat kq mq = obR n (decide (i = 1)) (max 1 x).toNat k m
theorem ObI_end {i n k m kq mq : Nat} {x T d : Int} (h0 : ¬ i = 0) (h3 : ¬ i = 3) (h : ObI i x n k m T d kq mq) (he : T ≤ d) : obW i x n k m = (n, kq, mq, 0) := by
  rw [obW_r h0 h3, ← h, show (T - d).toNat = 0 by omega]; rfl
theorem ObI_no {i n k m kq mq : Nat} {x T d : Int} (h0 : ¬ i = 0) (h3 : ¬ i = 3) (h : ObI i x n k m T d kq mq) (he : d < T) (hn : nxI n kq = -1) : obW i x n k m = (n, kq, mq, (T - d).toNat) := by
  rw [obW_r h0 h3, ← h, show (T - d).toNat = (T - d - 1).toNat + 1 by omega, obR_no hn]
theorem ObI_go {i n k m kq mq : Nat} {x T d d2 : Int} {s : Int} (h : ObI i x n k m T d kq mq) (he : d < T) (hn : ¬ nxI n kq = -1) (hd : d2 = d + 1) (hs : s = 0 ↔ ¬ i = 1) : ObI i x n k m T d2 (kq + 1) (if s = 0 then mq else mq ||| 2 ^ kq) := by
  unfold ObI at *
  rw [← h, show (T - d).toNat = (T - d2).toNat + 1 by omega, obR_go hn]
  by_cases e : i = 1
  · rw [if_neg (fun z => (hs.mp z) e), decide_eq_true e, if_pos rfl]
  · rw [if_pos (hs.mpr e), decide_eq_false e, if_neg (by decide)]

theorem in_X6_strike_X6 : ∀ w ∈ wsX60, w ∈ wsX6_strike := by decide +kernel
set_option maxHeartbeats 4000000 in
set_option maxRecDepth 100000 in
theorem c_X6_strike (l : Launch) (G : KG) (sc tx so pr b2 bo ca ss : Nat) (nw rb : Int) (fb fc fk : Nat → Int) (b t va re su : Nat) (tl tb ts bd cm sk : Int) (n k m : Nat) (fv fr fs : Nat → Int) (R : List (Nat × Nat × Nat)) (sv : Nat → Option (Nat × Nat × Nat)) (hS : BdS n k m bd cm sk) (hT : BdT n k m tl tb ts fv fr fs) (hK : StOK R sv nw rb fb fc fk) (hfl : l.stackTraces = false) : Cxt l G yX6_strike wsX6_strike (rmD 7 1 6) [.ref sc] [(sc, .inr (5, [.ref tx, .ref b, .ref so, .ref pr, .ref b2])), (b, .inr (0, [.ref t, .int (iI tl), .int (iI bd), .int (iI cm), .long (jL sk)])), (t, .inr (3, [.ref va, .ref re, .ref su, .int (iI tb), .int (iI ts)])), (va, .inl (g_I G, 631, .inl (aI fv))), (re, .inl (g_I G, 2524, .inl (aI fr))), (su, .inl (g_J G, 631, .inr (.inl (aL fs)))), (so, .inr (2, [.ref bo, .ref ca, .ref ss, .int (iI nw), .int (iI rb)])), (bo, .inl (g_I G, 16, .inl (aI fb))), (ca, .inl (g_I G, 16, .inl (aI fc))), (ss, .inl (g_J G, 16, .inr (.inl (aL fk))))] (fun u : Int × Int × Int × (Int × Int × Int × (Nat → Int) × (Nat → Int) × (Nat → Int)) × Int × Int × (Nat → Int) × (Nat → Int) × (Nat → Int) => ¬ nxI n k = -1 ∧ u.1 = (cA m k n : Int) - (cA (m ||| 2 ^ k) (k + 1) n : Int) ∧ BdS n (k + 1) (m ||| 2 ^ k) bd u.2.1 u.2.2.1 ∧ BdT n (k + 1) (m ||| 2 ^ k) u.2.2.2.1.1 u.2.2.2.1.2.1 u.2.2.2.1.2.2.1 u.2.2.2.1.2.2.2.1 u.2.2.2.1.2.2.2.2.1 u.2.2.2.1.2.2.2.2.2 ∧ StOK (((n, k, m) :: R).take 14) sv u.2.2.2.2.1 u.2.2.2.2.2.1 u.2.2.2.2.2.2.1 u.2.2.2.2.2.2.2.1 u.2.2.2.2.2.2.2.2) (fun u : Int × Int × Int × (Int × Int × Int × (Nat → Int) × (Nat → Int) × (Nat → Int)) × Int × Int × (Nat → Int) × (Nat → Int) × (Nat → Int) => some (.int (iI u.1))) (fun u : Int × Int × Int × (Int × Int × Int × (Nat → Int) × (Nat → Int) × (Nat → Int)) × Int × Int × (Nat → Int) × (Nat → Int) × (Nat → Int) => [(sc, .inr (5, [.ref tx, .ref b, .ref so, .ref pr, .ref b2])), (b, .inr (0, [.ref t, .int (iI u.2.2.2.1.1), .int (iI bd), .int (iI u.2.1), .long (jL u.2.2.1)])), (t, .inr (3, [.ref va, .ref re, .ref su, .int (iI u.2.2.2.1.2.1), .int (iI u.2.2.2.1.2.2.1)])), (va, .inl (g_I G, 631, .inl (aI u.2.2.2.1.2.2.2.1))), (re, .inl (g_I G, 2524, .inl (aI u.2.2.2.1.2.2.2.2.1))), (su, .inl (g_J G, 631, .inr (.inl (aL u.2.2.2.1.2.2.2.2.2)))), (so, .inr (2, [.ref bo, .ref ca, .ref ss, .int (iI u.2.2.2.2.1), .int (iI u.2.2.2.2.2.1)])), (bo, .inl (g_I G, 16, .inl (aI u.2.2.2.2.2.2.1))), (ca, .inl (g_I G, 16, .inl (aI u.2.2.2.2.2.2.2.1))), (ss, .inl (g_J G, 16, .inr (.inl (aL u.2.2.2.2.2.2.2.2))))]) (fun v : Unit => nxI n k = -1) (fun v : Unit => "java/lang/IllegalStateException") (fun v : Unit => [(sc, .inr (5, [.ref tx, .ref b, .ref so, .ref pr, .ref b2])), (b, .inr (0, [.ref t, .int (iI tl), .int (iI bd), .int (iI cm), .long (jL sk)])), (t, .inr (3, [.ref va, .ref re, .ref su, .int (iI tb), .int (iI ts)])), (va, .inl (g_I G, 631, .inl (aI fv))), (re, .inl (g_I G, 2524, .inl (aI fr))), (su, .inl (g_J G, 631, .inr (.inl (aL fs)))), (so, .inr (2, [.ref bo, .ref ca, .ref ss, .int (iI nw), .int (iI rb)])), (bo, .inl (g_I G, 16, .inl (aI fb))), (ca, .inl (g_I G, 16, .inl (aI fc))), (ss, .inl (g_J G, 16, .inr (.inl (aL fk))))]) := by
  refine Cxt.of (cc := cX6_strike) (maxL := 2) (ret := (some .int)) (by decide +kernel) rfl (Nat.le_of_ble_eq_true rfl) ?_
  intro X C hG hL hnm hR hQ htab
  subst hG
  subst hL
  have C : Cx X cX6_strike RX6 wsX6_strike (some .int) 2 (rmD 7 1 6) := C
  have hTh : Thr X (fun v : Unit => nxI n k = -1) (fun v : Unit => "java/lang/IllegalStateException") (fun v : Unit => [(sc, .inr (5, [.ref tx, .ref b, .ref so, .ref pr, .ref b2])), (b, .inr (0, [.ref t, .int (iI tl), .int (iI bd), .int (iI cm), .long (jL sk)])), (t, .inr (3, [.ref va, .ref re, .ref su, .int (iI tb), .int (iI ts)])), (va, .inl (g_I (x_G X), 631, .inl (aI fv))), (re, .inl (g_I (x_G X), 2524, .inl (aI fr))), (su, .inl (g_J (x_G X), 631, .inr (.inl (aL fs)))), (so, .inr (2, [.ref bo, .ref ca, .ref ss, .int (iI nw), .int (iI rb)])), (bo, .inl (g_I (x_G X), 16, .inl (aI fb))), (ca, .inl (g_I (x_G X), 16, .inl (aI fc))), (ss, .inl (g_J (x_G X), 16, .inr (.inl (aL fk))))]) := ⟨_, by rw [C.R]; exact hQ⟩
  obtain ⟨s1, s2, s3, s4, s5, s6, s7⟩ := id hS
  obtain ⟨r1, r2, r3, r4⟩ := St_rng hK
  show K_ X 0 0 [(sc, .inr (5, [.ref tx, .ref b, .ref so, .ref pr, .ref b2])), (b, .inr (0, [.ref t, .int (iI tl), .int (iI bd), .int (iI cm), .long (jL sk)])), (t, .inr (3, [.ref va, .ref re, .ref su, .int (iI tb), .int (iI ts)])), (va, .inl (g_I (x_G X), 631, .inl (aI fv))), (re, .inl (g_I (x_G X), 2524, .inl (aI fr))), (su, .inl (g_J (x_G X), 631, .inr (.inl (aL fs)))), (so, .inr (2, [.ref bo, .ref ca, .ref ss, .int (iI nw), .int (iI rb)])), (bo, .inl (g_I (x_G X), 16, .inl (aI fb))), (ca, .inl (g_I (x_G X), 16, .inl (aI fc))), (ss, .inl (g_J (x_G X), 16, .inr (.inl (aL fk))))] 0 [(0, .ref sc)] []
  refine k_aload_n C 0 rfl dX6_strike_0 rfl ?_
  refine k_callVx C hTh htab (y := yX6_checkNextPrime) [] 0 rfl (c_X6_checkNextPrime (x_l X) (x_G X) sc tx so pr b2 b t tl bd cm sk n k m (by assumption) (hfl)) gX6_strike_X6_checkNextPrime rfl ⟨rfl, by decide +kernel, by decide +kernel, by decide +kernel⟩ ⟨by decide, by decide⟩ 0 (fs := [.ref tx, .ref b, .ref so, .ref pr, .ref b2]) rfl rfl rfl [0, 1] [2, 3, 4, 5, 6, 7, 8, 9] [8, 9, 0, 1, 2, 3, 4, 5, 6, 7] (by decide) (wc := [(sc, .inr (5, [.ref tx, .ref b, .ref so, .ref pr, .ref b2])), (b, .inr (0, [.ref t, .int (iI tl), .int (iI bd), .int (iI cm), .long (jL sk)]))]) rfl [] rfl (Nat.le_of_ble_eq_true rfl) ⟨Nat.le_of_ble_eq_true rfl, Nat.le_of_ble_eq_true rfl⟩ dX6_strike_1 (fun u1 => [(sc, .inr (5, [.ref tx, .ref b, .ref so, .ref pr, .ref b2])), (b, .inr (0, [.ref t, .int (iI tl), .int (iI bd), .int (iI cm), .long (jL sk)])), (t, .inr (3, [.ref va, .ref re, .ref su, .int (iI tb), .int (iI ts)])), (va, .inl (g_I (x_G X), 631, .inl (aI fv))), (re, .inl (g_I (x_G X), 2524, .inl (aI fr))), (su, .inl (g_J (x_G X), 631, .inr (.inl (aL fs)))), (so, .inr (2, [.ref bo, .ref ca, .ref ss, .int (iI nw), .int (iI rb)])), (bo, .inl (g_I (x_G X), 16, .inl (aI fb))), (ca, .inl (g_I (x_G X), 16, .inl (aI fc))), (ss, .inl (g_J (x_G X), 16, .inr (.inl (aL fk))))]) (fun v => [(sc, .inr (5, [.ref tx, .ref b, .ref so, .ref pr, .ref b2])), (b, .inr (0, [.ref t, .int (iI tl), .int (iI bd), .int (iI cm), .long (jL sk)])), (t, .inr (3, [.ref va, .ref re, .ref su, .int (iI tb), .int (iI ts)])), (va, .inl (g_I (x_G X), 631, .inl (aI fv))), (re, .inl (g_I (x_G X), 2524, .inl (aI fr))), (su, .inl (g_J (x_G X), 631, .inr (.inl (aL fs)))), (so, .inr (2, [.ref bo, .ref ca, .ref ss, .int (iI nw), .int (iI rb)])), (bo, .inl (g_I (x_G X), 16, .inl (aI fb))), (ca, .inl (g_I (x_G X), 16, .inl (aI fc))), (ss, .inl (g_J (x_G X), 16, .inr (.inl (aL fk))))]) (wr := [(t, .inr (3, [.ref va, .ref re, .ref su, .int (iI tb), .int (iI ts)])), (va, .inl (g_I (x_G X), 631, .inl (aI fv))), (re, .inl (g_I (x_G X), 2524, .inl (aI fr))), (su, .inl (g_J (x_G X), 631, .inr (.inl (aL fs)))), (so, .inr (2, [.ref bo, .ref ca, .ref ss, .int (iI nw), .int (iI rb)])), (bo, .inl (g_I (x_G X), 16, .inl (aI fb))), (ca, .inl (g_I (x_G X), 16, .inl (aI fc))), (ss, .inl (g_J (x_G X), 16, .inr (.inl (aL fk))))]) rfl (by decide) (by decide) (by decide) (fun _ => rfl) (fun _ => rfl) (fun u1 => []) (fun _ => rfl) 1 6 ⟨rfl, rfl⟩ (fun v hv => ⟨v, rfl, hv, rfl⟩) (fun u1 hu1 => ?_)
  refine k_aload_n C 0 rfl dX6_strike_4 rfl ?_
  refine k_get C (Cn := RX6) (T := TX6) (N := 5) (ci := 5) (ref := "StruckCounts") in_X6_strike_X6 0 rfl rfl 2 (by decide) 1 rfl rfl (v := .ref so) rfl dX6_strike_5 ?_
  refine k_aload_n C 0 rfl dX6_strike_8 rfl ?_
  refine k_get C (Cn := RX6) (T := TX6) (N := 5) (ci := 5) (ref := "StruckCounts") in_X6_strike_X6 0 rfl rfl 1 (by decide) 2 rfl rfl (v := .ref b) rfl dX6_strike_9 ?_
  refine k_callV C (y := yX2_remember) [.ref b] 1 rfl (c_X2_remember (x_l X) (x_G X) so bo ca ss nw rb b t tl bd cm sk fb fc fk (by omega) (by omega)) gX6_strike_X2_remember rfl ⟨rfl, by decide +kernel, by decide +kernel, by decide +kernel⟩ ⟨by decide, by decide⟩ 6 (fs := [.ref bo, .ref ca, .ref ss, .int (iI nw), .int (iI rb)]) rfl rfl rfl [6, 7, 8, 9, 1] (by decide) (wc := [(so, .inr (2, [.ref bo, .ref ca, .ref ss, .int (iI nw), .int (iI rb)])), (bo, .inl (g_I (x_G X), 16, .inl (aI fb))), (ca, .inl (g_I (x_G X), 16, .inl (aI fc))), (ss, .inl (g_J (x_G X), 16, .inr (.inl (aL fk)))), (b, .inr (0, [.ref t, .int (iI tl), .int (iI bd), .int (iI cm), .long (jL sk)]))]) rfl [] rfl (Nat.le_of_ble_eq_true rfl) ⟨Nat.le_of_ble_eq_true rfl, Nat.le_of_ble_eq_true rfl⟩ dX6_strike_12 (fun u12 => [(sc, .inr (5, [.ref tx, .ref b, .ref so, .ref pr, .ref b2])), (b, .inr (0, [.ref t, .int (iI tl), .int (iI bd), .int (iI cm), .long (jL sk)])), (t, .inr (3, [.ref va, .ref re, .ref su, .int (iI tb), .int (iI ts)])), (va, .inl (g_I (x_G X), 631, .inl (aI fv))), (re, .inl (g_I (x_G X), 2524, .inl (aI fr))), (su, .inl (g_J (x_G X), 631, .inr (.inl (aL fs)))), (so, .inr (2, [.ref bo, .ref ca, .ref ss, .int (iI u12.1), .int (iI u12.2.1)])), (bo, .inl (g_I (x_G X), 16, .inl (aI u12.2.2.1))), (ca, .inl (g_I (x_G X), 16, .inl (aI u12.2.2.2.1))), (ss, .inl (g_J (x_G X), 16, .inr (.inl (aL u12.2.2.2.2))))]) (Or.inr ⟨[0, 2, 3, 4, 5], [0, 9, 1, 2, 3, 4, 5, 6, 7, 8], [(sc, .inr (5, [.ref tx, .ref b, .ref so, .ref pr, .ref b2])), (t, .inr (3, [.ref va, .ref re, .ref su, .int (iI tb), .int (iI ts)])), (va, .inl (g_I (x_G X), 631, .inl (aI fv))), (re, .inl (g_I (x_G X), 2524, .inl (aI fr))), (su, .inl (g_J (x_G X), 631, .inr (.inl (aL fs))))], rfl, by decide, by decide, by decide, fun _ => rfl⟩) (fun u12 => []) (fun _ => rfl) 1 6 ⟨rfl, rfl⟩ (fun u12 hu12 => ?_)
  refine k_aload_n C 0 rfl dX6_strike_15 rfl ?_
  refine k_get C (Cn := RX6) (T := TX6) (N := 5) (ci := 5) (ref := "StruckCounts") in_X6_strike_X6 0 rfl rfl 1 (by decide) 2 rfl rfl (v := .ref b) rfl dX6_strike_16 ?_
  refine k_callV C (y := yX0_countLeft) [] 0 rfl (c_X0_countLeft (x_l X) (x_G X) b t va re su tl tb ts bd cm sk n k m fv fr fs (by assumption) (by assumption)) gX6_strike_X0_countLeft rfl ⟨rfl, by decide +kernel, by decide +kernel, by decide +kernel⟩ ⟨by decide, by decide⟩ 1 (fs := [.ref t, .int (iI tl), .int (iI bd), .int (iI cm), .long (jL sk)]) rfl rfl rfl [1, 2, 3, 4, 5] (by decide) (wc := [(b, .inr (0, [.ref t, .int (iI tl), .int (iI bd), .int (iI cm), .long (jL sk)])), (t, .inr (3, [.ref va, .ref re, .ref su, .int (iI tb), .int (iI ts)])), (va, .inl (g_I (x_G X), 631, .inl (aI fv))), (re, .inl (g_I (x_G X), 2524, .inl (aI fr))), (su, .inl (g_J (x_G X), 631, .inr (.inl (aL fs))))]) rfl [] rfl (Nat.le_of_ble_eq_true rfl) ⟨Nat.le_of_ble_eq_true rfl, Nat.le_of_ble_eq_true rfl⟩ dX6_strike_19 (fun u19 => [(sc, .inr (5, [.ref tx, .ref b, .ref so, .ref pr, .ref b2])), (b, .inr (0, [.ref t, .int (iI cm), .int (iI bd), .int (iI cm), .long (jL sk)])), (t, .inr (3, [.ref va, .ref re, .ref su, .int (iI u19.2.1), .int (iI u19.2.2.1)])), (va, .inl (g_I (x_G X), 631, .inl (aI u19.2.2.2.1))), (re, .inl (g_I (x_G X), 2524, .inl (aI u19.2.2.2.2.1))), (su, .inl (g_J (x_G X), 631, .inr (.inl (aL u19.2.2.2.2.2)))), (so, .inr (2, [.ref bo, .ref ca, .ref ss, .int (iI u12.1), .int (iI u12.2.1)])), (bo, .inl (g_I (x_G X), 16, .inl (aI u12.2.2.1))), (ca, .inl (g_I (x_G X), 16, .inl (aI u12.2.2.2.1))), (ss, .inl (g_J (x_G X), 16, .inr (.inl (aL u12.2.2.2.2))))]) (Or.inr ⟨[0, 6, 7, 8, 9], [0, 5, 6, 7, 8, 9, 1, 2, 3, 4], [(sc, .inr (5, [.ref tx, .ref b, .ref so, .ref pr, .ref b2])), (so, .inr (2, [.ref bo, .ref ca, .ref ss, .int (iI u12.1), .int (iI u12.2.1)])), (bo, .inl (g_I (x_G X), 16, .inl (aI u12.2.2.1))), (ca, .inl (g_I (x_G X), 16, .inl (aI u12.2.2.2.1))), (ss, .inl (g_J (x_G X), 16, .inr (.inl (aL u12.2.2.2.2))))], rfl, by decide, by decide, by decide, fun _ => rfl⟩) (fun u19 => [.int (iI u19.1)]) (fun _ => rfl) 1 6 ⟨rfl, rfl⟩ (fun u19 hu19 => ?_)
  refine k_istore_n C (lo' := [(1, .int (iI u19.1)), (0, .ref sc)]) dX6_strike_22 rfl (by decide) rfl ?_
  refine k_aload_n C 1 rfl dX6_strike_23 rfl ?_
  refine k_get C (Cn := RX6) (T := TX6) (N := 5) (ci := 5) (ref := "StruckCounts") in_X6_strike_X6 0 rfl rfl 1 (by decide) 2 rfl rfl (v := .ref b) rfl dX6_strike_24 ?_
  refine k_iconst C dX6_strike_27 ?_
  refine k_callV C (y := yX0_letCome) [.int (iI 1)] 1 rfl (c_X0_letCome (x_l X) (x_G X) b t cm bd cm sk 1 n k m (by first | assumption | exact Or.inr rfl) (by first | assumption | exact Or.inr rfl)) gX6_strike_X0_letCome rfl ⟨rfl, by decide +kernel, by decide +kernel, by decide +kernel⟩ ⟨by decide, by decide⟩ 1 (fs := [.ref t, .int (iI cm), .int (iI bd), .int (iI cm), .long (jL sk)]) rfl rfl rfl [1] (by decide) (wc := [(b, .inr (0, [.ref t, .int (iI cm), .int (iI bd), .int (iI cm), .long (jL sk)]))]) rfl [] rfl (Nat.le_of_ble_eq_true rfl) ⟨Nat.le_of_ble_eq_true rfl, Nat.le_of_ble_eq_true rfl⟩ dX6_strike_28 (fun u28 => [(sc, .inr (5, [.ref tx, .ref b, .ref so, .ref pr, .ref b2])), (b, .inr (0, [.ref t, .int (iI cm), .int (iI bd), .int (iI u28.2.1), .long (jL u28.2.2)])), (t, .inr (3, [.ref va, .ref re, .ref su, .int (iI u19.2.1), .int (iI u19.2.2.1)])), (va, .inl (g_I (x_G X), 631, .inl (aI u19.2.2.2.1))), (re, .inl (g_I (x_G X), 2524, .inl (aI u19.2.2.2.2.1))), (su, .inl (g_J (x_G X), 631, .inr (.inl (aL u19.2.2.2.2.2)))), (so, .inr (2, [.ref bo, .ref ca, .ref ss, .int (iI u12.1), .int (iI u12.2.1)])), (bo, .inl (g_I (x_G X), 16, .inl (aI u12.2.2.1))), (ca, .inl (g_I (x_G X), 16, .inl (aI u12.2.2.2.1))), (ss, .inl (g_J (x_G X), 16, .inr (.inl (aL u12.2.2.2.2))))]) (Or.inr ⟨[0, 2, 3, 4, 5, 6, 7, 8, 9], [0, 9, 1, 2, 3, 4, 5, 6, 7, 8], [(sc, .inr (5, [.ref tx, .ref b, .ref so, .ref pr, .ref b2])), (t, .inr (3, [.ref va, .ref re, .ref su, .int (iI u19.2.1), .int (iI u19.2.2.1)])), (va, .inl (g_I (x_G X), 631, .inl (aI u19.2.2.2.1))), (re, .inl (g_I (x_G X), 2524, .inl (aI u19.2.2.2.2.1))), (su, .inl (g_J (x_G X), 631, .inr (.inl (aL u19.2.2.2.2.2)))), (so, .inr (2, [.ref bo, .ref ca, .ref ss, .int (iI u12.1), .int (iI u12.2.1)])), (bo, .inl (g_I (x_G X), 16, .inl (aI u12.2.2.1))), (ca, .inl (g_I (x_G X), 16, .inl (aI u12.2.2.2.1))), (ss, .inl (g_J (x_G X), 16, .inr (.inl (aL u12.2.2.2.2))))], rfl, by decide, by decide, by decide, fun _ => rfl⟩) (fun u28 => [.int (iI u28.1)]) (fun _ => rfl) 1 6 ⟨rfl, rfl⟩ (fun u28 hu28 => ?_)
  obtain ⟨z1, z2, z3, z4⟩ := hu28.resolve_left (fun z => hu1 z.1)
  have hS2 := BdS_next hS (s := 1) (cm2 := u28.2.1) (sk2 := u28.2.2) (nxI_some hu1).1 z3 z4
  rw [if_neg (by decide)] at hS2
  have hT2 : BdT n (k + 1) (m ||| 2 ^ k) cm u19.2.1 u19.2.2.1 u19.2.2.2.1 u19.2.2.2.2.1 u19.2.2.2.2.2 := BdT_next (Tl_up hS hu19.1) (fun j hj => or_lo hj)
  refine k_pop C dX6_strike_31 rfl ?_
  refine k_iload_n C 0 rfl dX6_strike_32 rfl ?_
  refine k_aload_n C 1 rfl dX6_strike_33 rfl ?_
  refine k_get C (Cn := RX6) (T := TX6) (N := 5) (ci := 5) (ref := "StruckCounts") in_X6_strike_X6 0 rfl rfl 1 (by decide) 2 rfl rfl (v := .ref b) rfl dX6_strike_34 ?_
  refine k_callV C (y := yX0_countLeft) [] 0 rfl (c_X0_countLeft (x_l X) (x_G X) b t va re su cm u19.2.1 u19.2.2.1 bd u28.2.1 u28.2.2 n (k + 1) (m ||| 2 ^ k) u19.2.2.2.1 u19.2.2.2.2.1 u19.2.2.2.2.2 (hS2) (hT2)) gX6_strike_X0_countLeft rfl ⟨rfl, by decide +kernel, by decide +kernel, by decide +kernel⟩ ⟨by decide, by decide⟩ 1 (fs := [.ref t, .int (iI cm), .int (iI bd), .int (iI u28.2.1), .long (jL u28.2.2)]) rfl rfl rfl [1, 2, 3, 4, 5] (by decide) (wc := [(b, .inr (0, [.ref t, .int (iI cm), .int (iI bd), .int (iI u28.2.1), .long (jL u28.2.2)])), (t, .inr (3, [.ref va, .ref re, .ref su, .int (iI u19.2.1), .int (iI u19.2.2.1)])), (va, .inl (g_I (x_G X), 631, .inl (aI u19.2.2.2.1))), (re, .inl (g_I (x_G X), 2524, .inl (aI u19.2.2.2.2.1))), (su, .inl (g_J (x_G X), 631, .inr (.inl (aL u19.2.2.2.2.2))))]) rfl [.int (iI u19.1)] rfl (Nat.le_of_ble_eq_true rfl) ⟨Nat.le_of_ble_eq_true rfl, Nat.le_of_ble_eq_true rfl⟩ dX6_strike_37 (fun u37 => [(sc, .inr (5, [.ref tx, .ref b, .ref so, .ref pr, .ref b2])), (b, .inr (0, [.ref t, .int (iI u28.2.1), .int (iI bd), .int (iI u28.2.1), .long (jL u28.2.2)])), (t, .inr (3, [.ref va, .ref re, .ref su, .int (iI u37.2.1), .int (iI u37.2.2.1)])), (va, .inl (g_I (x_G X), 631, .inl (aI u37.2.2.2.1))), (re, .inl (g_I (x_G X), 2524, .inl (aI u37.2.2.2.2.1))), (su, .inl (g_J (x_G X), 631, .inr (.inl (aL u37.2.2.2.2.2)))), (so, .inr (2, [.ref bo, .ref ca, .ref ss, .int (iI u12.1), .int (iI u12.2.1)])), (bo, .inl (g_I (x_G X), 16, .inl (aI u12.2.2.1))), (ca, .inl (g_I (x_G X), 16, .inl (aI u12.2.2.2.1))), (ss, .inl (g_J (x_G X), 16, .inr (.inl (aL u12.2.2.2.2))))]) (Or.inr ⟨[0, 6, 7, 8, 9], [0, 5, 6, 7, 8, 9, 1, 2, 3, 4], [(sc, .inr (5, [.ref tx, .ref b, .ref so, .ref pr, .ref b2])), (so, .inr (2, [.ref bo, .ref ca, .ref ss, .int (iI u12.1), .int (iI u12.2.1)])), (bo, .inl (g_I (x_G X), 16, .inl (aI u12.2.2.1))), (ca, .inl (g_I (x_G X), 16, .inl (aI u12.2.2.2.1))), (ss, .inl (g_J (x_G X), 16, .inr (.inl (aL u12.2.2.2.2))))], rfl, by decide, by decide, by decide, fun _ => rfl⟩) (fun u37 => [.int (iI u37.1), .int (iI u19.1)]) (fun _ => rfl) 1 6 ⟨rfl, rfl⟩ (fun u37 hu37 => ?_)
  refine k_isub C dX6_strike_40 ?_
  refine k_nmI (fun v40 e40 => ?_)
  exact k_iret C hR (u := (v40, u28.2.1, u28.2.2, (u28.2.1, u37.2.1, u37.2.2.1, u37.2.2.2.1, u37.2.2.2.2.1, u37.2.2.2.2.2), u12.1, u12.2.1, u12.2.2.1, u12.2.2.2.1, u12.2.2.2.2)) rfl (by (try dsimp only) <;> exact (⟨hu1, by rw [e40, hu19.2, hu37.2], hS2, Tl_up hS2 hu37.1, St_rem hK hS hu12⟩)) rfl (Nat.le_of_ble_eq_true rfl) (Nat.le_of_ble_eq_true rfl) dX6_strike_41
theorem in_X6_append_X6 : ∀ w ∈ wsX60, w ∈ wsX6_append := by decide +kernel
theorem in_X6_append_X4 : ∀ w ∈ wsX40, w ∈ wsX6_append := by decide +kernel
set_option maxHeartbeats 4000000 in
set_option maxRecDepth 100000 in
theorem c_X6_append (l : Launch) (G : KG) (sc b so pr b2 : Nat) (tx sg : Nat) (L a du ft : Int) (wv : Value) (nu : Int) (f : Nat → Int) (c : Int) (hL : 0 ≤ L ∧ L ≤ 60) (hc : -2147483648 ≤ c ∧ c < 2147483648) (hfl : l.stackTraces = false) : Cxt l G yX6_append wsX6_append (rmD 7 2 12) [.ref sc, .int (iI c)] [(sc, .inr (5, [.ref tx, .ref b, .ref so, .ref pr, .ref b2])), (tx, .inr (4, [.ref sg, .int (iI L), .int (iI a), .int (iI du), .int (iI ft), wv, .int (iI nu)])), (sg, .inl (g_C G, 60, .inl (aI f)))] (fun u : Int × (Nat → Int) => (0 ≤ c ∧ c ≤ 255) ∧ L < 60 ∧ u.1 = L + 1 ∧ u.2 = upI f L.toNat c) (fun u : Int × (Nat → Int) => some (.int (iI u.1))) (fun u : Int × (Nat → Int) => [(sc, .inr (5, [.ref tx, .ref b, .ref so, .ref pr, .ref b2])), (tx, .inr (4, [.ref sg, .int (iI u.1), .int (iI a), .int (iI du), .int (iI ft), wv, .int (iI nu)])), (sg, .inl (g_C G, 60, .inl (aI u.2)))]) (fun v : Nat => (v = 0 ∧ ¬ (0 ≤ c ∧ c ≤ 255)) ∨ (v = 1 ∧ (0 ≤ c ∧ c ≤ 255) ∧ ¬ L < 60)) (fun v : Nat => if v = 0 then "java/lang/IllegalArgumentException" else "java/lang/IllegalStateException") (fun v : Nat => [(sc, .inr (5, [.ref tx, .ref b, .ref so, .ref pr, .ref b2])), (tx, .inr (4, [.ref sg, .int (iI L), .int (iI a), .int (iI du), .int (iI ft), wv, .int (iI nu)])), (sg, .inl (g_C G, 60, .inl (aI f)))]) := by
  refine Cxt.of (cc := cX6_append) (maxL := 2) (ret := (some .int)) (by decide +kernel) rfl (Nat.le_of_ble_eq_true rfl) ?_
  intro X C hG hL hnm hR hQ htab
  subst hG
  subst hL
  have C : Cx X cX6_append RX6 wsX6_append (some .int) 2 (rmD 7 2 12) := C
  have hTh : Thr X (fun v : Nat => (v = 0 ∧ ¬ (0 ≤ c ∧ c ≤ 255)) ∨ (v = 1 ∧ (0 ≤ c ∧ c ≤ 255) ∧ ¬ L < 60)) (fun v : Nat => if v = 0 then "java/lang/IllegalArgumentException" else "java/lang/IllegalStateException") (fun v : Nat => [(sc, .inr (5, [.ref tx, .ref b, .ref so, .ref pr, .ref b2])), (tx, .inr (4, [.ref sg, .int (iI L), .int (iI a), .int (iI du), .int (iI ft), wv, .int (iI nu)])), (sg, .inl (g_C (x_G X), 60, .inl (aI f)))]) := ⟨_, by rw [C.R]; exact hQ⟩
  show K_ X 0 0 [(sc, .inr (5, [.ref tx, .ref b, .ref so, .ref pr, .ref b2])), (tx, .inr (4, [.ref sg, .int (iI L), .int (iI a), .int (iI du), .int (iI ft), wv, .int (iI nu)])), (sg, .inl (g_C (x_G X), 60, .inl (aI f)))] 0 [(0, .ref sc), (1, .int (iI c))] []
  refine k_iload_n C 1 rfl dX6_append_0 rfl ?_
  refine k_iconst C dX6_append_1 ?_
  refine k_sipush C dX6_append_2 (by decide) ?_
  refine k_callS C (y := yX6_outside) [.int (iI c), .int (iI 0), .int (iI 255)] 3 rfl (c_X6_outside (x_l X) (x_G X) c 0 255 (by omega) (by omega) (by omega)) gX6_append_X6_outside rfl ⟨by decide +kernel, by decide +kernel, by decide +kernel⟩ ⟨by decide, by decide⟩ [] (by decide) (wc := []) rfl [] rfl (Nat.le_of_ble_eq_true rfl) ⟨Nat.le_of_ble_eq_true rfl, Nat.le_of_ble_eq_true rfl⟩ dX6_append_5 (fun _ => [(sc, .inr (5, [.ref tx, .ref b, .ref so, .ref pr, .ref b2])), (tx, .inr (4, [.ref sg, .int (iI L), .int (iI a), .int (iI du), .int (iI ft), wv, .int (iI nu)])), (sg, .inl (g_C (x_G X), 60, .inl (aI f)))]) (Or.inl (fun _ => ⟨rfl, rfl⟩)) (fun u5 => [.int (iI u5)]) (fun _ => rfl) 0 0 ⟨rfl, rfl⟩ (fun u5 hu5 => ?_)
  refine k_if_eq C 21 (⟨by omega, by omega⟩) dX6_append_8 (by decide) (fun c8 => ?_) (fun c8 => ?_)
  · skip
    have hu5 := bo_f hu5 c8
    refine k_aload_n C 0 rfl dX6_append_21 rfl ?_
    refine k_get C (Cn := RX6) (T := TX6) (N := 5) (ci := 5) (ref := "StruckCounts") in_X6_append_X6 0 rfl rfl 0 (by decide) 5 rfl rfl (v := .ref tx) rfl dX6_append_22 ?_
    refine k_getN C (Cn := RX4) (T := TX4) (N := 7) (ci := 4) (ref := "StruckCounts$Text") in_X6_append_X4 1 rfl rfl 1 (by decide) 0 rfl rfl (v := .int (iI L)) rfl dX6_append_25 ?_
    refine k_bipush C dX6_append_28 (by decide) ?_
    refine k_icmp_lt C 43 (⟨by omega, by omega⟩) (⟨by omega, by omega⟩) dX6_append_30 (by decide) (fun c30 => ?_) (fun c30 => ?_)
    · skip
      refine k_aload_n C 0 rfl dX6_append_43 rfl ?_
      refine k_get C (Cn := RX6) (T := TX6) (N := 5) (ci := 5) (ref := "StruckCounts") in_X6_append_X6 0 rfl rfl 0 (by decide) 5 rfl rfl (v := .ref tx) rfl dX6_append_44 ?_
      refine k_iload_n C 1 rfl dX6_append_47 rfl ?_
      refine k_i2c C c (i2c_id (by omega) (by omega)) dX6_append_48 ?_
      refine k_callV C (y := yX4_add) [.int (iI c)] 1 rfl (c_X4_add (x_l X) (x_G X) tx sg L a du ft wv nu f c (by omega) (by omega)) gX6_append_X4_add rfl ⟨rfl, by decide +kernel, by decide +kernel, by decide +kernel⟩ ⟨by decide, by decide⟩ 1 (fs := [.ref sg, .int (iI L), .int (iI a), .int (iI du), .int (iI ft), wv, .int (iI nu)]) rfl rfl rfl [1, 2] (by decide) (wc := [(tx, .inr (4, [.ref sg, .int (iI L), .int (iI a), .int (iI du), .int (iI ft), wv, .int (iI nu)])), (sg, .inl (g_C (x_G X), 60, .inl (aI f)))]) rfl [] rfl (Nat.le_of_ble_eq_true rfl) ⟨Nat.le_of_ble_eq_true rfl, Nat.le_of_ble_eq_true rfl⟩ dX6_append_49 (fun u49 => [(sc, .inr (5, [.ref tx, .ref b, .ref so, .ref pr, .ref b2])), (tx, .inr (4, [.ref sg, .int (iI u49.1), .int (iI a), .int (iI du), .int (iI ft), wv, .int (iI nu)])), (sg, .inl (g_C (x_G X), 60, .inl (aI u49.2)))]) (Or.inr ⟨[0], [0, 1, 2], [(sc, .inr (5, [.ref tx, .ref b, .ref so, .ref pr, .ref b2]))], rfl, by decide, by decide, by decide, fun _ => rfl⟩) (fun u49 => []) (fun _ => rfl) 0 0 ⟨rfl, rfl⟩ (fun u49 hu49 => ?_)
      obtain ⟨y1, y2⟩ := hu49.1 (by omega)
      refine k_aload_n C 0 rfl dX6_append_52 rfl ?_
      refine k_get C (Cn := RX6) (T := TX6) (N := 5) (ci := 5) (ref := "StruckCounts") in_X6_append_X6 0 rfl rfl 0 (by decide) 5 rfl rfl (v := .ref tx) rfl dX6_append_53 ?_
      refine k_getN C (Cn := RX4) (T := TX4) (N := 7) (ci := 4) (ref := "StruckCounts$Text") in_X6_append_X4 1 rfl rfl 1 (by decide) 0 rfl rfl (v := .int (iI u49.1)) rfl dX6_append_56 ?_
      exact k_iret C hR (u := (u49.1, u49.2)) rfl (by (try dsimp only) <;> exact (⟨by omega, by omega, y1, y2⟩)) rfl (Nat.le_of_ble_eq_true rfl) (Nat.le_of_ble_eq_true rfl) dX6_append_59
    · skip
      exact k_throw C hTh htab hfl rfl 1 rfl 1 rfl 3 4 rfl rfl (by decide +kernel) (by decide +kernel) (by decide +kernel) (by decide +kernel) (by decide +kernel) dX6_append_33 dX6_append_36 dX6_append_37 dX6_append_39 dX6_append_42 (Nat.le_of_ble_eq_true rfl) (Nat.le_of_ble_eq_true rfl) (Nat.le_of_ble_eq_true rfl) (Nat.le_of_ble_eq_true rfl) 1 rfl (Or.inr ⟨rfl, by omega, by omega⟩) rfl
  · skip
    have hu5 := bo_t hu5 c8
    exact k_throw C hTh htab hfl rfl 0 rfl 0 rfl 1 2 rfl rfl (by decide +kernel) (by decide +kernel) (by decide +kernel) (by decide +kernel) (by decide +kernel) dX6_append_11 dX6_append_14 dX6_append_15 dX6_append_17 dX6_append_20 (Nat.le_of_ble_eq_true rfl) (Nat.le_of_ble_eq_true rfl) (Nat.le_of_ble_eq_true rfl) (Nat.le_of_ble_eq_true rfl) 0 rfl (Or.inl ⟨rfl, by omega⟩) rfl
theorem in_X6_clearText_X6 : ∀ w ∈ wsX60, w ∈ wsX6_clearText := by decide +kernel
theorem in_X6_clearText_X4 : ∀ w ∈ wsX40, w ∈ wsX6_clearText := by decide +kernel
set_option maxHeartbeats 4000000 in
set_option maxRecDepth 100000 in
theorem c_X6_clearText (l : Launch) (G : KG) (sc b so pr b2 : Nat) (tx sg : Nat) (L a du ft : Int) (wv : Value) (nu : Int) (f : Nat → Int)  : Ct l G yX6_clearText wsX6_clearText (rmD 0 0 0) [.ref sc] [(sc, .inr (5, [.ref tx, .ref b, .ref so, .ref pr, .ref b2])), (tx, .inr (4, [.ref sg, .int (iI L), .int (iI a), .int (iI du), .int (iI ft), wv, .int (iI nu)])), (sg, .inl (g_C G, 60, .inl (aI f)))] (fun u : Unit => True) (fun u : Unit => some (.int (iI L))) (fun u : Unit => [(sc, .inr (5, [.ref tx, .ref b, .ref so, .ref pr, .ref b2])), (tx, .inr (4, [.ref sg, .int (iI 0), .int (iI a), .int (iI du), .int (iI ft), wv, .int (iI nu)])), (sg, .inl (g_C G, 60, .inl (aI f)))]) := by
  refine Ct.of (cc := cX6_clearText) (maxL := 2) (ret := (some .int)) (by decide +kernel) rfl (Nat.le_of_ble_eq_true rfl) ?_
  intro X C hG hL hnm hR
  subst hG
  subst hL
  have C : Cx X cX6_clearText RX6 wsX6_clearText (some .int) 2 (rmD 0 0 0) := C
  show K_ X 0 0 [(sc, .inr (5, [.ref tx, .ref b, .ref so, .ref pr, .ref b2])), (tx, .inr (4, [.ref sg, .int (iI L), .int (iI a), .int (iI du), .int (iI ft), wv, .int (iI nu)])), (sg, .inl (g_C (x_G X), 60, .inl (aI f)))] 0 [(0, .ref sc)] []
  refine k_aload_n C 0 rfl dX6_clearText_0 rfl ?_
  refine k_get C (Cn := RX6) (T := TX6) (N := 5) (ci := 5) (ref := "StruckCounts") in_X6_clearText_X6 0 rfl rfl 0 (by decide) 1 rfl rfl (v := .ref tx) rfl dX6_clearText_1 ?_
  refine k_getN C (Cn := RX4) (T := TX4) (N := 7) (ci := 4) (ref := "StruckCounts$Text") in_X6_clearText_X4 1 rfl rfl 1 (by decide) 0 rfl rfl (v := .int (iI L)) rfl dX6_clearText_4 ?_
  refine k_istore_n C (lo' := [(1, .int (iI L)), (0, .ref sc)]) dX6_clearText_7 rfl (by decide) rfl ?_
  refine k_aload_n C 1 rfl dX6_clearText_8 rfl ?_
  refine k_get C (Cn := RX6) (T := TX6) (N := 5) (ci := 5) (ref := "StruckCounts") in_X6_clearText_X6 0 rfl rfl 0 (by decide) 1 rfl rfl (v := .ref tx) rfl dX6_clearText_9 ?_
  refine k_iconst C dX6_clearText_12 ?_
  refine k_putN C (Cn := RX4) (T := TX4) (N := 7) (ci := 4) (ref := "StruckCounts$Text") in_X6_clearText_X4 tyX4 tyX4_ok nmX4 1 rfl rfl 1 (by decide) 0 rfl rfl rfl (v := .int (iI 0)) (rfl) (rfl) (Nat.le_of_ble_eq_true rfl) [(sc, .inr (5, [.ref tx, .ref b, .ref so, .ref pr, .ref b2])), (tx, .inr (4, [.ref sg, .int (iI 0), .int (iI a), .int (iI du), .int (iI ft), wv, .int (iI nu)])), (sg, .inl (g_C (x_G X), 60, .inl (aI f)))] rfl dX6_clearText_13 ?_
  refine k_iload_n C 0 rfl dX6_clearText_16 rfl ?_
  exact k_iret C hR (u := ()) rfl (by first | trivial | omega) rfl (Nat.le_of_ble_eq_true rfl) (Nat.le_of_ble_eq_true rfl) dX6_clearText_17
theorem in_X6_errorPosition_X6 : ∀ w ∈ wsX60, w ∈ wsX6_errorPosition := by decide +kernel
set_option maxHeartbeats 4000000 in
set_option maxRecDepth 100000 in
theorem c_X6_errorPosition (l : Launch) (G : KG) (sc b so pr b2 : Nat) (tx sg : Nat) (L a du ft : Int) (wv : Value) (nu : Int) (f : Nat → Int) (hL : 0 ≤ L ∧ L ≤ 60) (hf : ∀ q : Nat, q < 60 → 0 ≤ f q ∧ f q ≤ 65535) : Ct l G yX6_errorPosition wsX6_errorPosition (rmD 8 0 0) [.ref sc] [(sc, .inr (5, [.ref tx, .ref b, .ref so, .ref pr, .ref b2])), (tx, .inr (4, [.ref sg, .int (iI L), .int (iI a), .int (iI du), .int (iI ft), wv, .int (iI nu)])), (sg, .inl (g_C G, 60, .inl (aI f)))] (fun u : Int × Int × Int × Int × Value × Int => u.2.2.2.1 = flt (tA f L) L.toNat 60 0 ∧ u.1 = u.2.2.2.1) (fun u : Int × Int × Int × Int × Value × Int => some (.int (iI u.1))) (fun u : Int × Int × Int × Int × Value × Int => [(sc, .inr (5, [.ref tx, .ref b, .ref so, .ref pr, .ref b2])), (tx, .inr (4, [.ref sg, .int (iI L), .int (iI u.2.1), .int (iI u.2.2.1), .int (iI u.2.2.2.1), u.2.2.2.2.1, .int (iI u.2.2.2.2.2)])), (sg, .inl (g_C G, 60, .inl (aI f)))]) := by
  refine Ct.of (cc := cX6_errorPosition) (maxL := 1) (ret := (some .int)) (by decide +kernel) rfl (Nat.le_of_ble_eq_true rfl) ?_
  intro X C hG hL hnm hR
  subst hG
  subst hL
  have C : Cx X cX6_errorPosition RX6 wsX6_errorPosition (some .int) 1 (rmD 8 0 0) := C
  show K_ X 0 0 [(sc, .inr (5, [.ref tx, .ref b, .ref so, .ref pr, .ref b2])), (tx, .inr (4, [.ref sg, .int (iI L), .int (iI a), .int (iI du), .int (iI ft), wv, .int (iI nu)])), (sg, .inl (g_C (x_G X), 60, .inl (aI f)))] 0 [(0, .ref sc)] []
  refine k_aload_n C 0 rfl dX6_errorPosition_0 rfl ?_
  refine k_get C (Cn := RX6) (T := TX6) (N := 5) (ci := 5) (ref := "StruckCounts") in_X6_errorPosition_X6 0 rfl rfl 0 (by decide) 1 rfl rfl (v := .ref tx) rfl dX6_errorPosition_1 ?_
  refine k_callV C (y := yX4_findFault) [] 0 rfl (c_X4_findFault (x_l X) (x_G X) tx sg L a du ft wv nu f (by first | assumption | omega) (by first | assumption | omega)) gX6_errorPosition_X4_findFault rfl ⟨rfl, by decide +kernel, by decide +kernel, by decide +kernel⟩ ⟨by decide, by decide⟩ 1 (fs := [.ref sg, .int (iI L), .int (iI a), .int (iI du), .int (iI ft), wv, .int (iI nu)]) rfl rfl rfl [1, 2] (by decide) (wc := [(tx, .inr (4, [.ref sg, .int (iI L), .int (iI a), .int (iI du), .int (iI ft), wv, .int (iI nu)])), (sg, .inl (g_C (x_G X), 60, .inl (aI f)))]) rfl [] rfl (Nat.le_of_ble_eq_true rfl) ⟨Nat.le_of_ble_eq_true rfl, Nat.le_of_ble_eq_true rfl⟩ dX6_errorPosition_4 (fun u4 => [(sc, .inr (5, [.ref tx, .ref b, .ref so, .ref pr, .ref b2])), (tx, .inr (4, [.ref sg, .int (iI L), .int (iI u4.2.1), .int (iI u4.2.2.1), .int (iI u4.2.2.2.1), u4.2.2.2.2.1, .int (iI u4.2.2.2.2.2)])), (sg, .inl (g_C (x_G X), 60, .inl (aI f)))]) (Or.inr ⟨[0], [0, 1, 2], [(sc, .inr (5, [.ref tx, .ref b, .ref so, .ref pr, .ref b2]))], rfl, by decide, by decide, by decide, fun _ => rfl⟩) (fun u4 => [.int (iI u4.1)]) (fun _ => rfl) 0 0 ⟨rfl, rfl⟩ (fun u4 hu4 => ?_)
  exact k_iret C hR (u := (u4.1, u4.2.1, u4.2.2.1, u4.2.2.2.1, (u4.2.2.2.2.1), u4.2.2.2.2.2)) rfl (by (try dsimp only) <;> exact (hu4)) rfl (Nat.le_of_ble_eq_true rfl) (Nat.le_of_ble_eq_true rfl) dX6_errorPosition_7
theorem in_X6_obeyWord_X6 : ∀ w ∈ wsX60, w ∈ wsX6_obeyWord := by decide +kernel
theorem in_X6_obeyWord_X0 : ∀ w ∈ wsX00, w ∈ wsX6_obeyWord := by decide +kernel
set_option maxHeartbeats 4000000 in
set_option maxRecDepth 100000 in
theorem c_X6_obeyWord (l : Launch) (G : KG) (sc tx so pr b2 : Nat) (b t : Nat) (bd cm sk x : Int) (i : Nat) (n k m : Nat) (hi : i < 4) (hS : BdS n k m bd cm sk) (hx : 0 ≤ x ∧ x ≤ 99999) (hx0 : i = 0 → 1 ≤ x) : Ct l G yX6_obeyWord wsX6_obeyWord (rmD 3 0 0) [.ref sc, .ref (g_ad G i), .int (iI x)] [(sc, .inr (5, [.ref tx, .ref b, .ref so, .ref pr, .ref b2])), (b, .inr (0, [.ref t, .int (iI (-1)), .int (iI bd), .int (iI cm), .long (jL sk)]))] (fun u : Int × Int × Int × Int => u.1 = ((obW i x n k m).2.2.2 : Int) ∧ BdS (obW i x n k m).1 (obW i x n k m).2.1 (obW i x n k m).2.2.1 u.2.1 u.2.2.1 u.2.2.2) (fun u : Int × Int × Int × Int => some (.int (iI u.1))) (fun u : Int × Int × Int × Int => [(sc, .inr (5, [.ref tx, .ref b, .ref so, .ref pr, .ref b2])), (b, .inr (0, [.ref t, .int (iI (-1)), .int (iI u.2.1), .int (iI u.2.2.1), .long (jL u.2.2.2)]))]) := by
  refine Ct.of (cc := cX6_obeyWord) (maxL := 5) (ret := (some .int)) (by decide +kernel) rfl (Nat.le_of_ble_eq_true rfl) ?_
  intro X C hG hL hnm hR
  subst hG
  subst hL
  have C : Cx X cX6_obeyWord RX6 wsX6_obeyWord (some .int) 5 (rmD 3 0 0) := C
  obtain ⟨s1, s2, s3, s4, s5, s6, s7⟩ := id hS
  show K_ X 0 0 [(sc, .inr (5, [.ref tx, .ref b, .ref so, .ref pr, .ref b2])), (b, .inr (0, [.ref t, .int (iI (-1)), .int (iI bd), .int (iI cm), .long (jL sk)]))] 0 [(0, .ref sc), (1, .ref (g_ad (x_G X) i)), (2, .int (iI x))] []
  refine k_aload_n C 1 rfl dX6_obeyWord_0 rfl ?_
  refine k_gets C (ref := "StruckCounts$Word") (nm := "BOUND") (C.S.2.2.2.1.1.1 0 (by decide)).1 1 rfl rfl dX6_obeyWord_1 ?_
  refine k_acmp_ne C 17 dX6_obeyWord_4 (by decide) (fun c4 => ?_) (fun c4 => ?_)
  · skip
    have i0 : ¬ i = 0 := fun z => c4 (by rw [z])
    refine k_aload_n C 1 rfl dX6_obeyWord_17 rfl ?_
    refine k_gets C (ref := "StruckCounts$Word") (nm := "AGAIN") (C.S.2.2.2.1.1.1 3 (by decide)).1 3 rfl rfl dX6_obeyWord_18 ?_
    refine k_acmp_ne C 40 dX6_obeyWord_21 (by decide) (fun c21 => ?_) (fun c21 => ?_)
    · skip
      have i3 : ¬ i = 3 := fun z => c21 (by rw [z])
      refine k_iconst C dX6_obeyWord_40 ?_
      refine k_iload_n C 2 rfl dX6_obeyWord_41 rfl ?_
      refine k_max C 4 5 6 7 (⟨by omega, by omega⟩) (⟨by omega, by omega⟩) rfl rfl rfl rfl (by decide) (Nat.le_of_ble_eq_true rfl) ⟨by decide, by decide⟩ dX6_obeyWord_42 (fun v42 e42 => ?_)
      refine k_istore_n C (lo' := [(3, .int (iI v42)), (0, .ref sc), (1, .ref (g_ad (x_G X) i)), (2, .int (iI x))]) dX6_obeyWord_45 rfl (by decide) rfl ?_
      refine k_iconst C dX6_obeyWord_46 ?_
      refine k_istore C (lo' := [(4, .int (iI 0)), (3, .int (iI v42)), (0, .ref sc), (1, .ref (g_ad (x_G X) i)), (2, .int (iI x))]) dX6_obeyWord_47 (by decide) rfl ?_
      have L49 : ∀ (nf : Nat) (kq : Nat) (mq : Nat) (d : Int) (c1 : Int) (s1 : Int), (0 ≤ d ∧ d ≤ v42 ∧ BdS n kq mq bd c1 s1 ∧ ObI i x n k m v42 d kq mq) → (v42 - d).toNat < nf → K_ X 0 0 [(sc, .inr (5, [.ref tx, .ref b, .ref so, .ref pr, .ref b2])), (b, .inr (0, [.ref t, .int (iI (-1)), .int (iI bd), .int (iI c1), .long (jL s1)]))] 49 [(4, .int (iI d)), (3, .int (iI v42)), (0, .ref sc), (1, .ref (g_ad (x_G X) i)), (2, .int (iI x))] [] := by
        intro nf
        induction nf with
        | zero => intro kq mq d c1 s1 hI hm; exact absurd hm (Nat.not_lt_zero _)
        | succ nf ih49 =>
          intro kq mq d c1 s1 hI49 hm49
          obtain ⟨j1, j2, j3, j4⟩ := hI49
          refine k_iload C 0 rfl dX6_obeyWord_49 ?_
          refine k_iload_n C 1 rfl dX6_obeyWord_51 rfl ?_
          refine k_icmp_ge C 88 (⟨by omega, by omega⟩) (⟨by omega, by omega⟩) dX6_obeyWord_52 (by decide) (fun c52 => ?_) (fun c52 => ?_)
          · skip
            have hE := ObI_end i0 i3 j4 (by omega)
            refine k_iconst C dX6_obeyWord_88 ?_
            exact k_iret C hR (u := (0, bd, c1, s1)) rfl (by (try dsimp only) <;> exact (⟨by rw [hE]; rfl, by rw [hE]; exact j3⟩)) rfl (Nat.le_of_ble_eq_true rfl) (Nat.le_of_ble_eq_true rfl) dX6_obeyWord_89
          · skip
            refine k_aload_n C 2 rfl dX6_obeyWord_55 rfl ?_
            refine k_get C (Cn := RX6) (T := TX6) (N := 5) (ci := 5) (ref := "StruckCounts") in_X6_obeyWord_X6 0 rfl rfl 1 (by decide) 2 rfl rfl (v := .ref b) rfl dX6_obeyWord_56 ?_
            refine k_aload_n C 3 rfl dX6_obeyWord_59 rfl ?_
            refine k_gets C (ref := "StruckCounts$Word") (nm := "STRIKE") (C.S.2.2.2.1.1.1 1 (by decide)).1 8 rfl rfl dX6_obeyWord_60 ?_
            refine k_acmp_ne C 70 dX6_obeyWord_63 (by decide) (fun c63 => ?_) (fun c63 => ?_)
            · skip
              have hs : (0 : Int) = 0 ↔ ¬ i = 1 := ⟨fun _ z => c63 (by rw [z]), fun _ => rfl⟩
              refine k_iconst C dX6_obeyWord_70 ?_
              refine k_callV C (y := yX0_letCome) [.int (iI 0)] 1 rfl (c_X0_letCome (x_l X) (x_G X) b t (-1) bd c1 s1 0 n kq mq (by first | assumption | exact Or.inl rfl | exact Or.inr rfl) (by first | assumption | exact Or.inl rfl | exact Or.inr rfl)) gX6_obeyWord_X0_letCome rfl ⟨rfl, by decide +kernel, by decide +kernel, by decide +kernel⟩ ⟨by decide, by decide⟩ 1 (fs := [.ref t, .int (iI (-1)), .int (iI bd), .int (iI c1), .long (jL s1)]) rfl rfl rfl [1] (by decide) (wc := [(b, .inr (0, [.ref t, .int (iI (-1)), .int (iI bd), .int (iI c1), .long (jL s1)]))]) rfl [] rfl (Nat.le_of_ble_eq_true rfl) ⟨Nat.le_of_ble_eq_true rfl, Nat.le_of_ble_eq_true rfl⟩ dX6_obeyWord_71 (fun u71 => [(sc, .inr (5, [.ref tx, .ref b, .ref so, .ref pr, .ref b2])), (b, .inr (0, [.ref t, .int (iI (-1)), .int (iI bd), .int (iI u71.2.1), .long (jL u71.2.2)]))]) (Or.inr ⟨[0], [0, 1], [(sc, .inr (5, [.ref tx, .ref b, .ref so, .ref pr, .ref b2]))], rfl, by decide, by decide, by decide, fun _ => rfl⟩) (fun u71 => [.int (iI u71.1)]) (fun _ => rfl) 0 0 ⟨rfl, rfl⟩ (fun u71 hu71 => ?_)
              refine k_if_ne C 82 (by rcases hu71 with z | z <;> (have := z.2.1; omega)) dX6_obeyWord_74 (by decide) (fun c74 => ?_) (fun c74 => ?_)
              · skip
                obtain ⟨z1, z2, z3, z4⟩ := hu71.resolve_left (fun z => c74 z.2.1)
                obtain ⟨v82, e82⟩ : ∃ y : Int, y = d + 1 := ⟨_, rfl⟩
                refine k_iinc C (lo' := [(4, .int (iI v82)), (3, .int (iI v42)), (0, .ref sc), (1, .ref (g_ad (x_G X) i)), (2, .int (iI x))]) 0 rfl dX6_obeyWord_82 (by decide) v82 e82 rfl ?_
                refine k_goto C 49 dX6_obeyWord_85 (by decide) ?_
                exact ih49 (kq + 1) _ v82 u71.2.1 u71.2.2 (⟨by omega, by omega, BdS_next j3 (nxI_some z1).1 z3 z4, ObI_go j4 (by omega) z1 (by omega) hs⟩) (by omega)
              · skip
                have hE := ObI_no i0 i3 j4 (by omega) (by rcases hu71 with z | z; (exact z.1); (have := z.2.1; omega))
                refine k_iload_n C 1 rfl dX6_obeyWord_77 rfl ?_
                refine k_iload C 0 rfl dX6_obeyWord_78 ?_
                refine k_isub C dX6_obeyWord_80 ?_
                refine k_nmI (fun v80 e80 => ?_)
                exact k_iret C hR (u := (v80, bd, u71.2.1, u71.2.2)) rfl (by (try dsimp only) <;> exact (⟨by rw [hE]; show v80 = (((v42 - d).toNat : Nat) : Int); omega, by rw [hE]; rcases hu71 with z | z; (rw [z.2.2.1, z.2.2.2]; exact j3); (exact absurd z.2.1 (by omega))⟩)) rfl (Nat.le_of_ble_eq_true rfl) (Nat.le_of_ble_eq_true rfl) dX6_obeyWord_81
            · skip
              have i1 : i = 1 := C.inj hi (by decide) c63
              have hs : (1 : Int) = 0 ↔ ¬ i = 1 := ⟨fun z => absurd z (by decide), fun z => absurd i1 z⟩
              refine k_iconst C dX6_obeyWord_66 ?_
              refine k_goto C 71 dX6_obeyWord_67 (by decide) ?_
              refine k_callV C (y := yX0_letCome) [.int (iI 1)] 1 rfl (c_X0_letCome (x_l X) (x_G X) b t (-1) bd c1 s1 1 n kq mq (by first | assumption | exact Or.inl rfl | exact Or.inr rfl) (by first | assumption | exact Or.inl rfl | exact Or.inr rfl)) gX6_obeyWord_X0_letCome rfl ⟨rfl, by decide +kernel, by decide +kernel, by decide +kernel⟩ ⟨by decide, by decide⟩ 1 (fs := [.ref t, .int (iI (-1)), .int (iI bd), .int (iI c1), .long (jL s1)]) rfl rfl rfl [1] (by decide) (wc := [(b, .inr (0, [.ref t, .int (iI (-1)), .int (iI bd), .int (iI c1), .long (jL s1)]))]) rfl [] rfl (Nat.le_of_ble_eq_true rfl) ⟨Nat.le_of_ble_eq_true rfl, Nat.le_of_ble_eq_true rfl⟩ dX6_obeyWord_71 (fun u71 => [(sc, .inr (5, [.ref tx, .ref b, .ref so, .ref pr, .ref b2])), (b, .inr (0, [.ref t, .int (iI (-1)), .int (iI bd), .int (iI u71.2.1), .long (jL u71.2.2)]))]) (Or.inr ⟨[0], [0, 1], [(sc, .inr (5, [.ref tx, .ref b, .ref so, .ref pr, .ref b2]))], rfl, by decide, by decide, by decide, fun _ => rfl⟩) (fun u71 => [.int (iI u71.1)]) (fun _ => rfl) 0 0 ⟨rfl, rfl⟩ (fun u71 hu71 => ?_)
              refine k_if_ne C 82 (by rcases hu71 with z | z <;> (have := z.2.1; omega)) dX6_obeyWord_74 (by decide) (fun c74 => ?_) (fun c74 => ?_)
              · skip
                obtain ⟨z1, z2, z3, z4⟩ := hu71.resolve_left (fun z => c74 z.2.1)
                obtain ⟨v82, e82⟩ : ∃ y : Int, y = d + 1 := ⟨_, rfl⟩
                refine k_iinc C (lo' := [(4, .int (iI v82)), (3, .int (iI v42)), (0, .ref sc), (1, .ref (g_ad (x_G X) i)), (2, .int (iI x))]) 0 rfl dX6_obeyWord_82 (by decide) v82 e82 rfl ?_
                refine k_goto C 49 dX6_obeyWord_85 (by decide) ?_
                exact ih49 (kq + 1) _ v82 u71.2.1 u71.2.2 (⟨by omega, by omega, BdS_next j3 (nxI_some z1).1 z3 z4, ObI_go j4 (by omega) z1 (by omega) hs⟩) (by omega)
              · skip
                have hE := ObI_no i0 i3 j4 (by omega) (by rcases hu71 with z | z; (exact z.1); (have := z.2.1; omega))
                refine k_iload_n C 1 rfl dX6_obeyWord_77 rfl ?_
                refine k_iload C 0 rfl dX6_obeyWord_78 ?_
                refine k_isub C dX6_obeyWord_80 ?_
                refine k_nmI (fun v80 e80 => ?_)
                exact k_iret C hR (u := (v80, bd, u71.2.1, u71.2.2)) rfl (by (try dsimp only) <;> exact (⟨by rw [hE]; show v80 = (((v42 - d).toNat : Nat) : Int); omega, by rw [hE]; rcases hu71 with z | z; (rw [z.2.2.1, z.2.2.2]; exact j3); (exact absurd z.2.1 (by omega))⟩)) rfl (Nat.le_of_ble_eq_true rfl) (Nat.le_of_ble_eq_true rfl) dX6_obeyWord_81
      exact L49 _ k m 0 cm sk (⟨by omega, by omega, hS, by unfold ObI; rw [show (v42 - 0).toNat = (max 1 x).toNat by omega]⟩) (Nat.lt_succ_self _)
    · skip
      have i3 : i = 3 := C.inj hi (by decide) c21
      subst i3
      refine k_aload_n C 0 rfl dX6_obeyWord_24 rfl ?_
      refine k_get C (Cn := RX6) (T := TX6) (N := 5) (ci := 5) (ref := "StruckCounts") in_X6_obeyWord_X6 0 rfl rfl 1 (by decide) 2 rfl rfl (v := .ref b) rfl dX6_obeyWord_25 ?_
      refine k_aload_n C 0 rfl dX6_obeyWord_28 rfl ?_
      refine k_get C (Cn := RX6) (T := TX6) (N := 5) (ci := 5) (ref := "StruckCounts") in_X6_obeyWord_X6 0 rfl rfl 1 (by decide) 2 rfl rfl (v := .ref b) rfl dX6_obeyWord_29 ?_
      refine k_getN C (Cn := RX0) (T := TX0) (N := 5) (ci := 0) (ref := "StruckCounts$Board") in_X6_obeyWord_X0 1 rfl rfl 2 (by decide) 4 rfl rfl (v := .int (iI bd)) rfl dX6_obeyWord_32 ?_
      refine k_callV C (y := yX0_begin) [.int (iI bd)] 1 rfl (c_X0_begin (x_l X) (x_G X) b t (-1) bd cm sk bd ) gX6_obeyWord_X0_begin rfl ⟨rfl, by decide +kernel, by decide +kernel, by decide +kernel⟩ ⟨by decide, by decide⟩ 1 (fs := [.ref t, .int (iI (-1)), .int (iI bd), .int (iI cm), .long (jL sk)]) rfl rfl rfl [1] (by decide) (wc := [(b, .inr (0, [.ref t, .int (iI (-1)), .int (iI bd), .int (iI cm), .long (jL sk)]))]) rfl [] rfl (Nat.le_of_ble_eq_true rfl) ⟨Nat.le_of_ble_eq_true rfl, Nat.le_of_ble_eq_true rfl⟩ dX6_obeyWord_35 (fun u35 => [(sc, .inr (5, [.ref tx, .ref b, .ref so, .ref pr, .ref b2])), (b, .inr (0, [.ref t, .int (iI (-1)), .int (iI bd), .int (iI 0), .long (jL 0)]))]) (Or.inr ⟨[0], [0, 1], [(sc, .inr (5, [.ref tx, .ref b, .ref so, .ref pr, .ref b2]))], rfl, by decide, by decide, by decide, fun _ => rfl⟩) (fun u35 => []) (fun _ => rfl) 0 0 ⟨rfl, rfl⟩ (fun u35 hu35 => ?_)
      refine k_iconst C dX6_obeyWord_38 ?_
      exact k_iret C hR (u := (0, bd, 0, 0)) rfl (by (try dsimp only) <;> exact (⟨rfl, by rw [obW_3]; exact ⟨s1, rfl, rfl, s4, s5, by show (0:Nat) ≤ 40; omega, by show (0:Nat) < 2 ^ 0; decide⟩⟩)) rfl (Nat.le_of_ble_eq_true rfl) (Nat.le_of_ble_eq_true rfl) dX6_obeyWord_39
  · skip
    have i0 : i = 0 := C.inj hi (by decide) c4
    subst i0
    refine k_aload_n C 0 rfl dX6_obeyWord_7 rfl ?_
    refine k_get C (Cn := RX6) (T := TX6) (N := 5) (ci := 5) (ref := "StruckCounts") in_X6_obeyWord_X6 0 rfl rfl 1 (by decide) 2 rfl rfl (v := .ref b) rfl dX6_obeyWord_8 ?_
    refine k_iload_n C 2 rfl dX6_obeyWord_11 rfl ?_
    refine k_callV C (y := yX0_begin) [.int (iI x)] 1 rfl (c_X0_begin (x_l X) (x_G X) b t (-1) bd cm sk x ) gX6_obeyWord_X0_begin rfl ⟨rfl, by decide +kernel, by decide +kernel, by decide +kernel⟩ ⟨by decide, by decide⟩ 1 (fs := [.ref t, .int (iI (-1)), .int (iI bd), .int (iI cm), .long (jL sk)]) rfl rfl rfl [1] (by decide) (wc := [(b, .inr (0, [.ref t, .int (iI (-1)), .int (iI bd), .int (iI cm), .long (jL sk)]))]) rfl [] rfl (Nat.le_of_ble_eq_true rfl) ⟨Nat.le_of_ble_eq_true rfl, Nat.le_of_ble_eq_true rfl⟩ dX6_obeyWord_12 (fun u12 => [(sc, .inr (5, [.ref tx, .ref b, .ref so, .ref pr, .ref b2])), (b, .inr (0, [.ref t, .int (iI (-1)), .int (iI x), .int (iI 0), .long (jL 0)]))]) (Or.inr ⟨[0], [0, 1], [(sc, .inr (5, [.ref tx, .ref b, .ref so, .ref pr, .ref b2]))], rfl, by decide, by decide, by decide, fun _ => rfl⟩) (fun u12 => []) (fun _ => rfl) 0 0 ⟨rfl, rfl⟩ (fun u12 hu12 => ?_)
    refine k_iconst C dX6_obeyWord_15 ?_
    exact k_iret C hR (u := (0, x, 0, 0)) rfl (by (try dsimp only) <;> exact (⟨rfl, by rw [obW_0]; exact ⟨by show x = _; omega, rfl, rfl, by have := hx0 rfl; show 1 ≤ x.toNat; omega, by show x.toNat ≤ 99999; omega, by show (0:Nat) ≤ 40; omega, by show (0:Nat) < 2 ^ 0; decide⟩⟩)) rfl (Nat.le_of_ble_eq_true rfl) (Nat.le_of_ble_eq_true rfl) dX6_obeyWord_16
