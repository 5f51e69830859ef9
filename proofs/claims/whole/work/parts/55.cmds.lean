theorem cA_rng (m k n : Nat) : cA m k n ≤ n := ct_le _ n
def wsb (k m : Nat) (x : Int) : Bool := (List.range k).any fun i => decide ((sp i : Int) = x) && m.testBit i
theorem wsb_iff {k m : Nat} {x : Int} : wsb k m x = true ↔ ∃ i, i < k ∧ (sp i : Int) = x ∧ m.testBit i = true := by
  unfold wsb
  rw [List.any_eq_true]
  constructor
  · rintro ⟨i, h1, h2⟩
    rw [Bool.and_eq_true] at h2
    exact ⟨i, List.mem_range.mp h1, of_decide_eq_true h2.1, h2.2⟩
  · rintro ⟨i, h1, h2, h3⟩
    exact ⟨i, List.mem_range.mpr h1, by rw [Bool.and_eq_true]; exact ⟨decide_eq_true h2, h3⟩⟩
def cmd (kd x : Int) (n k m : Nat) : Bool × Nat × Nat × Nat :=
  if kd = 1 then (if x < 1 then (false, n, k, m) else (true, x.toNat, 0, 0))
  else if kd = 2 then (if x = 0 ∧ ¬ nxI n k = -1 then (true, n, k + 1, m ||| 2 ^ k) else (false, n, k, m))
  else if kd = 3 then (if x = 0 ∧ ¬ nxI n k = -1 then (true, n, k + 1, m) else (false, n, k, m))
  else if kd = 4 then (true, n, k + sj n x k, msk m k (sj n x k))
  else if kd = 5 then (if x = 0 then (true, n, 0, 0) else (false, n, k, m))
  else if kd = 6 then (decide (x ≤ (cA m k n : Int)), n, k, m)
  else if kd = 7 then (decide ((cA m k n : Int) ≤ x), n, k, m)
  else if kd = 8 then (decide (¬ pI n x = -1), n, k, m)
  else if kd = 9 then (wsb k m x, n, k, m)
  else (false, n, k, m)
theorem cmd_1f {x : Int} {n k m : Nat} (h : x < 1) : (cmd 1 x n k m).1 = false := by unfold cmd; rw [if_pos rfl, if_pos h]
theorem cmd_1 {x : Int} {n k m : Nat} (h : ¬ x < 1) : cmd 1 x n k m = (true, x.toNat, 0, 0) := by unfold cmd; rw [if_pos rfl, if_neg h]
theorem cmd_2f {x : Int} {n k m : Nat} (h : ¬ (x = 0 ∧ ¬ nxI n k = -1)) : (cmd 2 x n k m).1 = false := by unfold cmd; rw [if_neg (by decide), if_pos rfl, if_neg h]
theorem cmd_2 {x : Int} {n k m : Nat} (h : x = 0 ∧ ¬ nxI n k = -1) : cmd 2 x n k m = (true, n, k + 1, m ||| 2 ^ k) := by unfold cmd; rw [if_neg (by decide), if_pos rfl, if_pos h]
theorem cmd_3f {x : Int} {n k m : Nat} (h : ¬ (x = 0 ∧ ¬ nxI n k = -1)) : (cmd 3 x n k m).1 = false := by unfold cmd; rw [if_neg (by decide), if_neg (by decide), if_pos rfl, if_neg h]
theorem cmd_3 {x : Int} {n k m : Nat} (h : x = 0 ∧ ¬ nxI n k = -1) : cmd 3 x n k m = (true, n, k + 1, m) := by unfold cmd; rw [if_neg (by decide), if_neg (by decide), if_pos rfl, if_pos h]
theorem cmd_4 {x : Int} {n k m : Nat} : cmd 4 x n k m = (true, n, k + sj n x k, msk m k (sj n x k)) := by unfold cmd; rw [if_neg (by decide), if_neg (by decide), if_neg (by decide), if_pos rfl]
theorem cmd_5f {x : Int} {n k m : Nat} (h : ¬ x = 0) : (cmd 5 x n k m).1 = false := by unfold cmd; rw [if_neg (by decide), if_neg (by decide), if_neg (by decide), if_neg (by decide), if_pos rfl, if_neg h]
theorem cmd_5 {x : Int} {n k m : Nat} (h : x = 0) : cmd 5 x n k m = (true, n, 0, 0) := by unfold cmd; rw [if_neg (by decide), if_neg (by decide), if_neg (by decide), if_neg (by decide), if_pos rfl, if_pos h]
theorem cmd_6 {x : Int} {n k m : Nat} : cmd 6 x n k m = (decide (x ≤ (cA m k n : Int)), n, k, m) := by unfold cmd; rw [if_neg (by decide), if_neg (by decide), if_neg (by decide), if_neg (by decide), if_neg (by decide), if_pos rfl]
theorem cmd_7 {x : Int} {n k m : Nat} : cmd 7 x n k m = (decide ((cA m k n : Int) ≤ x), n, k, m) := by unfold cmd; rw [if_neg (by decide), if_neg (by decide), if_neg (by decide), if_neg (by decide), if_neg (by decide), if_neg (by decide), if_pos rfl]
theorem cmd_8 {x : Int} {n k m : Nat} : (cmd 8 x n k m).2 = (n, k, m) ∧ ((cmd 8 x n k m).1 = true ↔ ¬ pI n x = -1) := by
  unfold cmd; rw [if_neg (by decide), if_neg (by decide), if_neg (by decide), if_neg (by decide), if_neg (by decide), if_neg (by decide), if_neg (by decide), if_pos rfl]; exact ⟨rfl, decide_eq_true_iff⟩
theorem cmd_9 {x : Int} {n k m : Nat} : (cmd 9 x n k m).2 = (n, k, m) ∧ ((cmd 9 x n k m).1 = true ↔ ∃ i, i < k ∧ (sp i : Int) = x ∧ m.testBit i = true) := by
  unfold cmd; rw [if_neg (by decide), if_neg (by decide), if_neg (by decide), if_neg (by decide), if_neg (by decide), if_neg (by decide), if_neg (by decide), if_neg (by decide), if_pos rfl]; exact ⟨rfl, wsb_iff⟩
theorem cmd_0 {kd x : Int} {n k m : Nat} (h : kd < 1 ∨ 9 < kd) : (cmd kd x n k m).1 = false := by
  unfold cmd; rw [if_neg (by omega), if_neg (by omega), if_neg (by omega), if_neg (by omega), if_neg (by omega), if_neg (by omega), if_neg (by omega), if_neg (by omega), if_neg (by omega)]
def CmOK (c : Bool × Nat × Nat × Nat) (r tl bd cm sk tb ts : Int) (fv fr fs : Nat → Int) : Prop :=
  (r = 1 ∧ c.1 = true ∧ BdS c.2.1 c.2.2.1 c.2.2.2 bd cm sk ∧ BdT c.2.1 c.2.2.1 c.2.2.2 tl tb ts fv fr fs) ∨ (r = 0 ∧ c.1 = false)
theorem CmOK_t {c : Bool × Nat × Nat × Nat} {n k m : Nat} {tl bd cm sk tb ts : Int} {fv fr fs : Nat → Int} (h : c = (true, n, k, m)) (hS : BdS n k m bd cm sk) (hT : BdT n k m tl tb ts fv fr fs) : CmOK c 1 tl bd cm sk tb ts fv fr fs := by rw [h]; exact Or.inl ⟨rfl, rfl, hS, hT⟩
theorem CmOK_t2 {c : Bool × Nat × Nat × Nat} {n k m : Nat} {tl bd cm sk tb ts : Int} {fv fr fs : Nat → Int} (h1 : c.1 = true) (h : c.2 = (n, k, m)) (hS : BdS n k m bd cm sk) (hT : BdT n k m tl tb ts fv fr fs) : CmOK c 1 tl bd cm sk tb ts fv fr fs := by
  unfold CmOK; rw [h]; exact Or.inl ⟨rfl, h1, hS, hT⟩
theorem CmOK_f {c : Bool × Nat × Nat × Nat} {tl bd cm sk tb ts : Int} {fv fr fs : Nat → Int} (h : c.1 = false) : CmOK c 0 tl bd cm sk tb ts fv fr fs := Or.inr ⟨rfl, h⟩
theorem bfalse {b : Bool} {P : Prop} (h : b = true ↔ P) (n : ¬ P) : b = false := by
  cases b
  · rfl
  · exact absurd (h.mp rfl) n
theorem BdT_msk {n k m : Nat} {tl tb ts : Int} {fv fr fs : Nat → Int} (h : BdT n k m tl tb ts fv fr fs) : ∀ j, BdT n (k + j) (msk m k j) tl tb ts fv fr fs
  | 0 => h
  | j + 1 => BdT_next (BdT_msk h j) fun i hi => or_lo hi
theorem BdS_0 {n k m : Nat} {bd cm sk x : Int} (hx : 1 ≤ x ∧ x ≤ 99999) : BdS x.toNat 0 0 x 0 0 := ⟨by omega, rfl, rfl, by omega, by omega, by decide, by decide⟩

theorem in_X6_obeyCommand_X6 : ∀ w ∈ wsX60, w ∈ wsX6_obeyCommand := by decide +kernel
theorem in_X6_obeyCommand_X0 : ∀ w ∈ wsX00, w ∈ wsX6_obeyCommand := by decide +kernel
set_option maxHeartbeats 4000000 in
set_option maxRecDepth 100000 in
theorem c_X6_obeyCommand (l : Launch) (G : KG) (sc tx so pr b0 b t va re su : Nat) (tl tb ts bd cm sk : Int) (fv fr fs : Nat → Int) (n k m : Nat) (kd x : Int) (hS : BdS n k m bd cm sk) (hT : BdT n k m tl tb ts fv fr fs) (hkd : 0 ≤ kd ∧ kd ≤ 99999) (hx : 0 ≤ x ∧ x ≤ 99999) : Ct l G yX6_obeyCommand wsX6_obeyCommand (rmD 6 0 0) [.ref sc, .int (iI kd), .int (iI x)] [(sc, .inr (5, [.ref tx, .ref b0, .ref so, .ref pr, .ref b])), (b, .inr (0, [.ref t, .int (iI tl), .int (iI bd), .int (iI cm), .long (jL sk)])), (t, .inr (3, [.ref va, .ref re, .ref su, .int (iI tb), .int (iI ts)])), (va, .inl (g_I G, 631, .inl (aI fv))), (re, .inl (g_I G, 2524, .inl (aI fr))), (su, .inl (g_J G, 631, .inr (.inl (aL fs))))] (fun u : Int × Int × Int × Int × Int × Int × Int × (Nat → Int) × (Nat → Int) × (Nat → Int) => CmOK (cmd kd x n k m) u.1 u.2.1 u.2.2.1 u.2.2.2.1 u.2.2.2.2.1 u.2.2.2.2.2.1 u.2.2.2.2.2.2.1 u.2.2.2.2.2.2.2.1 u.2.2.2.2.2.2.2.2.1 u.2.2.2.2.2.2.2.2.2) (fun u : Int × Int × Int × Int × Int × Int × Int × (Nat → Int) × (Nat → Int) × (Nat → Int) => some (.int (iI u.1))) (fun u : Int × Int × Int × Int × Int × Int × Int × (Nat → Int) × (Nat → Int) × (Nat → Int) => [(sc, .inr (5, [.ref tx, .ref b0, .ref so, .ref pr, .ref b])), (b, .inr (0, [.ref t, .int (iI u.2.1), .int (iI u.2.2.1), .int (iI u.2.2.2.1), .long (jL u.2.2.2.2.1)])), (t, .inr (3, [.ref va, .ref re, .ref su, .int (iI u.2.2.2.2.2.1), .int (iI u.2.2.2.2.2.2.1)])), (va, .inl (g_I G, 631, .inl (aI u.2.2.2.2.2.2.2.1))), (re, .inl (g_I G, 2524, .inl (aI u.2.2.2.2.2.2.2.2.1))), (su, .inl (g_J G, 631, .inr (.inl (aL u.2.2.2.2.2.2.2.2.2))))]) := by
  refine Ct.of (cc := cX6_obeyCommand) (maxL := 3) (ret := (some .boolean)) (by decide +kernel) rfl (Nat.le_of_ble_eq_true rfl) ?_
  intro X C hG hL hnm hR
  subst hG
  subst hL
  have C : Cx X cX6_obeyCommand RX6 wsX6_obeyCommand (some .boolean) 3 (rmD 6 0 0) := C
  obtain ⟨s1, s2, s3, s4, s5, s6, s7⟩ := id hS
  show K_ X 0 0 [(sc, .inr (5, [.ref tx, .ref b0, .ref so, .ref pr, .ref b])), (b, .inr (0, [.ref t, .int (iI tl), .int (iI bd), .int (iI cm), .long (jL sk)])), (t, .inr (3, [.ref va, .ref re, .ref su, .int (iI tb), .int (iI ts)])), (va, .inl (g_I (x_G X), 631, .inl (aI fv))), (re, .inl (g_I (x_G X), 2524, .inl (aI fr))), (su, .inl (g_J (x_G X), 631, .inr (.inl (aL fs))))] 0 [(0, .ref sc), (1, .int (iI kd)), (2, .int (iI x))] []
  refine k_iload_n C 1 rfl dX6_obeyCommand_0 rfl ?_
  rcases (show (kd < 1 ∨ 9 < kd) ∨ (kd = 1) ∨ (kd = 2) ∨ (kd = 3) ∨ (kd = 4) ∨ (kd = 5) ∨ (kd = 6) ∨ (kd = 7) ∨ (kd = 8) ∨ (kd = 9) by omega) with c1 | c1 | c1 | c1 | c1 | c1 | c1 | c1 | c1 | c1
  · refine k_tabOut C 208 (⟨by omega, by omega⟩) dX6_obeyCommand_1 c1 (by decide) ?_
    refine k_iconst C dX6_obeyCommand_208 ?_
    exact k_zret C hR (by omega) (u := (0, tl, bd, cm, sk, tb, ts, fv, fr, fs)) rfl (by (try dsimp only) <;> exact (CmOK_f (cmd_0 (by omega)))) rfl (Nat.le_of_ble_eq_true rfl) (Nat.le_of_ble_eq_true rfl) dX6_obeyCommand_209
  · refine k_tabIn C 52 (⟨by omega, by omega⟩) dX6_obeyCommand_1 (by omega) (by omega) (by rw [c1]; rfl) (by decide) ?_
    subst c1
    refine k_iload_n C 2 rfl dX6_obeyCommand_52 rfl ?_
    refine k_iconst C dX6_obeyCommand_53 ?_
    refine k_icmp_ge C 59 (⟨by omega, by omega⟩) (⟨by omega, by omega⟩) dX6_obeyCommand_54 (by decide) (fun c54 => ?_) (fun c54 => ?_)
    · skip
      refine k_aload_n C 0 rfl dX6_obeyCommand_59 rfl ?_
      refine k_get C (Cn := RX6) (T := TX6) (N := 5) (ci := 5) (ref := "StruckCounts") in_X6_obeyCommand_X6 0 rfl rfl 4 (by decide) 1 rfl rfl (v := .ref b) rfl dX6_obeyCommand_60 ?_
      refine k_iload_n C 2 rfl dX6_obeyCommand_63 rfl ?_
      refine k_callV C (y := yX0_begin) [.int (iI x)] 1 rfl (c_X0_begin (x_l X) (x_G X) b t tl bd cm sk x ) gX6_obeyCommand_X0_begin rfl ⟨rfl, by decide +kernel, by decide +kernel, by decide +kernel⟩ ⟨by decide, by decide⟩ 1 (fs := [.ref t, .int (iI tl), .int (iI bd), .int (iI cm), .long (jL sk)]) rfl rfl rfl [1] (by decide) (wc := [(b, .inr (0, [.ref t, .int (iI tl), .int (iI bd), .int (iI cm), .long (jL sk)]))]) rfl [] rfl (Nat.le_of_ble_eq_true rfl) ⟨Nat.le_of_ble_eq_true rfl, Nat.le_of_ble_eq_true rfl⟩ dX6_obeyCommand_64 (fun u64 => [(sc, .inr (5, [.ref tx, .ref b0, .ref so, .ref pr, .ref b])), (b, .inr (0, [.ref t, .int (iI (-1)), .int (iI x), .int (iI 0), .long (jL 0)])), (t, .inr (3, [.ref va, .ref re, .ref su, .int (iI tb), .int (iI ts)])), (va, .inl (g_I (x_G X), 631, .inl (aI fv))), (re, .inl (g_I (x_G X), 2524, .inl (aI fr))), (su, .inl (g_J (x_G X), 631, .inr (.inl (aL fs))))]) (Or.inr ⟨[0, 2, 3, 4, 5], [0, 5, 1, 2, 3, 4], [(sc, .inr (5, [.ref tx, .ref b0, .ref so, .ref pr, .ref b])), (t, .inr (3, [.ref va, .ref re, .ref su, .int (iI tb), .int (iI ts)])), (va, .inl (g_I (x_G X), 631, .inl (aI fv))), (re, .inl (g_I (x_G X), 2524, .inl (aI fr))), (su, .inl (g_J (x_G X), 631, .inr (.inl (aL fs))))], rfl, by decide, by decide, by decide, fun _ => rfl⟩) (fun u64 => []) (fun _ => rfl) 0 0 ⟨rfl, rfl⟩ (fun u64 hu64 => ?_)
      refine k_iconst C dX6_obeyCommand_67 ?_
      exact k_zret C hR (by omega) (u := (1, (-1), x, 0, 0, tb, ts, fv, fr, fs)) rfl (by (try dsimp only) <;> exact (CmOK_t (cmd_1 (by omega)) (BdS_0 (n := n) (k := k) (m := m) (bd := bd) (cm := cm) (sk := sk) (by omega)) (Or.inl rfl))) rfl (Nat.le_of_ble_eq_true rfl) (Nat.le_of_ble_eq_true rfl) dX6_obeyCommand_68
    · skip
      refine k_iconst C dX6_obeyCommand_57 ?_
      exact k_zret C hR (by omega) (u := (0, tl, bd, cm, sk, tb, ts, fv, fr, fs)) rfl (by (try dsimp only) <;> exact (CmOK_f (cmd_1f (by omega)))) rfl (Nat.le_of_ble_eq_true rfl) (Nat.le_of_ble_eq_true rfl) dX6_obeyCommand_58
  · refine k_tabIn C 69 (⟨by omega, by omega⟩) dX6_obeyCommand_1 (by omega) (by omega) (by rw [c1]; rfl) (by decide) ?_
    subst c1
    refine k_iload_n C 2 rfl dX6_obeyCommand_69 rfl ?_
    refine k_if_ne C 88 (⟨by omega, by omega⟩) dX6_obeyCommand_70 (by decide) (fun c70 => ?_) (fun c70 => ?_)
    · skip
      refine k_iconst C dX6_obeyCommand_88 ?_
      exact k_zret C hR (by omega) (u := (0, tl, bd, cm, sk, tb, ts, fv, fr, fs)) rfl (by (try dsimp only) <;> exact (CmOK_f (cmd_2f (fun z => c70 z.1)))) rfl (Nat.le_of_ble_eq_true rfl) (Nat.le_of_ble_eq_true rfl) dX6_obeyCommand_89
    · skip
      refine k_aload_n C 0 rfl dX6_obeyCommand_73 rfl ?_
      refine k_get C (Cn := RX6) (T := TX6) (N := 5) (ci := 5) (ref := "StruckCounts") in_X6_obeyCommand_X6 0 rfl rfl 4 (by decide) 1 rfl rfl (v := .ref b) rfl dX6_obeyCommand_74 ?_
      refine k_iconst C dX6_obeyCommand_77 ?_
      refine k_callV C (y := yX0_letCome) [.int (iI 1)] 1 rfl (c_X0_letCome (x_l X) (x_G X) b t tl bd cm sk 1 n k m (by first | assumption | exact Or.inr rfl) (by first | assumption | exact Or.inr rfl)) gX6_obeyCommand_X0_letCome rfl ⟨rfl, by decide +kernel, by decide +kernel, by decide +kernel⟩ ⟨by decide, by decide⟩ 1 (fs := [.ref t, .int (iI tl), .int (iI bd), .int (iI cm), .long (jL sk)]) rfl rfl rfl [1] (by decide) (wc := [(b, .inr (0, [.ref t, .int (iI tl), .int (iI bd), .int (iI cm), .long (jL sk)]))]) rfl [] rfl (Nat.le_of_ble_eq_true rfl) ⟨Nat.le_of_ble_eq_true rfl, Nat.le_of_ble_eq_true rfl⟩ dX6_obeyCommand_78 (fun u78 => [(sc, .inr (5, [.ref tx, .ref b0, .ref so, .ref pr, .ref b])), (b, .inr (0, [.ref t, .int (iI tl), .int (iI bd), .int (iI u78.2.1), .long (jL u78.2.2)])), (t, .inr (3, [.ref va, .ref re, .ref su, .int (iI tb), .int (iI ts)])), (va, .inl (g_I (x_G X), 631, .inl (aI fv))), (re, .inl (g_I (x_G X), 2524, .inl (aI fr))), (su, .inl (g_J (x_G X), 631, .inr (.inl (aL fs))))]) (Or.inr ⟨[0, 2, 3, 4, 5], [0, 5, 1, 2, 3, 4], [(sc, .inr (5, [.ref tx, .ref b0, .ref so, .ref pr, .ref b])), (t, .inr (3, [.ref va, .ref re, .ref su, .int (iI tb), .int (iI ts)])), (va, .inl (g_I (x_G X), 631, .inl (aI fv))), (re, .inl (g_I (x_G X), 2524, .inl (aI fr))), (su, .inl (g_J (x_G X), 631, .inr (.inl (aL fs))))], rfl, by decide, by decide, by decide, fun _ => rfl⟩) (fun u78 => [.int (iI u78.1)]) (fun _ => rfl) 0 0 ⟨rfl, rfl⟩ (fun u78 hu78 => ?_)
      refine k_if_eq C 88 (⟨by omega, by omega⟩) dX6_obeyCommand_81 (by decide) (fun c81 => ?_) (fun c81 => ?_)
      · skip
        have hn : nxI n k = -1 := by rcases hu78 with z | z; (exact z.1); (have := z.2.1; omega)
        refine k_iconst C dX6_obeyCommand_88 ?_
        exact k_zret C hR (by omega) (u := (0, tl, bd, u78.2.1, u78.2.2, tb, ts, fv, fr, fs)) rfl (by (try dsimp only) <;> exact (CmOK_f (cmd_2f (fun z => z.2 hn)))) rfl (Nat.le_of_ble_eq_true rfl) (Nat.le_of_ble_eq_true rfl) dX6_obeyCommand_89
      · skip
        obtain ⟨z1, z2, z3, z4⟩ := hu78.resolve_left (fun z => c81 z.2.1)
        refine k_iconst C dX6_obeyCommand_84 ?_
        refine k_goto C 89 dX6_obeyCommand_85 (by decide) ?_
        exact k_zret C hR (by omega) (u := (1, tl, bd, u78.2.1, u78.2.2, tb, ts, fv, fr, fs)) rfl (by (try dsimp only) <;> exact (CmOK_t (cmd_2 ⟨by omega, z1⟩) (by have := BdS_next hS (s := 1) (cm2 := u78.2.1) (sk2 := u78.2.2) (nxI_some z1).1 z3 z4; rw [if_neg (by decide)] at this; exact this) (BdT_next hT (fun j hj => or_lo hj)))) rfl (Nat.le_of_ble_eq_true rfl) (Nat.le_of_ble_eq_true rfl) dX6_obeyCommand_89
  · refine k_tabIn C 90 (⟨by omega, by omega⟩) dX6_obeyCommand_1 (by omega) (by omega) (by rw [c1]; rfl) (by decide) ?_
    subst c1
    refine k_iload_n C 2 rfl dX6_obeyCommand_90 rfl ?_
    refine k_if_ne C 109 (⟨by omega, by omega⟩) dX6_obeyCommand_91 (by decide) (fun c91 => ?_) (fun c91 => ?_)
    · skip
      refine k_iconst C dX6_obeyCommand_109 ?_
      exact k_zret C hR (by omega) (u := (0, tl, bd, cm, sk, tb, ts, fv, fr, fs)) rfl (by (try dsimp only) <;> exact (CmOK_f (cmd_3f (fun z => c91 z.1)))) rfl (Nat.le_of_ble_eq_true rfl) (Nat.le_of_ble_eq_true rfl) dX6_obeyCommand_110
    · skip
      refine k_aload_n C 0 rfl dX6_obeyCommand_94 rfl ?_
      refine k_get C (Cn := RX6) (T := TX6) (N := 5) (ci := 5) (ref := "StruckCounts") in_X6_obeyCommand_X6 0 rfl rfl 4 (by decide) 1 rfl rfl (v := .ref b) rfl dX6_obeyCommand_95 ?_
      refine k_iconst C dX6_obeyCommand_98 ?_
      refine k_callV C (y := yX0_letCome) [.int (iI 0)] 1 rfl (c_X0_letCome (x_l X) (x_G X) b t tl bd cm sk 0 n k m (by first | assumption | exact Or.inl rfl) (by first | assumption | exact Or.inl rfl)) gX6_obeyCommand_X0_letCome rfl ⟨rfl, by decide +kernel, by decide +kernel, by decide +kernel⟩ ⟨by decide, by decide⟩ 1 (fs := [.ref t, .int (iI tl), .int (iI bd), .int (iI cm), .long (jL sk)]) rfl rfl rfl [1] (by decide) (wc := [(b, .inr (0, [.ref t, .int (iI tl), .int (iI bd), .int (iI cm), .long (jL sk)]))]) rfl [] rfl (Nat.le_of_ble_eq_true rfl) ⟨Nat.le_of_ble_eq_true rfl, Nat.le_of_ble_eq_true rfl⟩ dX6_obeyCommand_99 (fun u99 => [(sc, .inr (5, [.ref tx, .ref b0, .ref so, .ref pr, .ref b])), (b, .inr (0, [.ref t, .int (iI tl), .int (iI bd), .int (iI u99.2.1), .long (jL u99.2.2)])), (t, .inr (3, [.ref va, .ref re, .ref su, .int (iI tb), .int (iI ts)])), (va, .inl (g_I (x_G X), 631, .inl (aI fv))), (re, .inl (g_I (x_G X), 2524, .inl (aI fr))), (su, .inl (g_J (x_G X), 631, .inr (.inl (aL fs))))]) (Or.inr ⟨[0, 2, 3, 4, 5], [0, 5, 1, 2, 3, 4], [(sc, .inr (5, [.ref tx, .ref b0, .ref so, .ref pr, .ref b])), (t, .inr (3, [.ref va, .ref re, .ref su, .int (iI tb), .int (iI ts)])), (va, .inl (g_I (x_G X), 631, .inl (aI fv))), (re, .inl (g_I (x_G X), 2524, .inl (aI fr))), (su, .inl (g_J (x_G X), 631, .inr (.inl (aL fs))))], rfl, by decide, by decide, by decide, fun _ => rfl⟩) (fun u99 => [.int (iI u99.1)]) (fun _ => rfl) 0 0 ⟨rfl, rfl⟩ (fun u99 hu99 => ?_)
      refine k_if_eq C 109 (⟨by omega, by omega⟩) dX6_obeyCommand_102 (by decide) (fun c102 => ?_) (fun c102 => ?_)
      · skip
        have hn : nxI n k = -1 := by rcases hu99 with z | z; (exact z.1); (have := z.2.1; omega)
        refine k_iconst C dX6_obeyCommand_109 ?_
        exact k_zret C hR (by omega) (u := (0, tl, bd, u99.2.1, u99.2.2, tb, ts, fv, fr, fs)) rfl (by (try dsimp only) <;> exact (CmOK_f (cmd_3f (fun z => z.2 hn)))) rfl (Nat.le_of_ble_eq_true rfl) (Nat.le_of_ble_eq_true rfl) dX6_obeyCommand_110
      · skip
        obtain ⟨z1, z2, z3, z4⟩ := hu99.resolve_left (fun z => c102 z.2.1)
        refine k_iconst C dX6_obeyCommand_105 ?_
        refine k_goto C 110 dX6_obeyCommand_106 (by decide) ?_
        exact k_zret C hR (by omega) (u := (1, tl, bd, u99.2.1, u99.2.2, tb, ts, fv, fr, fs)) rfl (by (try dsimp only) <;> exact (CmOK_t (cmd_3 ⟨by omega, z1⟩) (by have := BdS_next hS (s := 0) (cm2 := u99.2.1) (sk2 := u99.2.2) (nxI_some z1).1 z3 z4; rw [if_pos rfl] at this; exact this) (BdT_next hT (fun j hj => rfl)))) rfl (Nat.le_of_ble_eq_true rfl) (Nat.le_of_ble_eq_true rfl) dX6_obeyCommand_110
  · refine k_tabIn C 111 (⟨by omega, by omega⟩) dX6_obeyCommand_1 (by omega) (by omega) (by rw [c1]; rfl) (by decide) ?_
    subst c1
    refine k_aload_n C 0 rfl dX6_obeyCommand_111 rfl ?_
    refine k_get C (Cn := RX6) (T := TX6) (N := 5) (ci := 5) (ref := "StruckCounts") in_X6_obeyCommand_X6 0 rfl rfl 4 (by decide) 1 rfl rfl (v := .ref b) rfl dX6_obeyCommand_112 ?_
    refine k_iload_n C 2 rfl dX6_obeyCommand_115 rfl ?_
    refine k_callV C (y := yX0_letStrikeUpTo) [.int (iI x)] 1 rfl (c_X0_letStrikeUpTo (x_l X) (x_G X) b t tl bd cm sk x n k m (by first | assumption | omega) (by first | assumption | omega)) gX6_obeyCommand_X0_letStrikeUpTo rfl ⟨rfl, by decide +kernel, by decide +kernel, by decide +kernel⟩ ⟨by decide, by decide⟩ 1 (fs := [.ref t, .int (iI tl), .int (iI bd), .int (iI cm), .long (jL sk)]) rfl rfl rfl [1] (by decide) (wc := [(b, .inr (0, [.ref t, .int (iI tl), .int (iI bd), .int (iI cm), .long (jL sk)]))]) rfl [] rfl (Nat.le_of_ble_eq_true rfl) ⟨Nat.le_of_ble_eq_true rfl, Nat.le_of_ble_eq_true rfl⟩ dX6_obeyCommand_116 (fun u116 => [(sc, .inr (5, [.ref tx, .ref b0, .ref so, .ref pr, .ref b])), (b, .inr (0, [.ref t, .int (iI tl), .int (iI bd), .int (iI u116.2.1), .long (jL u116.2.2)])), (t, .inr (3, [.ref va, .ref re, .ref su, .int (iI tb), .int (iI ts)])), (va, .inl (g_I (x_G X), 631, .inl (aI fv))), (re, .inl (g_I (x_G X), 2524, .inl (aI fr))), (su, .inl (g_J (x_G X), 631, .inr (.inl (aL fs))))]) (Or.inr ⟨[0, 2, 3, 4, 5], [0, 5, 1, 2, 3, 4], [(sc, .inr (5, [.ref tx, .ref b0, .ref so, .ref pr, .ref b])), (t, .inr (3, [.ref va, .ref re, .ref su, .int (iI tb), .int (iI ts)])), (va, .inl (g_I (x_G X), 631, .inl (aI fv))), (re, .inl (g_I (x_G X), 2524, .inl (aI fr))), (su, .inl (g_J (x_G X), 631, .inr (.inl (aL fs))))], rfl, by decide, by decide, by decide, fun _ => rfl⟩) (fun u116 => [.int (iI u116.1)]) (fun _ => rfl) 0 0 ⟨rfl, rfl⟩ (fun u116 hu116 => ?_)
    refine k_pop C dX6_obeyCommand_119 rfl ?_
    refine k_iconst C dX6_obeyCommand_120 ?_
    exact k_zret C hR (by omega) (u := (1, tl, bd, u116.2.1, u116.2.2, tb, ts, fv, fr, fs)) rfl (by (try dsimp only) <;> exact (CmOK_t cmd_4 hu116.2 (BdT_msk hT _))) rfl (Nat.le_of_ble_eq_true rfl) (Nat.le_of_ble_eq_true rfl) dX6_obeyCommand_121
  · refine k_tabIn C 122 (⟨by omega, by omega⟩) dX6_obeyCommand_1 (by omega) (by omega) (by rw [c1]; rfl) (by decide) ?_
    subst c1
    refine k_iload_n C 2 rfl dX6_obeyCommand_122 rfl ?_
    refine k_if_eq C 128 (⟨by omega, by omega⟩) dX6_obeyCommand_123 (by decide) (fun c123 => ?_) (fun c123 => ?_)
    · skip
      refine k_aload_n C 0 rfl dX6_obeyCommand_128 rfl ?_
      refine k_get C (Cn := RX6) (T := TX6) (N := 5) (ci := 5) (ref := "StruckCounts") in_X6_obeyCommand_X6 0 rfl rfl 4 (by decide) 1 rfl rfl (v := .ref b) rfl dX6_obeyCommand_129 ?_
      refine k_aload_n C 0 rfl dX6_obeyCommand_132 rfl ?_
      refine k_get C (Cn := RX6) (T := TX6) (N := 5) (ci := 5) (ref := "StruckCounts") in_X6_obeyCommand_X6 0 rfl rfl 4 (by decide) 1 rfl rfl (v := .ref b) rfl dX6_obeyCommand_133 ?_
      refine k_getN C (Cn := RX0) (T := TX0) (N := 5) (ci := 0) (ref := "StruckCounts$Board") in_X6_obeyCommand_X0 1 rfl rfl 2 (by decide) 4 rfl rfl (v := .int (iI bd)) rfl dX6_obeyCommand_136 ?_
      refine k_callV C (y := yX0_begin) [.int (iI bd)] 1 rfl (c_X0_begin (x_l X) (x_G X) b t tl bd cm sk bd ) gX6_obeyCommand_X0_begin rfl ⟨rfl, by decide +kernel, by decide +kernel, by decide +kernel⟩ ⟨by decide, by decide⟩ 1 (fs := [.ref t, .int (iI tl), .int (iI bd), .int (iI cm), .long (jL sk)]) rfl rfl rfl [1] (by decide) (wc := [(b, .inr (0, [.ref t, .int (iI tl), .int (iI bd), .int (iI cm), .long (jL sk)]))]) rfl [] rfl (Nat.le_of_ble_eq_true rfl) ⟨Nat.le_of_ble_eq_true rfl, Nat.le_of_ble_eq_true rfl⟩ dX6_obeyCommand_139 (fun u139 => [(sc, .inr (5, [.ref tx, .ref b0, .ref so, .ref pr, .ref b])), (b, .inr (0, [.ref t, .int (iI (-1)), .int (iI bd), .int (iI 0), .long (jL 0)])), (t, .inr (3, [.ref va, .ref re, .ref su, .int (iI tb), .int (iI ts)])), (va, .inl (g_I (x_G X), 631, .inl (aI fv))), (re, .inl (g_I (x_G X), 2524, .inl (aI fr))), (su, .inl (g_J (x_G X), 631, .inr (.inl (aL fs))))]) (Or.inr ⟨[0, 2, 3, 4, 5], [0, 5, 1, 2, 3, 4], [(sc, .inr (5, [.ref tx, .ref b0, .ref so, .ref pr, .ref b])), (t, .inr (3, [.ref va, .ref re, .ref su, .int (iI tb), .int (iI ts)])), (va, .inl (g_I (x_G X), 631, .inl (aI fv))), (re, .inl (g_I (x_G X), 2524, .inl (aI fr))), (su, .inl (g_J (x_G X), 631, .inr (.inl (aL fs))))], rfl, by decide, by decide, by decide, fun _ => rfl⟩) (fun u139 => []) (fun _ => rfl) 0 0 ⟨rfl, rfl⟩ (fun u139 hu139 => ?_)
      refine k_iconst C dX6_obeyCommand_142 ?_
      exact k_zret C hR (by omega) (u := (1, (-1), bd, 0, 0, tb, ts, fv, fr, fs)) rfl (by (try dsimp only) <;> exact (CmOK_t (cmd_5 (by omega)) ⟨s1, rfl, rfl, s4, s5, by decide, by decide⟩ (Or.inl rfl))) rfl (Nat.le_of_ble_eq_true rfl) (Nat.le_of_ble_eq_true rfl) dX6_obeyCommand_143
    · skip
      refine k_iconst C dX6_obeyCommand_126 ?_
      exact k_zret C hR (by omega) (u := (0, tl, bd, cm, sk, tb, ts, fv, fr, fs)) rfl (by (try dsimp only) <;> exact (CmOK_f (cmd_5f (by omega)))) rfl (Nat.le_of_ble_eq_true rfl) (Nat.le_of_ble_eq_true rfl) dX6_obeyCommand_127
  · refine k_tabIn C 144 (⟨by omega, by omega⟩) dX6_obeyCommand_1 (by omega) (by omega) (by rw [c1]; rfl) (by decide) ?_
    subst c1
    refine k_aload_n C 0 rfl dX6_obeyCommand_144 rfl ?_
    refine k_get C (Cn := RX6) (T := TX6) (N := 5) (ci := 5) (ref := "StruckCounts") in_X6_obeyCommand_X6 0 rfl rfl 4 (by decide) 1 rfl rfl (v := .ref b) rfl dX6_obeyCommand_145 ?_
    refine k_callV C (y := yX0_countLeft) [] 0 rfl (c_X0_countLeft (x_l X) (x_G X) b t va re su tl tb ts bd cm sk n k m fv fr fs (by assumption) (by assumption)) gX6_obeyCommand_X0_countLeft rfl ⟨rfl, by decide +kernel, by decide +kernel, by decide +kernel⟩ ⟨by decide, by decide⟩ 1 (fs := [.ref t, .int (iI tl), .int (iI bd), .int (iI cm), .long (jL sk)]) rfl rfl rfl [1, 2, 3, 4, 5] (by decide) (wc := [(b, .inr (0, [.ref t, .int (iI tl), .int (iI bd), .int (iI cm), .long (jL sk)])), (t, .inr (3, [.ref va, .ref re, .ref su, .int (iI tb), .int (iI ts)])), (va, .inl (g_I (x_G X), 631, .inl (aI fv))), (re, .inl (g_I (x_G X), 2524, .inl (aI fr))), (su, .inl (g_J (x_G X), 631, .inr (.inl (aL fs))))]) rfl [] rfl (Nat.le_of_ble_eq_true rfl) ⟨Nat.le_of_ble_eq_true rfl, Nat.le_of_ble_eq_true rfl⟩ dX6_obeyCommand_148 (fun u148 => [(sc, .inr (5, [.ref tx, .ref b0, .ref so, .ref pr, .ref b])), (b, .inr (0, [.ref t, .int (iI cm), .int (iI bd), .int (iI cm), .long (jL sk)])), (t, .inr (3, [.ref va, .ref re, .ref su, .int (iI u148.2.1), .int (iI u148.2.2.1)])), (va, .inl (g_I (x_G X), 631, .inl (aI u148.2.2.2.1))), (re, .inl (g_I (x_G X), 2524, .inl (aI u148.2.2.2.2.1))), (su, .inl (g_J (x_G X), 631, .inr (.inl (aL u148.2.2.2.2.2))))]) (Or.inr ⟨[0], [0, 1, 2, 3, 4, 5], [(sc, .inr (5, [.ref tx, .ref b0, .ref so, .ref pr, .ref b]))], rfl, by decide, by decide, by decide, fun _ => rfl⟩) (fun u148 => [.int (iI u148.1)]) (fun _ => rfl) 0 0 ⟨rfl, rfl⟩ (fun u148 hu148 => ?_)
    have hcm := cA_rng m k n
    refine k_iload_n C 2 rfl dX6_obeyCommand_151 rfl ?_
    refine k_icmp_lt C 159 (by rw [hu148.2]; omega) (⟨by omega, by omega⟩) dX6_obeyCommand_152 (by decide) (fun c152 => ?_) (fun c152 => ?_)
    · skip
      refine k_iconst C dX6_obeyCommand_159 ?_
      exact k_zret C hR (by omega) (u := (0, cm, bd, cm, sk, u148.2.1, u148.2.2.1, u148.2.2.2.1, u148.2.2.2.2.1, u148.2.2.2.2.2)) rfl (by (try dsimp only) <;> exact (CmOK_f (by rw [cmd_6]; exact decide_eq_false (by have := hu148.2; omega)))) rfl (Nat.le_of_ble_eq_true rfl) (Nat.le_of_ble_eq_true rfl) dX6_obeyCommand_160
    · skip
      refine k_iconst C dX6_obeyCommand_155 ?_
      refine k_goto C 160 dX6_obeyCommand_156 (by decide) ?_
      exact k_zret C hR (by omega) (u := (1, cm, bd, cm, sk, u148.2.1, u148.2.2.1, u148.2.2.2.1, u148.2.2.2.2.1, u148.2.2.2.2.2)) rfl (by (try dsimp only) <;> exact (CmOK_t (by rw [cmd_6, decide_eq_true (by have := hu148.2; omega)]) hS (Tl_up hS hu148.1))) rfl (Nat.le_of_ble_eq_true rfl) (Nat.le_of_ble_eq_true rfl) dX6_obeyCommand_160
  · refine k_tabIn C 161 (⟨by omega, by omega⟩) dX6_obeyCommand_1 (by omega) (by omega) (by rw [c1]; rfl) (by decide) ?_
    subst c1
    refine k_aload_n C 0 rfl dX6_obeyCommand_161 rfl ?_
    refine k_get C (Cn := RX6) (T := TX6) (N := 5) (ci := 5) (ref := "StruckCounts") in_X6_obeyCommand_X6 0 rfl rfl 4 (by decide) 1 rfl rfl (v := .ref b) rfl dX6_obeyCommand_162 ?_
    refine k_callV C (y := yX0_countLeft) [] 0 rfl (c_X0_countLeft (x_l X) (x_G X) b t va re su tl tb ts bd cm sk n k m fv fr fs (by assumption) (by assumption)) gX6_obeyCommand_X0_countLeft rfl ⟨rfl, by decide +kernel, by decide +kernel, by decide +kernel⟩ ⟨by decide, by decide⟩ 1 (fs := [.ref t, .int (iI tl), .int (iI bd), .int (iI cm), .long (jL sk)]) rfl rfl rfl [1, 2, 3, 4, 5] (by decide) (wc := [(b, .inr (0, [.ref t, .int (iI tl), .int (iI bd), .int (iI cm), .long (jL sk)])), (t, .inr (3, [.ref va, .ref re, .ref su, .int (iI tb), .int (iI ts)])), (va, .inl (g_I (x_G X), 631, .inl (aI fv))), (re, .inl (g_I (x_G X), 2524, .inl (aI fr))), (su, .inl (g_J (x_G X), 631, .inr (.inl (aL fs))))]) rfl [] rfl (Nat.le_of_ble_eq_true rfl) ⟨Nat.le_of_ble_eq_true rfl, Nat.le_of_ble_eq_true rfl⟩ dX6_obeyCommand_165 (fun u165 => [(sc, .inr (5, [.ref tx, .ref b0, .ref so, .ref pr, .ref b])), (b, .inr (0, [.ref t, .int (iI cm), .int (iI bd), .int (iI cm), .long (jL sk)])), (t, .inr (3, [.ref va, .ref re, .ref su, .int (iI u165.2.1), .int (iI u165.2.2.1)])), (va, .inl (g_I (x_G X), 631, .inl (aI u165.2.2.2.1))), (re, .inl (g_I (x_G X), 2524, .inl (aI u165.2.2.2.2.1))), (su, .inl (g_J (x_G X), 631, .inr (.inl (aL u165.2.2.2.2.2))))]) (Or.inr ⟨[0], [0, 1, 2, 3, 4, 5], [(sc, .inr (5, [.ref tx, .ref b0, .ref so, .ref pr, .ref b]))], rfl, by decide, by decide, by decide, fun _ => rfl⟩) (fun u165 => [.int (iI u165.1)]) (fun _ => rfl) 0 0 ⟨rfl, rfl⟩ (fun u165 hu165 => ?_)
    have hcm := cA_rng m k n
    refine k_iload_n C 2 rfl dX6_obeyCommand_168 rfl ?_
    refine k_icmp_gt C 176 (by rw [hu165.2]; omega) (⟨by omega, by omega⟩) dX6_obeyCommand_169 (by decide) (fun c169 => ?_) (fun c169 => ?_)
    · skip
      refine k_iconst C dX6_obeyCommand_176 ?_
      exact k_zret C hR (by omega) (u := (0, cm, bd, cm, sk, u165.2.1, u165.2.2.1, u165.2.2.2.1, u165.2.2.2.2.1, u165.2.2.2.2.2)) rfl (by (try dsimp only) <;> exact (CmOK_f (by rw [cmd_7]; exact decide_eq_false (by have := hu165.2; omega)))) rfl (Nat.le_of_ble_eq_true rfl) (Nat.le_of_ble_eq_true rfl) dX6_obeyCommand_177
    · skip
      refine k_iconst C dX6_obeyCommand_172 ?_
      refine k_goto C 177 dX6_obeyCommand_173 (by decide) ?_
      exact k_zret C hR (by omega) (u := (1, cm, bd, cm, sk, u165.2.1, u165.2.2.1, u165.2.2.2.1, u165.2.2.2.2.1, u165.2.2.2.2.2)) rfl (by (try dsimp only) <;> exact (CmOK_t (by rw [cmd_7, decide_eq_true (by have := hu165.2; omega)]) hS (Tl_up hS hu165.1))) rfl (Nat.le_of_ble_eq_true rfl) (Nat.le_of_ble_eq_true rfl) dX6_obeyCommand_177
  · refine k_tabIn C 178 (⟨by omega, by omega⟩) dX6_obeyCommand_1 (by omega) (by omega) (by rw [c1]; rfl) (by decide) ?_
    subst c1
    refine k_aload_n C 0 rfl dX6_obeyCommand_178 rfl ?_
    refine k_get C (Cn := RX6) (T := TX6) (N := 5) (ci := 5) (ref := "StruckCounts") in_X6_obeyCommand_X6 0 rfl rfl 4 (by decide) 1 rfl rfl (v := .ref b) rfl dX6_obeyCommand_179 ?_
    refine k_callV C (y := yX0_tally) [] 0 rfl (c_X0_tally (x_l X) (x_G X) b t va re su tl tb ts bd cm sk n k m fv fr fs (by assumption) (by assumption)) gX6_obeyCommand_X0_tally rfl ⟨rfl, by decide +kernel, by decide +kernel, by decide +kernel⟩ ⟨by decide, by decide⟩ 1 (fs := [.ref t, .int (iI tl), .int (iI bd), .int (iI cm), .long (jL sk)]) rfl rfl rfl [1, 2, 3, 4, 5] (by decide) (wc := [(b, .inr (0, [.ref t, .int (iI tl), .int (iI bd), .int (iI cm), .long (jL sk)])), (t, .inr (3, [.ref va, .ref re, .ref su, .int (iI tb), .int (iI ts)])), (va, .inl (g_I (x_G X), 631, .inl (aI fv))), (re, .inl (g_I (x_G X), 2524, .inl (aI fr))), (su, .inl (g_J (x_G X), 631, .inr (.inl (aL fs))))]) rfl [] rfl (Nat.le_of_ble_eq_true rfl) ⟨Nat.le_of_ble_eq_true rfl, Nat.le_of_ble_eq_true rfl⟩ dX6_obeyCommand_182 (fun u182 => [(sc, .inr (5, [.ref tx, .ref b0, .ref so, .ref pr, .ref b])), (b, .inr (0, [.ref t, .int (iI cm), .int (iI bd), .int (iI cm), .long (jL sk)])), (t, .inr (3, [.ref va, .ref re, .ref su, .int (iI u182.1), .int (iI u182.2.1)])), (va, .inl (g_I (x_G X), 631, .inl (aI u182.2.2.1))), (re, .inl (g_I (x_G X), 2524, .inl (aI u182.2.2.2.1))), (su, .inl (g_J (x_G X), 631, .inr (.inl (aL u182.2.2.2.2))))]) (Or.inr ⟨[0], [0, 1, 2, 3, 4, 5], [(sc, .inr (5, [.ref tx, .ref b0, .ref so, .ref pr, .ref b]))], rfl, by decide, by decide, by decide, fun _ => rfl⟩) (fun u182 => [.ref t]) (fun _ => rfl) 0 0 ⟨rfl, rfl⟩ (fun u182 hu182 => ?_)
    have hz1 := hu182.1
    have hz2 := hu182.2.1
    refine k_iload_n C 2 rfl dX6_obeyCommand_185 rfl ?_
    refine k_callV C (y := yX3_placeOf) [.int (iI x)] 1 rfl (c_X3_placeOf (x_l X) (x_G X) t va re su u182.1 u182.2.1 n x (by first | assumption | omega) (by first | assumption | omega) (by first | assumption | omega) (by first | assumption | omega)) gX6_obeyCommand_X3_placeOf rfl ⟨rfl, by decide +kernel, by decide +kernel, by decide +kernel⟩ ⟨by decide, by decide⟩ 2 (fs := [.ref va, .ref re, .ref su, .int (iI u182.1), .int (iI u182.2.1)]) rfl rfl rfl [2] (by decide) (wc := [(t, .inr (3, [.ref va, .ref re, .ref su, .int (iI u182.1), .int (iI u182.2.1)]))]) rfl [] rfl (Nat.le_of_ble_eq_true rfl) ⟨Nat.le_of_ble_eq_true rfl, Nat.le_of_ble_eq_true rfl⟩ dX6_obeyCommand_186 (fun _ => [(sc, .inr (5, [.ref tx, .ref b0, .ref so, .ref pr, .ref b])), (b, .inr (0, [.ref t, .int (iI cm), .int (iI bd), .int (iI cm), .long (jL sk)])), (t, .inr (3, [.ref va, .ref re, .ref su, .int (iI u182.1), .int (iI u182.2.1)])), (va, .inl (g_I (x_G X), 631, .inl (aI u182.2.2.1))), (re, .inl (g_I (x_G X), 2524, .inl (aI u182.2.2.2.1))), (su, .inl (g_J (x_G X), 631, .inr (.inl (aL u182.2.2.2.2))))]) (Or.inl (fun _ => ⟨rfl, rfl⟩)) (fun u186 => [.int (iI u186)]) (fun _ => rfl) 0 0 ⟨rfl, rfl⟩ (fun u186 hu186 => ?_)
    have hpr := pI_rng n x
    have hpl := pI_lt (n := n) (v := x) s4
    have hz3 := SZ_631 s5
    refine k_iconst C dX6_obeyCommand_189 ?_
    refine k_icmp_eq C 197 (by rw [hu186]; omega) (⟨by omega, by omega⟩) dX6_obeyCommand_190 (by decide) (fun c190 => ?_) (fun c190 => ?_)
    · skip
      refine k_iconst C dX6_obeyCommand_197 ?_
      exact k_zret C hR (by omega) (u := (0, cm, bd, cm, sk, u182.1, u182.2.1, u182.2.2.1, u182.2.2.2.1, u182.2.2.2.2)) rfl (by (try dsimp only) <;> exact (CmOK_f (bfalse cmd_8.2 (by rw [← hu186]; omega)))) rfl (Nat.le_of_ble_eq_true rfl) (Nat.le_of_ble_eq_true rfl) dX6_obeyCommand_198
    · skip
      refine k_iconst C dX6_obeyCommand_193 ?_
      refine k_goto C 198 dX6_obeyCommand_194 (by decide) ?_
      exact k_zret C hR (by omega) (u := (1, cm, bd, cm, sk, u182.1, u182.2.1, u182.2.2.1, u182.2.2.2.1, u182.2.2.2.2)) rfl (by (try dsimp only) <;> exact (CmOK_t2 (cmd_8.2.mpr (by rw [← hu186]; exact c190)) cmd_8.1 hS (Tl_up hS hu182))) rfl (Nat.le_of_ble_eq_true rfl) (Nat.le_of_ble_eq_true rfl) dX6_obeyCommand_198
  · refine k_tabIn C 199 (⟨by omega, by omega⟩) dX6_obeyCommand_1 (by omega) (by omega) (by rw [c1]; rfl) (by decide) ?_
    subst c1
    refine k_aload_n C 0 rfl dX6_obeyCommand_199 rfl ?_
    refine k_get C (Cn := RX6) (T := TX6) (N := 5) (ci := 5) (ref := "StruckCounts") in_X6_obeyCommand_X6 0 rfl rfl 4 (by decide) 1 rfl rfl (v := .ref b) rfl dX6_obeyCommand_200 ?_
    refine k_iload_n C 2 rfl dX6_obeyCommand_203 rfl ?_
    refine k_callV C (y := yX0_wasStruckBy) [.int (iI x)] 1 rfl (c_X0_wasStruckBy (x_l X) (x_G X) b t tl bd cm sk x n k m (by first | assumption | omega) (by first | assumption | omega)) gX6_obeyCommand_X0_wasStruckBy rfl ⟨rfl, by decide +kernel, by decide +kernel, by decide +kernel⟩ ⟨by decide, by decide⟩ 1 (fs := [.ref t, .int (iI tl), .int (iI bd), .int (iI cm), .long (jL sk)]) rfl rfl rfl [1] (by decide) (wc := [(b, .inr (0, [.ref t, .int (iI tl), .int (iI bd), .int (iI cm), .long (jL sk)]))]) rfl [] rfl (Nat.le_of_ble_eq_true rfl) ⟨Nat.le_of_ble_eq_true rfl, Nat.le_of_ble_eq_true rfl⟩ dX6_obeyCommand_204 (fun _ => [(sc, .inr (5, [.ref tx, .ref b0, .ref so, .ref pr, .ref b])), (b, .inr (0, [.ref t, .int (iI tl), .int (iI bd), .int (iI cm), .long (jL sk)])), (t, .inr (3, [.ref va, .ref re, .ref su, .int (iI tb), .int (iI ts)])), (va, .inl (g_I (x_G X), 631, .inl (aI fv))), (re, .inl (g_I (x_G X), 2524, .inl (aI fr))), (su, .inl (g_J (x_G X), 631, .inr (.inl (aL fs))))]) (Or.inl (fun _ => ⟨rfl, rfl⟩)) (fun u204 => [.int (iI u204)]) (fun _ => rfl) 0 0 ⟨rfl, rfl⟩ (fun u204 hu204 => ?_)
    exact k_zret C hR (by rcases hu204 with z | z <;> omega) (u := (u204, tl, bd, cm, sk, tb, ts, fv, fr, fs)) rfl (by (try dsimp only) <;> exact (by rcases hu204 with ⟨z, y⟩ | ⟨z, y⟩; (rw [z]; exact CmOK_t2 (cmd_9.2.mpr y) cmd_9.1 hS hT); (rw [z]; exact CmOK_f (bfalse cmd_9.2 y)))) rfl (Nat.le_of_ble_eq_true rfl) (Nat.le_of_ble_eq_true rfl) dX6_obeyCommand_207
