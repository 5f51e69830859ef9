set_option maxHeartbeats 4000000 in
theorem whole_start {p : Program} {e : Env} {s : State} {m : MethodId} {below : List Frame} {meth : Method} {c : Code} (l : Launch) (hflags : l.flags = flags0) {b L : Nat} {xs : Nat → Int32} (hL : L ≤ 260) (C0 : lw_At p s m meth c b L xs) : W p l e room_1 s m #[Value.ref b] below meth c s.heap [] 0 0 (lw_Z below #[Value.ref b] s) (entryFrame m ([Value.ref b] : List Value).toArray 15) := by
  obtain ⟨hx, hb, hr, hml, hown, hts, hX, hbl, hlocks, hgv⟩ := id C0
  obtain ⟨D, hD⟩ := ls_cls hts
  obtain ⟨cI, hI1, hI2⟩ := ls_arr (ty := .int) (hts (.arrayClass .int) (by decide +kernel)) (fun _ h => by cases h)
  obtain ⟨cJ, hJ1, hJ2⟩ := ls_arr (ty := .long) (hts (.arrayClass .long) (by decide +kernel)) (fun _ h => by cases h)
  obtain ⟨cC, hC1, hC2⟩ := ls_arr (ty := .char) (hts (.arrayClass .char) (by decide +kernel)) (fun _ h => by cases h)
  obtain ⟨tp, hSt⟩ := st_start hL hX hbl hgv hts
  have hfl : l.stackTraces = false := by
    unfold Launch.stackTraces
    rw [hflags]
    decide +kernel
  have C : Cx (p, l, e, room_1, s, m, #[Value.ref b], below, meth, c, lw_Z below #[Value.ref b] s, (fun q : Nat => s.heap.size ≤ q), 15, (D, (cI, cJ, cC, 0), ((tp, b, 0), fun _ => L, scN xs, fun _ => 0))) cL_law RL wsL_law ret 15 room_1 :=
    ⟨hx, hb, hown, fun w h => hts w (wsL_law_in w h), fun q h => h, hml, ⟨hD, fun k q hq => by
      match k, hq with
      | 0, hq => cases hq; exact ⟨hI1, hI2⟩
      | 1, hq => cases hq; exact ⟨hJ1, hJ2⟩
      | 2, hq => cases hq; exact ⟨hC1, hC2⟩
      | k + 3, hq => simp [g_tys] at hq⟩, hSt D (cI, cJ, cC, 0), hr, hlocks, rfl, rfl⟩
  have hl := lv_entry ([.ref b]) (n := 15) (Nat.le_of_ble_eq_true rfl)
  rw [lg_entry_eq]
  have hend : ∀ (k j : Nat) (ws : va_W) (lo : List (Nat × Value)), k ≤ 157 → j ≤ 9588 → K_ (p, l, e, room_1, s, m, #[Value.ref b], below, meth, c, lw_Z below #[Value.ref b] s, (fun q : Nat => s.heap.size ≤ q), 15, (D, (cI, cJ, cC, 0), ((tp, b, 0), fun _ => L, scN xs, fun _ => 0))) k j ws 628 lo [.int (iI 1)] := fun k j ws lo hk hj H locs ls hP hD hS hl => by
    have e1 : iI 1 = (1 : Int32) := by decide
    rw [e1]
    exact va_forget (fun q hq => hS.2.2 q hq) (W.widen hk hj (lw_ret hx hb hr hlocks dL_law_628))
  exact law_walk C hfl hend s.heap [] _ (fun k q h => by simp at h) ⟨fun i j p q h => by simp at h, fun k q h => by simp at h⟩ va_S.rf hl
