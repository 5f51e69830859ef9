/-! making objects and arrays -/
section KN
variable {X : KX} {cc : ByteArray} {own : String} {Ts : List Cond} {ret : Option FieldType} {n : Nat} {rm : Room} {k j pc : Nat} {ws : va_W} {lo : List (Nat × Value)} {st : List Value}
theorem k_new (C : Cx X cc own Ts ret n rm) {Cn : String} {T : u_T} {N ci ix : Nat} (hin : ∀ w ∈ u_ws Cn T N, w ∈ Ts) (ty : Nat → FieldType) (hty : ∀ k, k < N → parseFieldDescriptor (T k).2.2.1 = some (ty k)) (i1 i2 i3 : Nat) (h1 : Ts[i1]? = some (.classLink own ix Cn)) (h2 : Ts[i2]? = some (.instantiable Cn N)) (h3 : Ts[i3]? = some (.initialized Cn)) (hc : vwCl[ci]? = some (Cn, T, N)) (fs : List Value) (hfs : ∀ j, j < N → defaultValue (ty j) = vp_V fs j)
    (hk : k + 1 ≤ rm.cells) (hj : j + N ≤ rm.slots) (hd : decode cc pc = .ok (.new ix, 3)) (kk : ∀ q : Nat, K_ X (k + 1) (j + N) (ws ++ [(q, .inr (ci, fs))]) (pc + 3) lo (.ref q :: st)) : K_ X k j ws pc lo st :=
  fun H locs ls hP hD hS hl => va_new C.e C.b C.w hin ty hty C.o (C.at i1 h1) (C.at i2 h2) (C.at i3 h3) C.K hP hD hS C.A hc hfs (by rw [C.R]; exact hk) (by rw [C.R]; exact hj) hd (fun q H1 hP1 hD1 hS1 => kk q H1 locs ls hP1 hD1 hS1 hl)
theorem arr_id {X : KX} {D : va_G} {cl : List vw_C} {tys : List (ClassId × FieldType)} {cA cB : ClassId} {ty : FieldType} {i : Nat} (h0 : ∀ Cn, ty ≠ .object Cn) (hK : va_K D cl (tys ++ [(cA, ty)]) (x_s X)) (hi : tys[i]? = some (cB, ty)) : cA = cB := by
  have h1 := (hK.2 tys.length (cA, ty) (by simp)).2
  have h2 := (hK.2 i (cB, ty) (by rw [List.getElem?_append_left (List.getElem?_eq_some_iff.mp hi).1]; exact hi)).2
  have g : ∀ c : ClassId, va_RA (x_s X) c ty → (x_s X).vm.findClass ("[" ++ ty.toString) = some c := fun c h => by
    cases ty with
    | object Cn => exact absurd rfl (h0 Cn)
    | _ => exact h
  have e1 := g _ h1
  have e2 := g _ h2
  rw [e1] at e2
  exact Option.some.inj e2
theorem k_newI (C : Cx X cc own Ts ret n rm) {z : Int} (N : Nat) (hz : z = (N : Int)) (hN : N < 100000000) (iw : Nat) (hw : Ts[iw]? = some (.arrayClass .int)) (hk : k + 1 ≤ rm.cells) (hj : j + N ≤ rm.slots) (hd : decode cc pc = .ok (.newarray .int, 2)) (kk : ∀ q : Nat, K_ X (k + 1) (j + N) (ws ++ [(q, .inl (g_I (x_G X), N, .inl (aI (fun _ => 0))))]) (pc + 2) lo (.ref q :: st)) : K_ X k j ws pc lo (.int (iI z) :: st) :=
  fun H locs ls hP hD hS hl => va_newa (atype := .int) (ty := .int) (a0 := (N, .inl (aI (fun _ => 0)))) C.e C.b (C.at iw hw) rfl C.K hP hD hS C.A (fun _ => rfl) (by rw [hz, ← nI_iI]; exact nI_pos (by omega)) (by rw [hz, ← nI_iI]; exact nI_clamp (by omega)) (show N * 4 ≤ _ by omega) (by rw [C.R]; exact hk) (by rw [C.R]; exact hj) hd (fun q cA H1 hK1 hP1 hD1 hS1 => by
    have e := arr_id (X := X) (i := 0) (fun _ h => by cases h) hK1 rfl
    subst e
    exact kk q H1 locs ls hP1 hD1 hS1 hl)
theorem k_newJ (C : Cx X cc own Ts ret n rm) {z : Int} (N : Nat) (hz : z = (N : Int)) (hN : N < 50000000) (iw : Nat) (hw : Ts[iw]? = some (.arrayClass .long)) (hk : k + 1 ≤ rm.cells) (hj : j + N ≤ rm.slots) (hd : decode cc pc = .ok (.newarray .long, 2)) (kk : ∀ q : Nat, K_ X (k + 1) (j + N) (ws ++ [(q, .inl (g_J (x_G X), N, .inr (.inl (aL (fun _ => 0)))))]) (pc + 2) lo (.ref q :: st)) : K_ X k j ws pc lo (.int (iI z) :: st) :=
  fun H locs ls hP hD hS hl => va_newa (atype := .long) (ty := .long) (a0 := (N, .inr (.inl (aL (fun _ => 0))))) C.e C.b (C.at iw hw) rfl C.K hP hD hS C.A (fun _ => rfl) (by rw [hz, ← nI_iI]; exact nI_pos (by omega)) (by rw [hz, ← nI_iI]; exact nI_clamp (by omega)) (show N * 8 ≤ _ by omega) (by rw [C.R]; exact hk) (by rw [C.R]; exact hj) hd (fun q cA H1 hK1 hP1 hD1 hS1 => by
    have e := arr_id (X := X) (i := 1) (fun _ h => by cases h) hK1 rfl
    subst e
    exact kk q H1 locs ls hP1 hD1 hS1 hl)
theorem k_newC (C : Cx X cc own Ts ret n rm) {z : Int} (N : Nat) (hz : z = (N : Int)) (hN : N < 100000000) (iw : Nat) (hw : Ts[iw]? = some (.arrayClass .char)) (hk : k + 1 ≤ rm.cells) (hj : j + N ≤ rm.slots) (hd : decode cc pc = .ok (.newarray .char, 2)) (kk : ∀ q : Nat, K_ X (k + 1) (j + N) (ws ++ [(q, .inl (g_C (x_G X), N, .inl (aI (fun _ => 0))))]) (pc + 2) lo (.ref q :: st)) : K_ X k j ws pc lo (.int (iI z) :: st) :=
  fun H locs ls hP hD hS hl => va_newa (atype := .char) (ty := .char) (a0 := (N, .inl (aI (fun _ => 0)))) C.e C.b (C.at iw hw) rfl C.K hP hD hS C.A (fun _ => rfl) (by rw [hz, ← nI_iI]; exact nI_pos (by omega)) (by rw [hz, ← nI_iI]; exact nI_clamp (by omega)) (show N * 2 ≤ _ by omega) (by rw [C.R]; exact hk) (by rw [C.R]; exact hj) hd (fun q cA H1 hK1 hP1 hD1 hS1 => by
    have e := arr_id (X := X) (i := 2) (fun _ h => by cases h) hK1 rfl
    subst e
    exact kk q H1 locs ls hP1 hD1 hS1 hl)
end KN
