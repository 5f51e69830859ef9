/-! the law: its script, its comparisons, what holds at the head of its loop -/
def sxv (xs : Nat → Int32) (j : Nat) : Int := (xs j).toInt
theorem sxv_iI (xs : Nat → Int32) (j : Nat) : xs j = iI (sxv xs j) := (Int32.ofInt_toInt (xs j)).symm
theorem sxv_rng (xs : Nat → Int32) (j : Nat) : -2147483648 ≤ sxv xs j ∧ sxv xs j < 2147483648 := ⟨Int32.le_toInt (xs j), Int32.toInt_lt (xs j)⟩
section KLW
variable {X : KX} {cc : ByteArray} {own : String} {Ts : List Cond} {ret : Option FieldType} {n : Nat} {rm : Room} {k j pc : Nat} {ws : va_W} {lo lo' : List (Nat × Value)} {st : List Value}
theorem k_sld (C : Cx X cc own Ts ret n rm) {bs LN : Nat} {xs : Nat → Int32} (hX : va_X bs LN xs (x_s X) (x_s X).heap) (hbl : bs < (x_s X).heap.size) (hbA : ¬ x_A X bs) (hLN : LN ≤ 2048) {i : Int} (h0 : 0 ≤ i ∧ i < LN) (hd : decode cc pc = .ok (.iaload, 1)) (kk : K_ X k j ws (pc + 1) lo (.int (iI (sxv xs i.toNat)) :: st)) : K_ X k j ws pc lo (.int (iI i) :: .ref bs :: st) :=
  fun H locs ls hP hD hS hl => va_sld C.e C.b hX hbl hbA hS (iI_in h0.1 h0.2 (by omega)) hd (by rw [iI_clamp (by omega) (by omega), sxv_iI xs i.toNat]; exact kk H locs ls hP hD hS hl)
theorem k_slen (C : Cx X cc own Ts ret n rm) {bs LN : Nat} {xs : Nat → Int32} (hX : va_X bs LN xs (x_s X) (x_s X).heap) (hbl : bs < (x_s X).heap.size) (hbA : ¬ x_A X bs) (hd : decode cc pc = .ok (.arraylength, 1)) (kk : K_ X k j ws (pc + 1) lo (.int (iI (LN : Int)) :: st)) : K_ X k j ws pc lo (.ref bs :: st) :=
  fun H locs ls hP hD hS hl => va_slen C.e C.b hX hbl hbA hS hd (by rw [show Int32.ofNat LN = iI (LN : Int) from nI_iI LN]; exact kk H locs ls hP hD hS hl)
theorem k_lcmpE (C : Cx X cc own Ts ret n rm) {x y : Int} (h : x = y) (hd : decode cc pc = .ok (.lcmp, 1)) (kk : K_ X k j ws (pc + 1) lo (.int (iI 0) :: st)) : K_ X k j ws pc lo (.long (jL y) :: .long (jL x) :: st) := fun H locs ls hP hD hS hl => W.lcmp C.e C.b hd (by
  subst h
  rw [show lg_cmp (jL x) (jL x) = iI 0 by unfold lg_cmp; simp [iI]]
  exact kk H locs ls hP hD hS hl)
theorem k_icmpP (C : Cx X cc own Ts ret n rm) {a b off : Int} (tgt : Nat) (h : a = b) (hd : decode cc pc = .ok (.if_icmp .eq off, 3)) (ht : (pc : Int) + off = (tgt : Int)) (kt : K_ X k j ws tgt lo st) : K_ X k j ws pc lo (.int (iI b) :: .int (iI a) :: st) :=
  fun H locs ls hP hD hS hl => lv_icmp_eq C.e C.b hd ht (fun _ => kt H locs ls hP hD hS hl) (fun z => absurd (congrArg iI h) z)
end KLW
theorem jLt (x : Int64) : x = jL x.toInt := (Int64.ofInt_toInt x).symm
theorem jLt_rng (x : Int64) : -9223372036854775808 ≤ x.toInt ∧ x.toInt < 9223372036854775808 := ⟨Int64.le_toInt x, Int64.toInt_lt x⟩
def TxL (L ty : Int) (fp ff : Nat → Int) : Prop := (0 ≤ L ∧ L ≤ 60) ∧ L = ty ∧ fp = ff ∧ ∀ q : Nat, q < 60 → 0 ≤ fp q ∧ fp q ≤ 65535
theorem TxL_ty {L ty : Int} {fp ff : Nat → Int} (h : TxL L ty fp ff) : 0 ≤ ty ∧ ty ≤ 60 := by have := h.1; have := h.2.1; omega
theorem TxL_ff {L ty : Int} {fp ff : Nat → Int} (h : TxL L ty fp ff) : ∀ q : Nat, q < 60 → 0 ≤ ff q ∧ ff q ≤ 65535 := h.2.2.1 ▸ h.2.2.2
theorem TxL_T {L ty : Int} {fp ff : Nat → Int} (h : TxL L ty fp ff) : tA ff ty = tA fp L ∧ ty.toNat = L.toNat := by rw [← h.2.1, h.2.2.1]; exact ⟨rfl, rfl⟩
theorem TxL_app {L ty c L2 ty2 : Int} {fp ff f2 g2 : Nat → Int} (h : TxL L ty fp ff) (hc : 0 ≤ c ∧ c ≤ 255) (hL : L < 60) (e1 : L2 = L + 1) (e2 : f2 = upI fp L.toNat c) (e3 : ty2 = ty + 1) (e4 : g2 = upI ff ty.toNat c) : TxL L2 ty2 f2 g2 := by
  obtain ⟨h1, h2, h3, h4⟩ := h
  refine ⟨by omega, by omega, by rw [e2, e4, h2, h3], fun q hq => ?_⟩
  rw [e2]
  by_cases e : q = L.toNat
  · rw [e, upI_s]; omega
  · rw [upI_n e]; exact h4 q hq
theorem TxL_0 {L ty : Int} {fp ff : Nat → Int} (h : TxL L ty fp ff) : TxL 0 0 fp ff := ⟨by omega, rfl, h.2.2.1, h.2.2.2⟩
theorem TxL_st {L ty L2 ty2 : Int} {fp ff f2 g2 : Nat → Int} (h : TxL L ty fp ff) (e1 : L2 = L) (e2 : f2 = fp) (e3 : ty2 = ty) (e4 : g2 = ff) : TxL L2 ty2 f2 g2 := by rw [e1, e2, e3, e4]; exact h
theorem St_load {R : List (Nat × Nat × Nat)} {sv : Nat → Option (Nat × Nat × Nat)} {nw rb rb2 : Int} {fb fc fk gb : Nat → Int} (h : StOK R sv nw rb fb fc fk) (h0 : rb2 = 0) (h1 : gb 14 = 0) (h2 : gb 15 = 0) : StOK [] (fun _ => none) nw rb2 gb fc fk :=
  ⟨⟨h.1.1, by rw [h0]; rfl, by decide, fun i x hx => by cases hx⟩, fun j hj => ⟨fun _ => by
    rcases (show j = 0 ∨ j = 1 by omega) with rfl | rfl
    · exact h1
    · exact h2, fun x hx => by cases hx⟩⟩
theorem BdS_bd {n k m : Nat} {bd cm sk x y z w : Int} (h : BdS n k m bd cm sk) (hx : 1 ≤ x ∧ x ≤ 99999) (h1 : y = x) (h2 : z = 0) (h3 : w = 0) : BdS x.toNat 0 0 y z w := ⟨by omega, h2, h3, by omega, by omega, by decide, by decide⟩
theorem BdS_ag {n k m : Nat} {bd cm sk : Int} (h : BdS n k m bd cm sk) : BdS n 0 0 bd 0 0 := ⟨h.1, rfl, rfl, h.2.2.2.1, h.2.2.2.2.1, by decide, by decide⟩
theorem St_len {R : List (Nat × Nat × Nat)} {sv : Nat → Option (Nat × Nat × Nat)} {nw rb : Int} {fb fc fk : Nat → Int} (h : StOK R sv nw rb fb fc fk) : rb = (R.length : Int) := h.1.2.1
theorem MI_len {R : List (Nat × Nat × Nat)} {sw : Nat → Option (Nat × Nat × Nat)} {n k m : Nat} {st : Int} {fs fv : Nat → Int} (h : MI R sw n k m st fs fv) : st = (R.length : Int) := h.1.1
theorem iand31 (x : Int) : iI x &&& iI 31 = iI (x % 32) := by
  apply Int32.toBitVec_inj.mp
  show BitVec.ofInt 32 x &&& BitVec.ofInt 32 31 = BitVec.ofInt 32 (x % 32)
  apply BitVec.eq_of_toNat_eq
  rw [BitVec.toNat_and, BitVec.toNat_ofInt, BitVec.toNat_ofInt, BitVec.toNat_ofInt]
  have e : ((31 : Int) % ((2 ^ 32 : Nat) : Int)).toNat = 2 ^ 5 - 1 := by decide
  rw [e, Nat.and_two_pow_sub_one_eq_mod]
  omega

