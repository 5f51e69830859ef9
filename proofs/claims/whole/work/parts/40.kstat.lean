/-! static objects: the words, their strings; chars; nulls -/
section KS
variable {X : KX} {cc : ByteArray} {own : String} {Ts : List Cond} {ret : Option FieldType} {n : Nat} {rm : Room} {k j pc : Nat} {ws : va_W} {lo lo' : List (Nat × Value)} {st : List Value}
def wlo (i : Nat) : Int := [1, 2, 2, 1].getD i 0
def whi (i : Nat) : Int := [99999, 9, 9, 0].getD i 0
def wnn (i : Nat) : Int := [1, 0, 0, 0].getD i 0
def wl (i : Nat) : Nat := wdLen.getD i 0
def wc (i p : Nat) : Int := (([[98, 111, 117, 110, 100], [115, 116, 114, 105, 107, 101], [115, 112, 97, 114, 101], [97, 103, 97, 105, 110]] : List (List Int)).getD i []).getD p 0
theorem wb_wc {i p : Nat} (hi : i < 4) (hp : p < wl i) : (wdByt.getD i []).getD p 0 = iI (wc i p) := by
  have h := all_lt (N := 4) (P := fun i => (List.range (wl i)).all fun p => decide ((wdByt.getD i []).getD p 0 = iI (wc i p))) (by decide +kernel) hi
  exact of_decide_eq_true (all_lt h hp)
theorem wc_rng {i p : Nat} (hi : i < 4) (hp : p < wl i) : 97 ≤ wc i p ∧ wc i p ≤ 122 := by
  have h := all_lt (N := 4) (P := fun i => (List.range (wl i)).all fun p => decide (97 ≤ wc i p ∧ wc i p ≤ 122)) (by decide +kernel) hi
  exact of_decide_eq_true (all_lt h hp)
theorem wl_rng {i : Nat} (hi : i < 4) : 5 ≤ wl i ∧ wl i ≤ 6 := of_decide_eq_true (all_lt (N := 4) (P := fun i => decide (5 ≤ wl i ∧ wl i ≤ 6)) (by decide +kernel) hi)
theorem Cx.wE (C : Cx X cc own Ts ret n rm) {i : Nat} (hi : i < 4) : va_OF "StruckCounts$Word" "lowest" "I" (.int (iI (wlo i))) (g_ad (x_G X) i) (x_A X) (x_s X) (x_s X).heap ∧ va_OF "StruckCounts$Word" "highest" "I" (.int (iI (whi i))) (g_ad (x_G X) i) (x_A X) (x_s X) (x_s X).heap ∧ va_OF "StruckCounts$Word" "needsNumber" "Z" (.int (iI (wnn i))) (g_ad (x_G X) i) (x_A X) (x_s X) (x_s X).heap ∧ va_OF "StruckCounts$Word" "spelling" "Ljava/lang/String;" (.ref (g_sk (x_G X) i)) (g_ad (x_G X) i) (x_A X) (x_s X) (x_s X).heap := by
  have h := (C.S.2.2.2.1.1.1 i hi).2.2
  have h1 := h ("StruckCounts$Word", "lowest", "I", [1, 2, 2, 1]) (List.mem_of_getElem? (i := 0) rfl)
  have h2 := h ("StruckCounts$Word", "highest", "I", [99999, 9, 9, 0]) (List.mem_of_getElem? (i := 1) rfl)
  have h3 := h ("StruckCounts$Word", "needsNumber", "Z", [1, 0, 0, 0]) (List.mem_of_getElem? (i := 2) rfl)
  refine ⟨?_, ?_, ?_, C.S.2.2.2.1.2 i hi⟩
  · have e : ([1, 2, 2, 1] : List Int32).getD i 0 = iI (wlo i) := of_decide_eq_true (all_lt (N := 4) (P := fun i => decide (([1, 2, 2, 1] : List Int32).getD i 0 = iI (wlo i))) (by decide +kernel) hi)
    rw [← e]; exact h1
  · have e : ([99999, 9, 9, 0] : List Int32).getD i 0 = iI (whi i) := of_decide_eq_true (all_lt (N := 4) (P := fun i => decide (([99999, 9, 9, 0] : List Int32).getD i 0 = iI (whi i))) (by decide +kernel) hi)
    rw [← e]; exact h2
  · have e : ([1, 0, 0, 0] : List Int32).getD i 0 = iI (wnn i) := of_decide_eq_true (all_lt (N := 4) (P := fun i => decide (([1, 0, 0, 0] : List Int32).getD i 0 = iI (wnn i))) (by decide +kernel) hi)
    rw [← e]; exact h3
theorem Cx.wS (C : Cx X cc own Ts ret n rm) {i : Nat} (hi : i < 4) : va_OF "java/lang/String" "coder" "B" (.int (iI 0)) (g_sk (x_G X) i) (x_A X) (x_s X) (x_s X).heap ∧ va_OF "java/lang/String" "value" "[B" (.ref (g_sv (x_G X) i)) (g_sk (x_G X) i) (x_A X) (x_s X) (x_s X).heap ∧ va_T .byte (g_sv (x_G X) i) (wl i) (fun j => .int ((wdByt.getD i []).getD j 0)) (x_A X) (x_s X) (x_s X).heap := by
  have h := C.S.2.2.2.2.1.1 i hi
  exact ⟨h.2.1, h.2.2.1, h.2.2.2⟩
theorem Cx.inj (C : Cx X cc own Ts ret n rm) {i q : Nat} (hi : i < 4) (hq : q < 4) (h : g_ad (x_G X) i = g_ad (x_G X) q) : i = q := C.S.2.2.2.1.1.2 i q hi hq h
theorem k_ta (C : Cx X cc own Ts ret n rm) {i : Int} (h0 : 0 ≤ i ∧ i < 4) (hd : decode cc pc = .ok (.aaload, 1)) (kk : K_ X k j ws (pc + 1) lo (.ref (g_ad (x_G X) i.toNat) :: st)) : K_ X k j ws pc lo (.int (iI i) :: .ref (g_tw (x_G X)) :: st) := by
  intro H locs ls hP hD hS hl
  obtain ⟨cell, h1, h2, h3, h4, h5, h6, h7⟩ := C.S.2.2.1.2.kept hS.2.1
  have hc := iI_clamp (z := i) (by omega) (by omega)
  refine W.aald C.e C.b h1 h2 rfl h3 (fun q => ?_) (v := .ref (g_ad (x_G X) i.toNat)) (by rw [hc]; exact h6 _ (by omega)) rfl rfl hd (kk H locs ls hP hD hS hl)
  rcases q with q | q
  · have := (iI_lt (a := i) (b := 0) (by omega) (by omega) (by decide) (by decide)).mp q
    omega
  · rw [hc] at q; omega
theorem k_getO (C : Cx X cc own Ts ret n rm) {o nm d host : String} {v : Value} {q ix : Nat} (hE : va_OF o nm d v q (x_A X) (x_s X) (x_s X).heap) (iw : Nat) (hw : nestF[iw]? = some (own, ix, o, nm, d, host)) (hd : decode cc pc = .ok (.getfield ix, 3)) (kk : K_ X k j ws (pc + 3) lo (v :: st)) : K_ X k j ws pc lo (.ref q :: st) := by
  intro H locs ls hP hD hS hl
  obtain ⟨cf, kf, i, f, cell, h1, h2, h3, h4, h5, h6⟩ := hE.kept hS.2.1
  exact va_Wgetf C.e C.b C.o ((C.nF iw hw).use rfl) h1 h2 h3 h4 h5 rfl rfl hd (kk H locs ls hP hD hS hl)
theorem k_getO2 (C : Cx X cc own Ts ret n rm) {o nm d : String} {v : Value} {q ix : Nat} (hE : va_OF o nm d v q (x_A X) (x_s X) (x_s X).heap) (iw : Nat) (hw : Ts[iw]? = some (.fieldLink own ix o nm d)) (hd : decode cc pc = .ok (.getfield ix, 3)) (kk : K_ X k j ws (pc + 3) lo (v :: st)) : K_ X k j ws pc lo (.ref q :: st) :=
  fun H locs ls hP hD hS hl => vk_getf C.e C.b hE hS C.o (C.at iw hw) (fun x h => h) hd (kk H locs ls hP hD hS hl)
theorem k_tb (C : Cx X cc own Ts ret n rm) {w : Nat} {i : Int} (hw : w < 4) (h0 : 0 ≤ i ∧ i < (wl w : Int)) (hd : decode cc pc = .ok (.baload, 1)) (kk : K_ X k j ws (pc + 1) lo (.int (iI (wc w i.toNat)) :: st)) : K_ X k j ws pc lo (.int (iI i) :: .ref (g_sv (x_G X) w) :: st) := by
  intro H locs ls hP hD hS hl
  have hr := wl_rng hw
  exact va_tb C.e C.b (C.wS hw).2.2 hS (iI_in h0.1 h0.2 (by omega)) (by rw [iI_clamp (by omega) (by omega), wb_wc hw (by omega)]) hd (kk H locs ls hP hD hS hl)
theorem k_ishr0 (C : Cx X cc own Ts ret n rm) {x : Int} (hd : decode cc pc = .ok (.ishr, 1)) (kk : K_ X k j ws (pc + 1) lo (.int (iI x) :: st)) : K_ X k j ws pc lo (.int (iI 0) :: .int (iI x) :: st) :=
  fun H locs ls hP hD hS hl => lv_ishr C.e C.b hd (by rw [show iI x >>> (iI 0 &&& 31) = iI x from sb_shr0 (iI x)]; exact kk H locs ls hP hD hS hl)
theorem k_nret {S : Type} {ok : S → Prop} {rv : S → Option Value} {w1 : S → va_W} {ty : FieldType} (C : Cx X cc own Ts (some ty) n rm) (hR : Ret X ok rv w1) {z : Int} (hz : narrow ty (.int (iI z)) = .int (iI z)) (u : S) (hu : rv u = some (.int (iI z))) (ho : ok u) (hw : w1 u = ws) (hk : k ≤ rm.cells) (hj : j ≤ rm.slots) (hd : decode cc pc = .ok (.ireturn, 1)) : K_ X k j ws pc lo [.int (iI z)] :=
  fun H locs ls hP hD hS hl => hR H locs k j _ (by rw [C.R]; exact hk) (by rw [C.R]; exact hj) (W.zret C.e C.b C.r hz (fun t ht hW => ⟨⟨u, by rw [hu], ho, by rw [ht, hw]; exact hP, by rw [hw]; exact hD⟩, hS.F ht⟩) hS.2.2 hd C.l)
theorem i2c_id {x : Int} (h0 : 0 ≤ x) (h1 : x < 65536) : ((iI x).toUInt32 % 65536).toInt32 = iI x := by
  obtain ⟨w, rfl⟩ := Int.eq_ofNat_of_zero_le h0
  rw [← nI_iI, pk_char, pk_tn (by omega), Nat.mod_eq_of_lt (by omega)]
theorem nar_c {x : Int} (h0 : 0 ≤ x) (h1 : x < 65536) : vp_nar .char (iI x) = iI x := by
  rw [← i2c_id h0 h1]; exact pk_vc _
theorem nar_cv {x : Int} (h0 : 0 ≤ x) (h1 : x < 65536) : narrow .char (.int (iI x)) = .int (iI x) := by
  rw [← i2c_id h0 h1]; exact pk_nc _
theorem k_ifnull_r (C : Cx X cc own Ts ret n rm) {a : Nat} {off : Int} (hd : decode cc pc = .ok (.ifnull off, 3)) (kk : K_ X k j ws (pc + 3) lo st) : K_ X k j ws pc lo (.ref a :: st) := fun H locs ls hP hD hS hl => lv_ifnull C.e C.b hd (kk H locs ls hP hD hS hl)
theorem k_ifnull_n (C : Cx X cc own Ts ret n rm) {off : Int} (tgt : Nat) (hd : decode cc pc = .ok (.ifnull off, 3)) (ht : (pc : Int) + off = (tgt : Int)) (kk : K_ X k j ws tgt lo st) : K_ X k j ws pc lo (.null :: st) := fun H locs ls hP hD hS hl => lv_ifnullN C.e C.b hd ht (kk H locs ls hP hD hS hl)
theorem k_ifnonnull_r (C : Cx X cc own Ts ret n rm) {a : Nat} {off : Int} (tgt : Nat) (hd : decode cc pc = .ok (.ifnonnull off, 3)) (ht : (pc : Int) + off = (tgt : Int)) (kk : K_ X k j ws tgt lo st) : K_ X k j ws pc lo (.ref a :: st) := fun H locs ls hP hD hS hl => lv_ifnonnull C.e C.b hd ht (kk H locs ls hP hD hS hl)
theorem k_acmp_ne (C : Cx X cc own Ts ret n rm) {a b : Nat} {off : Int} (tgt : Nat) (hd : decode cc pc = .ok (.if_acmp .ne off, 3)) (ht : (pc : Int) + off = (tgt : Int)) (kt : ¬ a = b → K_ X k j ws tgt lo st) (kf : a = b → K_ X k j ws (pc + 3) lo st) : K_ X k j ws pc lo (.ref b :: .ref a :: st) :=
  fun H locs ls hP hD hS hl => lv_acmp_ne (rx := some a) (ry := some b) C.e C.b hd ht (fun h => kt (fun z => h (by rw [z])) H locs ls hP hD hS hl) (fun h => kf (by
    first
    | exact Option.some.inj h
    | exact Option.some.inj (Classical.not_not.mp h)) H locs ls hP hD hS hl)
theorem k_callVs (C : Cx X cc own Ts ret n rm) {S : Type} {ok : S → Prop} {rv : S → Option Value} {w1 : S → va_W} {y : MethodName} {wsy ws' : List Cond} {rmy : Room} (av : List Value) (nn : Nat) (hnn : av.length = nn) {bytes : ByteArray} {maxL ix : Nat} {rty : Option FieldType}
    {i : Nat} (hi : i < 4) (hM : Ct (x_l X) (x_G X) y wsy rmy (.ref (g_sk (x_G X) i) :: av) [] ok rv w1) (hG : GoodIn Ts (wsV own ix "java/lang/String" y wsy)) (hw : wsy = Cond.code y bytes maxL rty :: ws')
    (hdd : y.cls = "java/lang/String" ∧ y.cls ≠ "java/lang/invoke/MethodHandle" ∧ y.cls ≠ "java/lang/invoke/VarHandle" ∧ (parseMethodDescriptor y.desc).map (fun d => d.parameters.length) = some nn) (hR : rmy.frames + 1 ≤ rm.frames ∧ 8 + (maxL + 11) + rmy.locals ≤ rm.locals)
    (rest : List Value) (hst : st = av.reverse ++ .ref (g_sk (x_G X) i) :: rest) (hW : (rest.map fun v => v.category).sum ≤ 8) (hroom : k + rmy.cells ≤ rm.cells ∧ j + rmy.slots ≤ rm.slots) (hd : decode cc pc = .ok (.invokevirtual ix, 3)) (hj : ∀ u, w1 u = [])
    (st2 : S → List Value) (h9 : ∀ u, (rv u).toList ++ rest = st2 u) (k2 j2 : Nat) (h8 : k + rmy.cells = k2 ∧ j + rmy.slots = j2)
    (kk : ∀ u : S, ok u → K_ X k2 j2 ws (pc + 3) lo (st2 u)) : K_ X k j ws pc lo st := by
  intro H locs ls hP hD hS hl
  refine w_back (wc := []) C hP hD hS [] rfl (va_runV (As := av) (b := g_sk (x_G X) i) C.F (hM H.size) (cwV nn C.w hG hw rfl rfl hdd (by rw [C.R]; exact hR)) ⟨Pg.blind, vk_recv C.S.2.2.2.2.1 hi hS, fun U hU hW => pg_call C hP hD hS [] rfl rfl hU hW⟩ rfl hnn hl.1 hst (lv_room hW) hd (room_ok C hroom)) (fun u H1 locs1 ho hP1 hD1 hk1 hS1 => ?_)
  rw [h9 u, h8.1, h8.2]
  exact kk u ho H1 locs1 ls (w_same hP (isC := []) (wc := []) rfl hk1 hD (fun i q h => by simp at h)) hD hS1 hl
end KS
