theorem csn_in {f : Nat → Int} {L : Int} {a i : Nat} (hi : i < 4) : ∀ k, k ≤ wl i → csn (tA f L) a i k = 0 ∨ ((a + csn (tA f L) a i k : Nat) : Int) ≤ L
  | 0, _ => Or.inl rfl
  | k + 1, hk => by
    have ih := csn_in (f := f) (L := L) (a := a) hi k (by omega)
    rw [csn_s]
    split
    · rename_i h
      right
      have hw := wc_rng hi (show k < wl i by omega)
      by_cases z : ((a + k : Nat) : Int) < L
      · omega
      · rw [tA_ge (by omega)] at h; omega
    · exact ih
theorem csA_in {f : Nat → Int} {L : Int} {a : Nat} (hL : L ≤ 60) (ha : a ≤ 60) : a + csA (tA f L) a ≤ 60 := by
  unfold csA
  split
  · omega
  · rename_i h
    have := csn_in (f := f) (L := L) (a := a) (i := sW (tA f L) a) (by have := sW_le (tA f L) a; omega) _ (Nat.le_refl _)
    omega
theorem RWok_n {T : Nat → Int} {L a : Nat} {G : KG} {du ft : Int} (h : du = 0) (x y : Int) (v : Value) (z : Int) : RWok T L a G du ft (0, x, y, ft, v, z) :=
  ⟨Or.inl rfl, fun _ => ⟨rfl, rfl⟩, fun h2 => absurd h2 (by omega)⟩
theorem RWok_0 {T : Nat → Int} {L a p : Nat} {G : KG} {du ft f2 : Int} (h : ¬ du = 0) (hs : stp T L a = (0, p)) (hp : f2 = (p : Int)) (x y : Int) (v : Value) (z : Int) : RWok T L a G du ft (0, x, y, f2, v, z) :=
  ⟨Or.inl rfl, fun h2 => absurd h2 h, fun _ => by rw [hs]; exact ⟨fun _ => ⟨rfl, hp⟩, fun h2 => absurd h2 (by show ¬ _ = _; simp), fun h2 => absurd h2 (by show ¬ _ = _; simp), fun h2 => absurd h2 (by decide : ¬ (0 : Int) = 1)⟩⟩
theorem RWok_1 {T : Nat → Int} {L a p : Nat} {G : KG} {du ft : Int} (h : ¬ du = 0) (hs : stp T L a = (1, p)) (hF : sW T a < 4) {m : Int} (hm : m = (nmr T a).2) (h0 : 0 ≤ m ∧ m ≤ 99999) (x : Int) : RWok T L a G du ft (1, x, 0, ft, .ref (g_ad G (sW T a)), m) :=
  ⟨Or.inr rfl, fun h2 => absurd h2 h, fun _ => by rw [hs]; exact ⟨fun h2 => absurd h2 (by show ¬ _ = _; simp), fun _ => ⟨rfl, rfl, rfl⟩, fun h2 => absurd h2 (by show ¬ _ = _; simp), fun _ => ⟨Or.inl rfl, hF, rfl, hm, h0.1, h0.2⟩⟩⟩
theorem RWok_2 {T : Nat → Int} {L a p : Nat} {G : KG} {du ft : Int} (h : ¬ du = 0) (hs : stp T L a = (2, p)) (hF : sW T a < 4) {m : Int} (hm : m = (nmr T a).2) (h0 : 0 ≤ m ∧ m ≤ 99999) {x : Int} (hx : x = (p : Int)) (hx2 : x ≤ 60) : RWok T L a G du ft (1, x, 1, ft, .ref (g_ad G (sW T a)), m) :=
  ⟨Or.inr rfl, fun h2 => absurd h2 h, fun _ => by rw [hs]; exact ⟨fun h2 => absurd h2 (by show ¬ _ = _; simp), fun h2 => absurd h2 (by show ¬ _ = _; simp), fun _ => ⟨rfl, rfl, rfl, hx, hx2⟩, fun _ => ⟨Or.inr rfl, hF, rfl, hm, h0.1, h0.2⟩⟩⟩
theorem flt_0 {T : Nat → Int} {L k a : Nat} (h : (stp T L a).1 = 0) : flt T L (k + 1) a = ((stp T L a).2 : Int) := if_pos h
theorem flt_1 {T : Nat → Int} {L k a : Nat} (h : (stp T L a).1 = 1) : flt T L (k + 1) a = -1 := by
  show (if _ then _ else _) = _
  rw [if_neg (by omega), if_pos h]
theorem flt_2 {T : Nat → Int} {L k a : Nat} (h : (stp T L a).1 = 2) : flt T L (k + 1) a = flt T L k (stp T L a).2 := by
  show (if _ then _ else _) = _
  rw [if_neg (by omega), if_neg (by omega)]
theorem stp_le2 {T : Nat → Int} {L a : Nat} : (stp T L a).1 = 0 ∨ (stp T L a).1 = 1 ∨ (stp T L a).1 = 2 := by
  unfold stp; (repeat' split) <;> simp
def FfI (T : Nat → Int) (L : Nat) (mo i a du ft : Int) : Prop := (mo = 0 ∧ ft = flt T L 60 0) ∨ (mo = 1 ∧ ft = -1 ∧ ((du = 0 ∧ flt T L 60 0 = -1) ∨ (du = 1 ∧ flt T L (60 - i).toNat a.toNat = flt T L 60 0)))
theorem FfI_0 {T : Nat → Int} {L : Nat} : FfI T L 1 0 0 1 (-1) := Or.inr ⟨rfl, rfl, Or.inr ⟨rfl, rfl⟩⟩
theorem FfI_end {T : Nat → Int} {L : Nat} {mo i a du ft : Int} (h : FfI T L mo i a du ft) (he : mo = 0 ∨ i = 60) : ft = flt T L 60 0 := by
  rcases h with ⟨_, h⟩ | ⟨h1, h2, ⟨_, h⟩ | ⟨_, h⟩⟩
  · exact h
  · rw [h, h2]
  · rw [show (60 - i).toNat = 0 by omega] at h
    rw [← h, h2]; rfl
theorem FfI_go {T : Nat → Int} {L : Nat} {mo i a du ft : Int} {G : KG} {u : Int × Int × Int × Int × Value × Int} (h : FfI T L mo i a du ft) (hm : ¬ mo = 0) (hi : 0 ≤ i ∧ i < 60) (hu : RWok T L a.toNat G du ft u) : FfI T L u.1 (i + 1) u.2.1 u.2.2.1 u.2.2.2.1 := by
  obtain ⟨hu1, hu2, hu3⟩ := hu
  rcases h with ⟨h, _⟩ | ⟨h1, h2, ⟨h3, h4⟩ | ⟨h3, h4⟩⟩
  · exact absurd h hm
  · obtain ⟨z1, z2⟩ := hu2 h3
    exact Or.inl ⟨z1, by rw [z2, h2, h4]⟩
  · obtain ⟨y0, y1, y2, y3⟩ := hu3 h3
    rw [show (60 - i).toNat = (60 - (i + 1)).toNat + 1 by omega] at h4
    rcases stp_le2 (T := T) (L := L) (a := a.toNat) with z | z | z
    · rw [flt_0 z] at h4
      exact Or.inl ⟨(y0 z).1, by rw [(y0 z).2, h4]⟩
    · rw [flt_1 z] at h4
      exact Or.inr ⟨(y1 z).1, by rw [(y1 z).2.2, h2], Or.inl ⟨(y1 z).2.1, h4.symm⟩⟩
    · rw [flt_2 z] at h4
      obtain ⟨x1, x2, x3, x4, x5⟩ := y2 z
      exact Or.inr ⟨x1, by rw [x3, h2], Or.inr ⟨x2, by rw [x4, Int.toNat_natCast]; exact h4⟩⟩

theorem in_X4_readWord_X4 : ∀ w ∈ wsX40, w ∈ wsX4_readWord := by decide +kernel
set_option maxHeartbeats 4000000 in
set_option maxRecDepth 100000 in
theorem c_X4_readWord (l : Launch) (G : KG) (tx sg : Nat) (L a du ft : Int) (wv : Value) (nu : Int) (f : Nat → Int) (hdu : du = 0 ∨ du = 1) (hL : 0 ≤ L ∧ L ≤ 60) (ha : 0 ≤ a ∧ a ≤ 60) (hf : ∀ q : Nat, q < 60 → 0 ≤ f q ∧ f q ≤ 65535) : Ct l G yX4_readWord wsX4_readWord (rmD 6 0 0) [.ref tx] [(tx, .inr (4, [.ref sg, .int (iI L), .int (iI a), .int (iI du), .int (iI ft), wv, .int (iI nu)])), (sg, .inl (g_C G, 60, .inl (aI f)))] (fun u : Int × Int × Int × Int × Value × Int => RWok (tA f L) L.toNat a.toNat G du ft u ∧ (0 ≤ u.2.1 ∧ u.2.1 ≤ 60) ∧ (u.2.2.1 = 0 ∨ u.2.2.1 = 1)) (fun u : Int × Int × Int × Int × Value × Int => some (.int (iI u.1))) (fun u : Int × Int × Int × Int × Value × Int => [(tx, .inr (4, [.ref sg, .int (iI L), .int (iI u.2.1), .int (iI u.2.2.1), .int (iI u.2.2.2.1), u.2.2.2.2.1, .int (iI u.2.2.2.2.2)])), (sg, .inl (g_C G, 60, .inl (aI f)))]) := by
  refine Ct.of (cc := cX4_readWord) (maxL := 1) (ret := (some .boolean)) (by decide +kernel) rfl (Nat.le_of_ble_eq_true rfl) ?_
  intro X C hG hL hnm hR
  subst hG
  subst hL
  have C : Cx X cX4_readWord RX4 wsX4_readWord (some .boolean) 1 (rmD 6 0 0) := C
  show K_ X 0 0 [(tx, .inr (4, [.ref sg, .int (iI L), .int (iI a), .int (iI du), .int (iI ft), wv, .int (iI nu)])), (sg, .inl (g_C (x_G X), 60, .inl (aI f)))] 0 [(0, .ref tx)] []
  refine k_aload_n C 0 rfl dX4_readWord_0 rfl ?_
  refine k_get C (Cn := RX4) (T := TX4) (N := 7) (ci := 4) (ref := "StruckCounts$Text") in_X4_readWord_X4 0 rfl rfl 3 (by decide) 1 rfl rfl (v := .int (iI du)) rfl dX4_readWord_1 ?_
  refine k_if_ne C 9 (⟨by omega, by omega⟩) dX4_readWord_4 (by decide) (fun c4 => ?_) (fun c4 => ?_)
  · skip
    refine k_aload_n C 0 rfl dX4_readWord_9 rfl ?_
    refine k_iconst C dX4_readWord_10 ?_
    refine k_put C (Cn := RX4) (T := TX4) (N := 7) (ci := 4) (ref := "StruckCounts$Text") in_X4_readWord_X4 tyX4 tyX4_ok nmX4 0 rfl rfl 3 (by decide) 1 rfl rfl rfl (v := .int (iI 0)) (rfl) (rfl) (Nat.le_of_ble_eq_true rfl) [(tx, .inr (4, [.ref sg, .int (iI L), .int (iI a), .int (iI 0), .int (iI ft), wv, .int (iI nu)])), (sg, .inl (g_C (x_G X), 60, .inl (aI f)))] rfl dX4_readWord_11 ?_
    refine k_aload_n C 0 rfl dX4_readWord_14 rfl ?_
    refine k_callV C (y := yX4_readSpelling) [] 0 rfl (c_X4_readSpelling (x_l X) (x_G X) tx sg L a 0 ft wv nu f (by first | assumption | omega) (by first | assumption | omega) (by first | assumption | omega)) gX4_readWord_X4_readSpelling rfl ⟨rfl, by decide +kernel, by decide +kernel, by decide +kernel⟩ ⟨by decide, by decide⟩ 0 (fs := [.ref sg, .int (iI L), .int (iI a), .int (iI 0), .int (iI ft), wv, .int (iI nu)]) rfl rfl rfl [0, 1] (by decide) (wc := [(tx, .inr (4, [.ref sg, .int (iI L), .int (iI a), .int (iI 0), .int (iI ft), wv, .int (iI nu)])), (sg, .inl (g_C (x_G X), 60, .inl (aI f)))]) rfl [] rfl (Nat.le_of_ble_eq_true rfl) ⟨Nat.le_of_ble_eq_true rfl, Nat.le_of_ble_eq_true rfl⟩ dX4_readWord_15 (fun u15 => [(tx, .inr (4, [.ref sg, .int (iI L), .int (iI u15.2.1), .int (iI 0), .int (iI ft), u15.2.2, .int (iI nu)])), (sg, .inl (g_C (x_G X), 60, .inl (aI f)))]) (Or.inr ⟨[], [0, 1], [], rfl, by decide, by decide, by decide, fun _ => rfl⟩) (fun u15 => [.int (iI u15.1)]) (fun _ => rfl) 0 0 ⟨rfl, rfl⟩ (fun u15 hu15 => ?_)
    have hcl := csA_in (f := f) (L := L) (a := a.toNat) (by omega) (by omega)
    obtain ⟨hb, h2, h3⟩ := hu15
    refine k_if_eq C 28 (by rcases hb with ⟨z, _⟩ | ⟨z, _⟩ <;> omega) dX4_readWord_18 (by decide) (fun c18 => ?_) (fun c18 => ?_)
    · skip
      have hF : ¬ Ful (tA f L) a.toNat := by rcases hb with ⟨z, _⟩ | ⟨_, z⟩; (omega); exact z
      refine k_aload_n C 0 rfl dX4_readWord_28 rfl ?_
      refine k_aload_n C 0 rfl dX4_readWord_29 rfl ?_
      refine k_get C (Cn := RX4) (T := TX4) (N := 7) (ci := 4) (ref := "StruckCounts$Text") in_X4_readWord_X4 0 rfl rfl 2 (by decide) 2 rfl rfl (v := .int (iI u15.2.1)) rfl dX4_readWord_30 ?_
      refine k_put C (Cn := RX4) (T := TX4) (N := 7) (ci := 4) (ref := "StruckCounts$Text") in_X4_readWord_X4 tyX4 tyX4_ok nmX4 0 rfl rfl 4 (by decide) 3 rfl rfl rfl (v := .int (iI u15.2.1)) (rfl) (rfl) (Nat.le_of_ble_eq_true rfl) [(tx, .inr (4, [.ref sg, .int (iI L), .int (iI u15.2.1), .int (iI 0), .int (iI u15.2.1), u15.2.2, .int (iI nu)])), (sg, .inl (g_C (x_G X), 60, .inl (aI f)))] rfl dX4_readWord_33 ?_
      refine k_iconst C dX4_readWord_36 ?_
      exact k_zret C hR (by omega) (u := (0, u15.2.1, 0, u15.2.1, (u15.2.2), nu)) rfl (by (try dsimp only) <;> exact (⟨RWok_0 (by omega) (stp_nf hF) (by omega) _ _ _ _, by omega, by omega⟩)) rfl (Nat.le_of_ble_eq_true rfl) (Nat.le_of_ble_eq_true rfl) dX4_readWord_37
    · skip
      have hF : Ful (tA f L) a.toNat := by rcases hb with ⟨_, z⟩ | ⟨z, _⟩; (exact z); omega
      rw [show u15.2.2 = .ref (g_ad (x_G X) (sW (tA f L) a.toNat)) from h3 hF]
      refine k_aload_n C 0 rfl dX4_readWord_21 rfl ?_
      refine k_callV C (y := yX4_readNumber) [] 0 rfl (c_X4_readNumber (x_l X) (x_G X) tx sg L u15.2.1 0 ft nu (sW (tA f L) a.toNat) f (hF.1) (hL) (by omega) (hf)) gX4_readWord_X4_readNumber rfl ⟨rfl, by decide +kernel, by decide +kernel, by decide +kernel⟩ ⟨by decide, by decide⟩ 0 (fs := [.ref sg, .int (iI L), .int (iI u15.2.1), .int (iI 0), .int (iI ft), .ref (g_ad (x_G X) (sW (tA f L) a.toNat)), .int (iI nu)]) rfl rfl rfl [0, 1] (by decide) (wc := [(tx, .inr (4, [.ref sg, .int (iI L), .int (iI u15.2.1), .int (iI 0), .int (iI ft), .ref (g_ad (x_G X) (sW (tA f L) a.toNat)), .int (iI nu)])), (sg, .inl (g_C (x_G X), 60, .inl (aI f)))]) rfl [] rfl (Nat.le_of_ble_eq_true rfl) ⟨Nat.le_of_ble_eq_true rfl, Nat.le_of_ble_eq_true rfl⟩ dX4_readWord_22 (fun u22 => [(tx, .inr (4, [.ref sg, .int (iI L), .int (iI u22.2.1), .int (iI 0), .int (iI ft), .ref (g_ad (x_G X) (sW (tA f L) a.toNat)), .int (iI u22.2.2)])), (sg, .inl (g_C (x_G X), 60, .inl (aI f)))]) (Or.inr ⟨[], [0, 1], [], rfl, by decide, by decide, by decide, fun _ => rfl⟩) (fun u22 => [.int (iI u22.1)]) (fun _ => rfl) 0 0 ⟨rfl, rfl⟩ (fun u22 hu22 => ?_)
      obtain ⟨kb, k2, k3, k4, k5, k6, k7⟩ := hu22
      have e0 : u15.2.1.toNat = a.toNat + csA (tA f L) a.toNat := by omega
      rw [e0] at k2 k3
      change u22.2.1 = ((nmr (tA f L) a.toNat).1 : Int) at k2
      change u22.2.2 = (nmr (tA f L) a.toNat).2 at k3
      have hwb := w_bd hF.1
      refine k_if_ne C 38 (by rcases kb with ⟨z, _⟩ | ⟨z, _⟩ <;> omega) dX4_readWord_25 (by decide) (fun c25 => ?_) (fun c25 => ?_)
      · skip
        have hN : ¬ ((nmr (tA f L) a.toNat).2 = 0 ∧ wnn (sW (tA f L) a.toNat) = 1) := by omega
        refine k_aload_n C 0 rfl dX4_readWord_38 rfl ?_
        refine k_get C (Cn := RX4) (T := TX4) (N := 7) (ci := 4) (ref := "StruckCounts$Text") in_X4_readWord_X4 0 rfl rfl 2 (by decide) 2 rfl rfl (v := .int (iI u22.2.1)) rfl dX4_readWord_39 ?_
        refine k_aload_n C 0 rfl dX4_readWord_42 rfl ?_
        refine k_get C (Cn := RX4) (T := TX4) (N := 7) (ci := 4) (ref := "StruckCounts$Text") in_X4_readWord_X4 0 rfl rfl 1 (by decide) 4 rfl rfl (v := .int (iI L)) rfl dX4_readWord_43 ?_
        refine k_icmp_ge C 88 (⟨by omega, by omega⟩) (⟨by omega, by omega⟩) dX4_readWord_46 (by decide) (fun c46 => ?_) (fun c46 => ?_)
        · skip
          refine k_iconst C dX4_readWord_88 ?_
          exact k_zret C hR (by omega) (u := (1, u22.2.1, 0, ft, (.ref (g_ad (x_G X) (sW (tA f L) a.toNat))), u22.2.2)) rfl (by (try dsimp only) <;> exact (⟨RWok_1 (by omega) (stp_end hF hN (by omega)) hF.1 k3 (by omega) _, by omega, by omega⟩)) rfl (Nat.le_of_ble_eq_true rfl) (Nat.le_of_ble_eq_true rfl) dX4_readWord_89
        · skip
          refine k_aload_n C 0 rfl dX4_readWord_49 rfl ?_
          refine k_get C (Cn := RX4) (T := TX4) (N := 7) (ci := 4) (ref := "StruckCounts$Text") in_X4_readWord_X4 0 rfl rfl 0 (by decide) 5 rfl rfl (v := .ref sg) rfl dX4_readWord_50 ?_
          refine k_aload_n C 0 rfl dX4_readWord_53 rfl ?_
          refine k_get C (Cn := RX4) (T := TX4) (N := 7) (ci := 4) (ref := "StruckCounts$Text") in_X4_readWord_X4 0 rfl rfl 2 (by decide) 2 rfl rfl (v := .int (iI u22.2.1)) rfl dX4_readWord_54 ?_
          refine k_cald C (f := f) 1 rfl (⟨by omega, by omega⟩) (by decide) dX4_readWord_57 ?_
          refine k_nmI (fun v57 e57 => ?_)
          have hv := hf u22.2.1.toNat (by omega)
          have hT : tA f L (nmr (tA f L) a.toNat).1 = v57 := by rw [tA_lt (by omega), e57, show u22.2.1.toNat = (nmr (tA f L) a.toNat).1 by omega]
          refine k_bipush C dX4_readWord_58 (by decide) ?_
          refine k_icmp_eq C 73 (⟨by omega, by omega⟩) (⟨by omega, by omega⟩) dX4_readWord_60 (by decide) (fun c60 => ?_) (fun c60 => ?_)
          · skip
            refine k_aload_n C 0 rfl dX4_readWord_73 rfl ?_
            refine k_dup C dX4_readWord_74 rfl ?_
            refine k_get C (Cn := RX4) (T := TX4) (N := 7) (ci := 4) (ref := "StruckCounts$Text") in_X4_readWord_X4 0 rfl rfl 2 (by decide) 2 rfl rfl (v := .int (iI u22.2.1)) rfl dX4_readWord_75 ?_
            refine k_iconst C dX4_readWord_78 ?_
            refine k_iadd C dX4_readWord_79 ?_
            refine k_nmI (fun v79 e79 => ?_)
            refine k_put C (Cn := RX4) (T := TX4) (N := 7) (ci := 4) (ref := "StruckCounts$Text") in_X4_readWord_X4 tyX4 tyX4_ok nmX4 0 rfl rfl 2 (by decide) 2 rfl rfl rfl (v := .int (iI v79)) (rfl) (rfl) (Nat.le_of_ble_eq_true rfl) [(tx, .inr (4, [.ref sg, .int (iI L), .int (iI v79), .int (iI 0), .int (iI ft), .ref (g_ad (x_G X) (sW (tA f L) a.toNat)), .int (iI u22.2.2)])), (sg, .inl (g_C (x_G X), 60, .inl (aI f)))] rfl dX4_readWord_80 ?_
            refine k_aload_n C 0 rfl dX4_readWord_83 rfl ?_
            refine k_iconst C dX4_readWord_84 ?_
            refine k_put C (Cn := RX4) (T := TX4) (N := 7) (ci := 4) (ref := "StruckCounts$Text") in_X4_readWord_X4 tyX4 tyX4_ok nmX4 0 rfl rfl 3 (by decide) 1 rfl rfl rfl (v := .int (iI 1)) (rfl) (rfl) (Nat.le_of_ble_eq_true rfl) [(tx, .inr (4, [.ref sg, .int (iI L), .int (iI v79), .int (iI 1), .int (iI ft), .ref (g_ad (x_G X) (sW (tA f L) a.toNat)), .int (iI u22.2.2)])), (sg, .inl (g_C (x_G X), 60, .inl (aI f)))] rfl dX4_readWord_85 ?_
            refine k_iconst C dX4_readWord_88 ?_
            exact k_zret C hR (by omega) (u := (1, v79, 1, ft, (.ref (g_ad (x_G X) (sW (tA f L) a.toNat))), u22.2.2)) rfl (by (try dsimp only) <;> exact (⟨RWok_2 (by omega) (stp_nx hF hN (by omega) (by omega)) hF.1 k3 (by omega) (by omega) (by omega), by omega, by omega⟩)) rfl (Nat.le_of_ble_eq_true rfl) (Nat.le_of_ble_eq_true rfl) dX4_readWord_89
          · skip
            refine k_aload_n C 0 rfl dX4_readWord_63 rfl ?_
            refine k_aload_n C 0 rfl dX4_readWord_64 rfl ?_
            refine k_get C (Cn := RX4) (T := TX4) (N := 7) (ci := 4) (ref := "StruckCounts$Text") in_X4_readWord_X4 0 rfl rfl 2 (by decide) 2 rfl rfl (v := .int (iI u22.2.1)) rfl dX4_readWord_65 ?_
            refine k_put C (Cn := RX4) (T := TX4) (N := 7) (ci := 4) (ref := "StruckCounts$Text") in_X4_readWord_X4 tyX4 tyX4_ok nmX4 0 rfl rfl 4 (by decide) 3 rfl rfl rfl (v := .int (iI u22.2.1)) (rfl) (rfl) (Nat.le_of_ble_eq_true rfl) [(tx, .inr (4, [.ref sg, .int (iI L), .int (iI u22.2.1), .int (iI 0), .int (iI u22.2.1), .ref (g_ad (x_G X) (sW (tA f L) a.toNat)), .int (iI u22.2.2)])), (sg, .inl (g_C (x_G X), 60, .inl (aI f)))] rfl dX4_readWord_68 ?_
            refine k_iconst C dX4_readWord_71 ?_
            exact k_zret C hR (by omega) (u := (0, u22.2.1, 0, u22.2.1, (.ref (g_ad (x_G X) (sW (tA f L) a.toNat))), u22.2.2)) rfl (by (try dsimp only) <;> exact (⟨RWok_0 (by omega) (stp_ft hF hN (by omega) (by omega)) k2 _ _ _ _, by omega, by omega⟩)) rfl (Nat.le_of_ble_eq_true rfl) (Nat.le_of_ble_eq_true rfl) dX4_readWord_72
      · skip
        have hN : (nmr (tA f L) a.toNat).2 = 0 ∧ wnn (sW (tA f L) a.toNat) = 1 := by omega
        refine k_aload_n C 0 rfl dX4_readWord_28 rfl ?_
        refine k_aload_n C 0 rfl dX4_readWord_29 rfl ?_
        refine k_get C (Cn := RX4) (T := TX4) (N := 7) (ci := 4) (ref := "StruckCounts$Text") in_X4_readWord_X4 0 rfl rfl 2 (by decide) 2 rfl rfl (v := .int (iI u22.2.1)) rfl dX4_readWord_30 ?_
        refine k_put C (Cn := RX4) (T := TX4) (N := 7) (ci := 4) (ref := "StruckCounts$Text") in_X4_readWord_X4 tyX4 tyX4_ok nmX4 0 rfl rfl 4 (by decide) 3 rfl rfl rfl (v := .int (iI u22.2.1)) (rfl) (rfl) (Nat.le_of_ble_eq_true rfl) [(tx, .inr (4, [.ref sg, .int (iI L), .int (iI u22.2.1), .int (iI 0), .int (iI u22.2.1), .ref (g_ad (x_G X) (sW (tA f L) a.toNat)), .int (iI u22.2.2)])), (sg, .inl (g_C (x_G X), 60, .inl (aI f)))] rfl dX4_readWord_33 ?_
        refine k_iconst C dX4_readWord_36 ?_
        exact k_zret C hR (by omega) (u := (0, u22.2.1, 0, u22.2.1, (.ref (g_ad (x_G X) (sW (tA f L) a.toNat))), u22.2.2)) rfl (by (try dsimp only) <;> exact (⟨RWok_0 (by omega) (stp_nn hF hN) k2 _ _ _ _, by omega, by omega⟩)) rfl (Nat.le_of_ble_eq_true rfl) (Nat.le_of_ble_eq_true rfl) dX4_readWord_37
  · skip
    refine k_iconst C dX4_readWord_7 ?_
    exact k_zret C hR (by omega) (u := (0, a, du, ft, (wv), nu)) rfl (by (try dsimp only) <;> exact (⟨RWok_n (by omega) _ _ _ _, by omega, by omega⟩)) rfl (Nat.le_of_ble_eq_true rfl) (Nat.le_of_ble_eq_true rfl) dX4_readWord_8
theorem in_X4_findFault_X4 : ∀ w ∈ wsX40, w ∈ wsX4_findFault := by decide +kernel
set_option maxHeartbeats 4000000 in
set_option maxRecDepth 100000 in
theorem c_X4_findFault (l : Launch) (G : KG) (tx sg : Nat) (L a du ft : Int) (wv : Value) (nu : Int) (f : Nat → Int) (hL : 0 ≤ L ∧ L ≤ 60) (hf : ∀ q : Nat, q < 60 → 0 ≤ f q ∧ f q ≤ 65535) : Ct l G yX4_findFault wsX4_findFault (rmD 7 0 0) [.ref tx] [(tx, .inr (4, [.ref sg, .int (iI L), .int (iI a), .int (iI du), .int (iI ft), wv, .int (iI nu)])), (sg, .inl (g_C G, 60, .inl (aI f)))] (fun u : Int × Int × Int × Int × Value × Int => u.2.2.2.1 = flt (tA f L) L.toNat 60 0 ∧ u.1 = u.2.2.2.1) (fun u : Int × Int × Int × Int × Value × Int => some (.int (iI u.1))) (fun u : Int × Int × Int × Int × Value × Int => [(tx, .inr (4, [.ref sg, .int (iI L), .int (iI u.2.1), .int (iI u.2.2.1), .int (iI u.2.2.2.1), u.2.2.2.2.1, .int (iI u.2.2.2.2.2)])), (sg, .inl (g_C G, 60, .inl (aI f)))]) := by
  refine Ct.of (cc := cX4_findFault) (maxL := 3) (ret := (some .int)) (by decide +kernel) rfl (Nat.le_of_ble_eq_true rfl) ?_
  intro X C hG hL hnm hR
  subst hG
  subst hL
  have C : Cx X cX4_findFault RX4 wsX4_findFault (some .int) 3 (rmD 7 0 0) := C
  show K_ X 0 0 [(tx, .inr (4, [.ref sg, .int (iI L), .int (iI a), .int (iI du), .int (iI ft), wv, .int (iI nu)])), (sg, .inl (g_C (x_G X), 60, .inl (aI f)))] 0 [(0, .ref tx)] []
  refine k_aload_n C 0 rfl dX4_findFault_0 rfl ?_
  refine k_callV C (y := yX4_rewind) [] 0 rfl (c_X4_rewind (x_l X) (x_G X) tx sg L a du ft wv nu f ) gX4_findFault_X4_rewind rfl ⟨rfl, by decide +kernel, by decide +kernel, by decide +kernel⟩ ⟨by decide, by decide⟩ 0 (fs := [.ref sg, .int (iI L), .int (iI a), .int (iI du), .int (iI ft), wv, .int (iI nu)]) rfl rfl rfl [0, 1] (by decide) (wc := [(tx, .inr (4, [.ref sg, .int (iI L), .int (iI a), .int (iI du), .int (iI ft), wv, .int (iI nu)])), (sg, .inl (g_C (x_G X), 60, .inl (aI f)))]) rfl [] rfl (Nat.le_of_ble_eq_true rfl) ⟨Nat.le_of_ble_eq_true rfl, Nat.le_of_ble_eq_true rfl⟩ dX4_findFault_1 (fun u1 => [(tx, .inr (4, [.ref sg, .int (iI L), .int (iI 0), .int (iI 1), .int (iI (-1)), wv, .int (iI nu)])), (sg, .inl (g_C (x_G X), 60, .inl (aI f)))]) (Or.inr ⟨[], [0, 1], [], rfl, by decide, by decide, by decide, fun _ => rfl⟩) (fun u1 => []) (fun _ => rfl) 0 0 ⟨rfl, rfl⟩ (fun u1 hu1 => ?_)
  refine k_iconst C dX4_findFault_4 ?_
  refine k_istore_n C (lo' := [(1, .int (iI 1)), (0, .ref tx)]) dX4_findFault_5 rfl (by decide) rfl ?_
  refine k_iconst C dX4_findFault_6 ?_
  refine k_istore_n C (lo' := [(2, .int (iI 0)), (1, .int (iI 1)), (0, .ref tx)]) dX4_findFault_7 rfl (by decide) rfl ?_
  have L8 : ∀ (nf : Nat) (mo : Int) (i : Int) (a1 : Int) (d1 : Int) (f1 : Int) (w1 : Value) (n1 : Int), ((mo = 0 ∨ mo = 1) ∧ 0 ≤ i ∧ i ≤ 60 ∧ (0 ≤ a1 ∧ a1 ≤ 60) ∧ (d1 = 0 ∨ d1 = 1) ∧ FfI (tA f L) L.toNat mo i a1 d1 f1) → (60 - i).toNat < nf → K_ X 0 0 [(tx, .inr (4, [.ref sg, .int (iI L), .int (iI a1), .int (iI d1), .int (iI f1), w1, .int (iI n1)])), (sg, .inl (g_C (x_G X), 60, .inl (aI f)))] 8 [(2, .int (iI i)), (1, .int (iI mo)), (0, .ref tx)] [] := by
    intro nf
    induction nf with
    | zero => intro mo i a1 d1 f1 w1 n1 hI hm; exact absurd hm (Nat.not_lt_zero _)
    | succ nf ih8 =>
      intro mo i a1 d1 f1 w1 n1 hI8 hm8
      obtain ⟨i1, i2, i3, i4, i5, i6⟩ := hI8
      refine k_iload_n C 0 rfl dX4_findFault_8 rfl ?_
      refine k_bipush C dX4_findFault_9 (by decide) ?_
      refine k_icmp_ge C 29 (⟨by omega, by omega⟩) (⟨by omega, by omega⟩) dX4_findFault_11 (by decide) (fun c11 => ?_) (fun c11 => ?_)
      · skip
        have hE := FfI_end i6 (by omega)
        refine k_aload_n C 2 rfl dX4_findFault_29 rfl ?_
        refine k_get C (Cn := RX4) (T := TX4) (N := 7) (ci := 4) (ref := "StruckCounts$Text") in_X4_findFault_X4 0 rfl rfl 4 (by decide) 1 rfl rfl (v := .int (iI f1)) rfl dX4_findFault_30 ?_
        exact k_iret C hR (u := (f1, a1, d1, f1, (w1), n1)) rfl (by (try dsimp only) <;> exact (⟨hE, rfl⟩)) rfl (Nat.le_of_ble_eq_true rfl) (Nat.le_of_ble_eq_true rfl) dX4_findFault_33
      · skip
        refine k_iload_n C 1 rfl dX4_findFault_14 rfl ?_
        refine k_if_eq C 29 (⟨by omega, by omega⟩) dX4_findFault_15 (by decide) (fun c15 => ?_) (fun c15 => ?_)
        · skip
          have hE := FfI_end i6 (by omega)
          refine k_aload_n C 2 rfl dX4_findFault_29 rfl ?_
          refine k_get C (Cn := RX4) (T := TX4) (N := 7) (ci := 4) (ref := "StruckCounts$Text") in_X4_findFault_X4 0 rfl rfl 4 (by decide) 1 rfl rfl (v := .int (iI f1)) rfl dX4_findFault_30 ?_
          exact k_iret C hR (u := (f1, a1, d1, f1, (w1), n1)) rfl (by (try dsimp only) <;> exact (⟨hE, rfl⟩)) rfl (Nat.le_of_ble_eq_true rfl) (Nat.le_of_ble_eq_true rfl) dX4_findFault_33
        · skip
          refine k_aload_n C 2 rfl dX4_findFault_18 rfl ?_
          refine k_callV C (y := yX4_readWord) [] 0 rfl (c_X4_readWord (x_l X) (x_G X) tx sg L a1 d1 f1 w1 n1 f (by first | assumption | omega) (by first | assumption | omega) (by first | assumption | omega) (by first | assumption | omega)) gX4_findFault_X4_readWord rfl ⟨rfl, by decide +kernel, by decide +kernel, by decide +kernel⟩ ⟨by decide, by decide⟩ 0 (fs := [.ref sg, .int (iI L), .int (iI a1), .int (iI d1), .int (iI f1), w1, .int (iI n1)]) rfl rfl rfl [0, 1] (by decide) (wc := [(tx, .inr (4, [.ref sg, .int (iI L), .int (iI a1), .int (iI d1), .int (iI f1), w1, .int (iI n1)])), (sg, .inl (g_C (x_G X), 60, .inl (aI f)))]) rfl [] rfl (Nat.le_of_ble_eq_true rfl) ⟨Nat.le_of_ble_eq_true rfl, Nat.le_of_ble_eq_true rfl⟩ dX4_findFault_19 (fun u19 => [(tx, .inr (4, [.ref sg, .int (iI L), .int (iI u19.2.1), .int (iI u19.2.2.1), .int (iI u19.2.2.2.1), u19.2.2.2.2.1, .int (iI u19.2.2.2.2.2)])), (sg, .inl (g_C (x_G X), 60, .inl (aI f)))]) (Or.inr ⟨[], [0, 1], [], rfl, by decide, by decide, by decide, fun _ => rfl⟩) (fun u19 => [.int (iI u19.1)]) (fun _ => rfl) 0 0 ⟨rfl, rfl⟩ (fun u19 hu19 => ?_)
          refine k_istore_n C (lo' := [(1, .int (iI u19.1)), (2, .int (iI i)), (0, .ref tx)]) dX4_findFault_22 rfl (by decide) rfl ?_
          obtain ⟨v23, e23⟩ : ∃ y : Int, y = i + 1 := ⟨_, rfl⟩
          refine k_iinc C (lo' := [(2, .int (iI v23)), (1, .int (iI u19.1)), (0, .ref tx)]) 1 rfl dX4_findFault_23 (by decide) v23 e23 rfl ?_
          refine k_goto C 8 dX4_findFault_26 (by decide) ?_
          exact ih8 u19.1 v23 u19.2.1 u19.2.2.1 u19.2.2.2.1 u19.2.2.2.2.1 u19.2.2.2.2.2 (⟨hu19.1.1, by omega, by omega, hu19.2.1, hu19.2.2, by rw [e23]; exact FfI_go i6 (by omega) (by omega) hu19.1⟩) (by omega)
  exact L8 _ 1 0 0 1 (-1) wv nu (⟨Or.inr rfl, by omega, by omega, by omega, by omega, FfI_0⟩) (Nat.lt_succ_self _)
