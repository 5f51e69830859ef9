/-! how many odd primes there are below 100000: by the divisor in common with the product of the small primes -/
def prodP : Nat := 61076929465933196099278943388997855150356143888238371488665496574810764573680243467182799164806563626522181311132959748531230210
theorem prodP_dvd {j : Nat} (h : j < 65) : sp j ∣ prodP := Nat.dvd_of_mod_eq_zero (of_decide_eq_true (all_lt (N := 65) (P := fun j => decide (prodP % sp j = 0)) (by decide +kernel) h))
def cG : Nat → Nat → Nat
  | 0, i => cond (Nat.beq (Nat.gcd (2 * i + 1) prodP) 1) 1 0
  | l + 1, i => cG l i + cG l (i + 2 ^ l)
theorem gcd_isP {a : Nat} (h1 : 2 ≤ a) (h2 : a < 100489) (hg : Nat.gcd a prodP = 1) : isP a = true := by
  refine isP_iff.mpr ⟨h1, ?_⟩
  by_cases hn : lf a = a
  · exact hn
  · exfalso
    have hr := lf_root h1 hn
    have hlt : lf a < 317 := by
      rcases Nat.lt_or_ge (lf a) 317 with z | z
      · exact z
      · have := Nat.mul_le_mul z z; omega
    obtain ⟨j, hj, e⟩ := sp_all hlt (lf_isP h1)
    have hd := (lf_spec h1).2.1
    rw [← e] at hd
    have := Nat.dvd_gcd hd (prodP_dvd hj)
    rw [hg] at this
    have := Nat.le_of_dvd (by decide) this
    have := sp_ge2 hj
    omega
theorem cG_ce : ∀ (l i : Nat), 1 ≤ i → 2 * (i + 2 ^ l) < 100489 → ce (fun e => isP (od e)) i + cG l i ≤ ce (fun e => isP (od e)) (i + 2 ^ l)
  | 0, i, h1, h => by
    show _ + cond (Nat.beq (Nat.gcd (2 * i + 1) prodP) 1) 1 0 ≤ ce (fun e => isP (od e)) (i + 1)
    show _ ≤ ce (fun e => isP (od e)) i + _
    cases hb : Nat.beq (Nat.gcd (2 * i + 1) prodP) 1 with
    | false => exact Nat.add_le_add_left (Nat.zero_le _) _
    | true =>
      have hp : isP (od i) = true := gcd_isP (by unfold od; omega) (by rw [Nat.pow_zero] at h; unfold od; omega) (Nat.eq_of_beq_eq_true hb)
      simp [hp]
  | l + 1, i, h1, h => by
    have hpos := Nat.two_pow_pos l
    have e : 2 ^ (l + 1) = 2 ^ l + 2 ^ l := by rw [Nat.pow_succ]; omega
    rw [e] at h ⊢
    have a1 := cG_ce l i h1 (by omega)
    have a2 := cG_ce l (i + 2 ^ l) (by omega) (by omega)
    rw [← Nat.add_assoc]
    show _ + (cG l i + cG l (i + 2 ^ l)) ≤ _
    omega
theorem ceo_158 : ce (fun e => isP (od e)) 158 = 64 := by decide +kernel
theorem cG_0 : cG 12 158 = 995 := by decide +kernel
theorem ceo_4254 : 1059 ≤ ce (fun e => isP (od e)) 4254 := Nat.le_trans (by rw [cG_0]; exact Nat.add_le_add_right (Nat.le_of_eq ceo_158.symm) 995) (show ce (fun e => isP (od e)) 158 + cG 12 158 ≤ ce (fun e => isP (od e)) 4254 from cG_ce 12 158 (by decide) (by decide))
theorem cG_1 : cG 12 4254 = 872 := by decide +kernel
theorem ceo_8350 : 1931 ≤ ce (fun e => isP (od e)) 8350 := Nat.le_trans (by rw [cG_1]; exact Nat.add_le_add_right (ceo_4254) 872) (show ce (fun e => isP (od e)) 4254 + cG 12 4254 ≤ ce (fun e => isP (od e)) 8350 from cG_ce 12 4254 (by decide) (by decide))
theorem cG_2 : cG 12 8350 = 819 := by decide +kernel
theorem ceo_12446 : 2750 ≤ ce (fun e => isP (od e)) 12446 := Nat.le_trans (by rw [cG_2]; exact Nat.add_le_add_right (ceo_8350) 819) (show ce (fun e => isP (od e)) 8350 + cG 12 8350 ≤ ce (fun e => isP (od e)) 12446 from cG_ce 12 8350 (by decide) (by decide))
theorem cG_3 : cG 12 12446 = 796 := by decide +kernel
theorem ceo_16542 : 3546 ≤ ce (fun e => isP (od e)) 16542 := Nat.le_trans (by rw [cG_3]; exact Nat.add_le_add_right (ceo_12446) 796) (show ce (fun e => isP (od e)) 12446 + cG 12 12446 ≤ ce (fun e => isP (od e)) 16542 from cG_ce 12 12446 (by decide) (by decide))
theorem cG_4 : cG 12 16542 = 775 := by decide +kernel
theorem ceo_20638 : 4321 ≤ ce (fun e => isP (od e)) 20638 := Nat.le_trans (by rw [cG_4]; exact Nat.add_le_add_right (ceo_16542) 775) (show ce (fun e => isP (od e)) 16542 + cG 12 16542 ≤ ce (fun e => isP (od e)) 20638 from cG_ce 12 16542 (by decide) (by decide))
theorem cG_5 : cG 12 20638 = 761 := by decide +kernel
theorem ceo_24734 : 5082 ≤ ce (fun e => isP (od e)) 24734 := Nat.le_trans (by rw [cG_5]; exact Nat.add_le_add_right (ceo_20638) 761) (show ce (fun e => isP (od e)) 20638 + cG 12 20638 ≤ ce (fun e => isP (od e)) 24734 from cG_ce 12 20638 (by decide) (by decide))
theorem cG_6 : cG 12 24734 = 757 := by decide +kernel
theorem ceo_28830 : 5839 ≤ ce (fun e => isP (od e)) 28830 := Nat.le_trans (by rw [cG_6]; exact Nat.add_le_add_right (ceo_24734) 757) (show ce (fun e => isP (od e)) 24734 + cG 12 24734 ≤ ce (fun e => isP (od e)) 28830 from cG_ce 12 24734 (by decide) (by decide))
theorem cG_7 : cG 12 28830 = 739 := by decide +kernel
theorem ceo_32926 : 6578 ≤ ce (fun e => isP (od e)) 32926 := Nat.le_trans (by rw [cG_7]; exact Nat.add_le_add_right (ceo_28830) 739) (show ce (fun e => isP (od e)) 28830 + cG 12 28830 ≤ ce (fun e => isP (od e)) 32926 from cG_ce 12 28830 (by decide) (by decide))
theorem cG_8 : cG 12 32926 = 725 := by decide +kernel
theorem ceo_37022 : 7303 ≤ ce (fun e => isP (od e)) 37022 := Nat.le_trans (by rw [cG_8]; exact Nat.add_le_add_right (ceo_32926) 725) (show ce (fun e => isP (od e)) 32926 + cG 12 32926 ≤ ce (fun e => isP (od e)) 37022 from cG_ce 12 32926 (by decide) (by decide))
theorem cG_9 : cG 12 37022 = 738 := by decide +kernel
theorem ceo_41118 : 8041 ≤ ce (fun e => isP (od e)) 41118 := Nat.le_trans (by rw [cG_9]; exact Nat.add_le_add_right (ceo_37022) 738) (show ce (fun e => isP (od e)) 37022 + cG 12 37022 ≤ ce (fun e => isP (od e)) 41118 from cG_ce 12 37022 (by decide) (by decide))
theorem cG_10 : cG 12 41118 = 713 := by decide +kernel
theorem ceo_45214 : 8754 ≤ ce (fun e => isP (od e)) 45214 := Nat.le_trans (by rw [cG_10]; exact Nat.add_le_add_right (ceo_41118) 713) (show ce (fun e => isP (od e)) 41118 + cG 12 41118 ≤ ce (fun e => isP (od e)) 45214 from cG_ce 12 41118 (by decide) (by decide))
theorem cG_11 : cG 12 45214 = 712 := by decide +kernel
theorem ceo_49310 : 9466 ≤ ce (fun e => isP (od e)) 49310 := Nat.le_trans (by rw [cG_11]; exact Nat.add_le_add_right (ceo_45214) 712) (show ce (fun e => isP (od e)) 45214 + cG 12 45214 ≤ ce (fun e => isP (od e)) 49310 from cG_ce 12 45214 (by decide) (by decide))
theorem cG_12 : cG 9 49310 = 93 := by decide +kernel
theorem ceo_49822 : 9559 ≤ ce (fun e => isP (od e)) 49822 := Nat.le_trans (by rw [cG_12]; exact Nat.add_le_add_right (ceo_49310) 93) (show ce (fun e => isP (od e)) 49310 + cG 9 49310 ≤ ce (fun e => isP (od e)) 49822 from cG_ce 9 49310 (by decide) (by decide))
theorem cG_13 : cG 7 49822 = 24 := by decide +kernel
theorem ceo_49950 : 9583 ≤ ce (fun e => isP (od e)) 49950 := Nat.le_trans (by rw [cG_13]; exact Nat.add_le_add_right (ceo_49822) 24) (show ce (fun e => isP (od e)) 49822 + cG 7 49822 ≤ ce (fun e => isP (od e)) 49950 from cG_ce 7 49822 (by decide) (by decide))
theorem cG_14 : cG 5 49950 = 5 := by decide +kernel
theorem ceo_49982 : 9588 ≤ ce (fun e => isP (od e)) 49982 := Nat.le_trans (by rw [cG_14]; exact Nat.add_le_add_right (ceo_49950) 5) (show ce (fun e => isP (od e)) 49950 + cG 5 49950 ≤ ce (fun e => isP (od e)) 49982 from cG_ce 5 49950 (by decide) (by decide))
theorem cG_15 : cG 4 49982 = 3 := by decide +kernel
theorem ceo_49998 : 9591 ≤ ce (fun e => isP (od e)) 49998 := Nat.le_trans (by rw [cG_15]; exact Nat.add_le_add_right (ceo_49982) 3) (show ce (fun e => isP (od e)) 49982 + cG 4 49982 ≤ ce (fun e => isP (od e)) 49998 from cG_ce 4 49982 (by decide) (by decide))
theorem cG_16 : cG 1 49998 = 0 := by decide +kernel
theorem ceo_50000 : 9591 ≤ ce (fun e => isP (od e)) 50000 := Nat.le_trans (by rw [cG_16]; exact Nat.add_le_add_right (ceo_49998) 0) (show ce (fun e => isP (od e)) 49998 + cG 1 49998 ≤ ce (fun e => isP (od e)) 50000 from cG_ce 1 49998 (by decide) (by decide))
theorem total0 : 9591 ≤ ce (fun e => isP (od e)) 50000 := ceo_50000
