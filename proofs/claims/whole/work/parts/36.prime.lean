/-! safe primes: both say the same -/
section NPR
theorem np_L (x : Int32) (h2 : ¬ x < 2) : ∀ (n : Nat) (d : Int32), lf_ST_isPrime_2 x n d = lf_MD_prime_9 x n d := by
  intro n
  induction n with
  | zero => exact fun _ => rfl
  | succ n ih =>
    intro d
    rw [lf_ST_isPrime_2, lf_MD_prime_9, if_neg h2, ih]
theorem np_prime (x : Int32) : f_ST_isPrime x = f_MD_prime x := by
  unfold f_ST_isPrime f_MD_prime
  by_cases h : (2 : Int32) ≤ x
  · rw [if_pos h]
    refine np_L x (fun z => ?_) 200 2
    rw [Int32.le_iff_toInt_le] at h
    rw [Int32.lt_iff_toInt_lt] at z
    omega
  · rw [if_neg h]
    rw [Int32.le_iff_toInt_le, show (2 : Int32).toInt = 2 from rfl] at h
    have h1 : x < 2 * 2 := by
      rw [Int32.lt_iff_toInt_lt, show ((2 : Int32) * 2).toInt = 4 from rfl]
      omega
    have h2 : x < 2 := by
      rw [Int32.lt_iff_toInt_lt, show (2 : Int32).toInt = 2 from rfl]
      omega
    rw [lf_ST_isPrime_2, if_pos h1, if_pos h2]
theorem np_even {x : Int32} (h20 : ¬ x < 20) (h : ¬ (x - x / (2 : Int32) * (2 : Int32)) = 1) : f_MD_prime x = 0 := by
  rw [Int32.lt_iff_toInt_lt, show (20 : Int32).toInt = 20 from rfl] at h20
  have hr := xi_rem32 x 2
  rw [show (2 : Int32).toInt = 2 from rfl, Int.tmod_eq_emod_of_nonneg (by omega)] at hr
  have h0 : x - x / (2 : Int32) * (2 : Int32) = 0 := by
    apply Int32.toInt_inj.mp
    have h1 : (x - x / (2 : Int32) * (2 : Int32)).toInt ≠ 1 := xt_ne h
    rw [show (0 : Int32).toInt = 0 from rfl]
    omega
  unfold f_MD_prime
  have h2 : (2 : Int32) ≤ x := by
    rw [Int32.le_iff_toInt_le, show (2 : Int32).toInt = 2 from rfl]
    omega
  have h4 : ¬ x < (2 : Int32) * 2 := by
    rw [Int32.lt_iff_toInt_lt, show ((2 : Int32) * 2).toInt = 4 from rfl]
    omega
  rw [if_pos h2, lf_MD_prime_9, if_neg h4, if_pos h0]
theorem np_half {x : Int32} (h20 : ¬ x < 20) (h : (x - x / (2 : Int32) * (2 : Int32)) = 1) : (x - (1 : Int32)) / (2 : Int32) = x / (2 : Int32) := by
  rw [Int32.lt_iff_toInt_lt, show (20 : Int32).toInt = 20 from rfl] at h20
  have hr := xi_rem32 x 2
  rw [show (2 : Int32).toInt = 2 from rfl, Int.tmod_eq_emod_of_nonneg (by omega), h, show (1 : Int32).toInt = 1 from rfl] at hr
  apply Int32.toInt_inj.mp
  rw [Int32.toInt_div_of_ne_right _ _ (by decide), Int32.toInt_div_of_ne_right _ _ (by decide), xs_sub1 (by omega), show (2 : Int32).toInt = 2 from rfl, Int.tdiv_eq_ediv_of_nonneg (by omega), Int.tdiv_eq_ediv_of_nonneg (by omega)]
  omega
theorem np_safe (x : Int32) : f_ST_isSafePrime x = f_MD_safe x := by
  unfold f_ST_isSafePrime f_MD_safe
  by_cases h1 : x < 20
  · rw [if_pos h1, if_pos h1]
  · rw [if_neg h1, if_neg h1]
    by_cases h2 : (32767 : Int32) < x
    · rw [if_pos h2, if_pos h2]
    · rw [if_neg h2, if_neg h2, np_prime, np_prime]
      by_cases h3 : (x - x / (2 : Int32) * (2 : Int32)) = 1
      · rw [if_pos h3, np_half h1 h3]
      · rw [if_neg h3, if_pos (np_even h1 h3)]
theorem np_loop {x : Int32} {X : Nat} (hx : x.toInt = X) (hX : X ≤ 32767) : ∀ (n : Nat) (d : Int32) (D : Nat), d.toInt = D → 2 ≤ D → D ≤ 200 → 200 - D < n → ¬ lf_MD_prime_9 x n d = 0 → ∀ e : Nat, D ≤ e → e * e ≤ X → X % e ≠ 0 := by
  intro n
  induction n with
  | zero =>
    intro d D _ _ _ h
    omega
  | succ n ih =>
    intro d D hd h2 h200 hn h e hDe hee
    have hdd : (d * d).toInt = D * D := by
      have h5 : D * D ≤ 200 * 200 := Nat.mul_le_mul h200 h200
      have h6 : ((D * D : Nat) : Int) = (D : Int) * D := Int.natCast_mul D D
      rw [xi_mul (by rw [hd]; omega) (by rw [hd]; omega), hd]
    have hDD : D * D ≤ e * e := Nat.mul_le_mul hDe hDe
    have hcast : ((D * D : Nat) : Int) = (D : Int) * D := Int.natCast_mul D D
    rw [lf_MD_prime_9] at h
    by_cases h3 : x < d * d
    · rw [Int32.lt_iff_toInt_lt, hx, hdd] at h3
      omega
    · rw [if_neg h3] at h
      rw [Int32.lt_iff_toInt_lt, hx, hdd] at h3
      by_cases h4 : (x - x / d * d) = 0
      · rw [if_pos h4] at h
        exact absurd rfl h
      · rw [if_neg h4] at h
        have hr := xi_rem32 x d
        rw [hx, hd, Int.tmod_eq_emod_of_nonneg (by omega)] at hr
        have hD190 : D < 190 := by
          by_cases h9 : D < 190
          · exact h9
          · have : 190 * 190 ≤ D * D := Nat.mul_le_mul (by omega) (by omega)
            omega
        by_cases h5 : e = D
        · subst h5
          intro z
          apply h4
          apply Int32.toInt_inj.mp
          rw [hr, ← Int.natCast_emod, z]
          rfl
        · exact ih (d + 1) (D + 1) (by rw [xi_inc (by omega), hd]; omega) (by omega) (by omega) (by omega) h e (by omega) hee
theorem np_P {x : Int32} {X : Nat} (hx : x.toInt = X) (hX : X ≤ 32767) (h : ¬ f_MD_prime x = 0) : nt_P X := by
  unfold f_MD_prime at h
  by_cases h2 : (2 : Int32) ≤ x
  · rw [if_pos h2] at h
    rw [Int32.le_iff_toInt_le, hx, show (2 : Int32).toInt = 2 from rfl] at h2
    exact nt_P_iff.mpr ⟨by omega, fun d hd hdd => np_loop hx hX 200 2 2 rfl (by omega) (by omega) (by omega) h d hd hdd⟩
  · rw [if_neg h2] at h
    exact absurd rfl h
theorem np_sp {x : Int32} (h : ¬ f_MD_safe x = 0) : ∃ a : Nat, x.toInt = (2 * a + 1 : Nat) ∧ nt_P (2 * a + 1) ∧ nt_P a ∧ 10 ≤ a ∧ a ≤ 16383 ∧ (x / (2 : Int32)).toInt = a := by
  have hB := xs_safeB h
  unfold f_MD_safe at h
  split at h
  · exact absurd rfl h
  · split at h
    · exact absurd rfl h
    · split at h
      · rename_i h3
        split at h
        · exact absurd rfl h
        · rename_i h4
          split at h
          · exact absurd rfl h
          · rename_i h5
            have hr := xi_rem32 x 2
            rw [show (2 : Int32).toInt = 2 from rfl, Int.tmod_eq_emod_of_nonneg (by omega), h3, show (1 : Int32).toInt = 1 from rfl] at hr
            have hd : (x / (2 : Int32)).toInt = x.toInt / 2 := by
              rw [Int32.toInt_div_of_ne_right _ _ (by decide), show (2 : Int32).toInt = 2 from rfl, Int.tdiv_eq_ediv_of_nonneg (by omega)]
            refine ⟨(x.toInt / 2).toNat, by omega, np_P (by omega) (by omega) h4, np_P (by omega) (by omega) h5, by omega, by omega, by omega⟩
      · exact absurd rfl h
end NPR
