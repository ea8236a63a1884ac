/-! the reference's inverse -/
section NVI
theorem nv_abs {s t : Int} {k : Nat} (h : (0 ≤ t ∧ s ≤ 0) ∨ (t ≤ 0 ∧ 0 ≤ s)) : (s - k * t).natAbs = s.natAbs + k * t.natAbs := by
  rcases h with h | h
  · have h1 : 0 ≤ (k : Int) * t := Int.mul_nonneg (by omega) h.1
    have h2 : ((k * t.natAbs : Nat) : Int) = (k : Int) * t := by
      rw [Int.natCast_mul, Int.natAbs_of_nonneg h.1]
    omega
  · have h1 : (k : Int) * t ≤ 0 := Int.mul_nonpos_of_nonneg_of_nonpos (by omega) h.1
    have h2 : ((k * t.natAbs : Nat) : Int) = -((k : Int) * t) := by
      rw [Int.natCast_mul, Int.ofNat_natAbs_of_nonpos h.1, Int.mul_neg]
    omega
theorem nv_sum {p q s t : Nat} : (s + p / q * t) * q + t * (p % q) = t * p + s * q := by
  have h1 := Nat.div_add_mod p q
  have h2 : t * p = t * (q * (p / q)) + t * (p % q) := by rw [← Nat.mul_add, h1]
  have h3 : p / q * t * q = t * (q * (p / q)) := by rw [Nat.mul_comm (p / q) t, Nat.mul_assoc, Nat.mul_comm (p / q) q]
  rw [Nat.add_mul, h3]
  omega
theorem nv_loop {xa m : Int64} {x M : Nat} (hm : m.toInt = M) (hM : M ≤ 2147483648) : ∀ (n : Nat) (pv qv sv tv : Int64) (p q : Nat), pv.toInt = p → qv.toInt = q → q < n → q < p → p ≤ M → (M : Int) ∣ sv.toInt * x - p → (M : Int) ∣ tv.toInt * x - q → tv.toInt.natAbs * p + sv.toInt.natAbs * q = M → ((0 ≤ tv.toInt ∧ sv.toInt ≤ 0) ∨ (tv.toInt ≤ 0 ∧ 0 ≤ sv.toInt)) → sv.toInt.natAbs < M → Nat.gcd p q = 1 →
    ∃ r : Nat, (lf_MD_inverse_14 xa m n pv qv sv tv).toInt = r ∧ r < M ∧ (M : Int) ∣ (r : Int) * x - 1 := by
  intro n
  induction n with
  | zero =>
    intro pv qv sv tv p q _ _ h
    omega
  | succ n ih =>
    intro pv qv sv tv p q hp hq hn hqp hpM hs ht hsum hsg hsM hgcd
    rw [lf_MD_inverse_14]
    by_cases h1 : qv = 0
    · rw [if_pos h1]
      rw [h1, show (0 : Int64).toInt = 0 from rfl] at hq
      have h2 : q = 0 := by omega
      rw [h2, Nat.gcd_zero_right] at hgcd
      rw [hgcd] at hs
      have hs : (M : Int) ∣ sv.toInt * x - 1 := hs
      by_cases h3 : (0 : Int64) ≤ sv
      · rw [if_pos h3]
        rw [Int64.le_iff_toInt_le, show (0 : Int64).toInt = 0 from rfl] at h3
        refine ⟨sv.toInt.toNat, by omega, by omega, ?_⟩
        rw [show ((sv.toInt.toNat : Nat) : Int) = sv.toInt by omega]
        exact hs
      · rw [if_neg h3]
        rw [Int64.le_iff_toInt_le, show (0 : Int64).toInt = 0 from rfl] at h3
        have h4 : (sv + m).toInt = sv.toInt + M := by
          rw [Int64.toInt_add, hm]
          exact Int.bmod_eq_of_le (by omega) (by omega)
        refine ⟨(sv.toInt + M).toNat, by omega, by omega, ?_⟩
        rw [show (((sv.toInt + M).toNat : Nat) : Int) = sv.toInt + M by omega]
        have h5 : (sv.toInt + M) * x - 1 = (sv.toInt * x - 1) + M * x := by
          rw [Int.add_mul]
          omega
        rw [h5]
        exact Int.dvd_add hs (Int.dvd_mul_right _ _)
    · rw [if_neg h1]
      have h0 := xi_ne64 h1
      have hq0 : 0 < q := by omega
      have hd := nu_div hp hq
      have hr : (pv - pv / qv * qv).toInt = (p % q : Nat) := nu_rem hp hq
      have hml := Nat.mod_lt p hq0
      have hdm := Nat.div_add_mod p q
      have htp : tv.toInt.natAbs * p ≤ M := by omega
      have hkt : p / q * tv.toInt.natAbs ≤ M := by
        have h2 : p / q ≤ p := Nat.div_le_self p q
        have h3 := Nat.mul_le_mul_right tv.toInt.natAbs h2
        rw [Nat.mul_comm p] at h3
        omega
      have hkt2 : ((p / q : Nat) * tv.toInt : Int).natAbs = p / q * tv.toInt.natAbs := by
        rw [Int.natAbs_mul, Int.natAbs_natCast]
      have hktI : (pv / qv * tv).toInt = (p / q : Nat) * tv.toInt := by
        rw [Int64.toInt_mul, hd]
        exact Int.bmod_eq_of_le (by omega) (by omega)
      have hst : (sv - pv / qv * tv).toInt = sv.toInt - (p / q : Nat) * tv.toInt := by
        rw [Int64.toInt_sub, hktI]
        exact Int.bmod_eq_of_le (by omega) (by omega)
      have habs := nv_abs (k := p / q) hsg
      refine ih qv _ tv _ q (p % q) hq hr (by omega) hml (by omega) ht ?_ ?_ ?_ ?_ ?_
      · rw [hst]
        have e1 : (sv.toInt - (p / q : Nat) * tv.toInt) * x - ((p % q : Nat) : Int) = (sv.toInt * x - p) - (p / q : Nat) * (tv.toInt * x - q) := by
          have h2 : (p : Int) = (q : Int) * ((p / q : Nat) : Int) + ((p % q : Nat) : Int) := by
            rw [← Int.natCast_mul, ← Int.natCast_add, hdm]
          rw [Int.sub_mul, Int.mul_sub, Int.mul_assoc, Int.mul_comm ((p / q : Nat) : Int) (q : Int)]
          omega
        rw [e1]
        exact Int.dvd_sub hs (Int.dvd_trans ht (Int.dvd_mul_left _ _))
      · rw [hst, habs, nv_sum]
        exact hsum
      · rw [hst]
        rcases hsg with h | h
        · have h2 : 0 ≤ ((p / q : Nat) : Int) * tv.toInt := Int.mul_nonneg (Int.natCast_nonneg _) h.1
          exact Or.inr ⟨by omega, h.1⟩
        · have h2 : ((p / q : Nat) : Int) * tv.toInt ≤ 0 := Int.mul_nonpos_of_nonneg_of_nonpos (Int.natCast_nonneg _) h.1
          exact Or.inl ⟨by omega, h.1⟩
      · have h2 : tv.toInt.natAbs * 2 ≤ tv.toInt.natAbs * p := Nat.mul_le_mul_left _ (by omega)
        have h3 : 0 < M := by omega
        omega
      · rw [Nat.gcd_comm p q, Nat.gcd_rec q p, Nat.gcd_comm] at hgcd
        exact hgcd
theorem nv_inverse {xa m : Int64} {x M : Nat} (hx : xa.toInt = x) (hm : m.toInt = M) (h1 : 1 < M) (hM : M ≤ 2147483648) (hc : Nat.gcd x M = 1) : ∃ r : Nat, (f_MD_inverse xa m).toInt = r ∧ r < M ∧ nt_eq M (x * r) 1 := by
  unfold f_MD_inverse
  have hr := nu_rem hx hm
  have hml := Nat.mod_lt x (show 0 < M by omega)
  obtain ⟨r, h2, h3, h4⟩ := nv_loop (xa := xa) (x := x) hm hM ((xa - xa / m * m).toInt.natAbs + 1) m _ 0 1 M (x % M) hm hr (by omega) hml (Nat.le_refl _) (by rw [show (0 : Int64).toInt = 0 from rfl, Int.zero_mul, Int.zero_sub]; exact Int.dvd_neg.mpr (Int.dvd_refl _))
    (by rw [show (1 : Int64).toInt = 1 from rfl, Int.one_mul, Int.natCast_emod]; exact Int.dvd_self_sub_emod) (by rw [show (1 : Int64).toInt = 1 from rfl, show (0 : Int64).toInt = 0 from rfl]; simp) (Or.inl ⟨by decide, by decide⟩) (by rw [show (0 : Int64).toInt = 0 from rfl]; show 0 < M; omega) (by rw [Nat.gcd_comm, ← Nat.gcd_rec, Nat.gcd_comm]; exact hc)
  refine ⟨r, h2, h3, nt_iff.mpr ?_⟩
  rw [Int.natCast_mul, Int.mul_comm]
  exact h4
end NVI
