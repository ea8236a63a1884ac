/-! small numbers: what isSafePrime asks of isPrime -/
theorem xs_small {k : Int32} (h : ¬ (32767 : Int32) < k) : k.toInt ≤ 32767 := by
  rw [Int32.lt_iff_toInt_lt] at h
  have h1 : (32767 : Int32).toInt = 32767 := by decide
  omega
theorem xs_half {k : Int32} (h : ¬ k < (20 : Int32)) (h2 : ¬ (32767 : Int32) < k) : ((k - (1 : Int32)) / (2 : Int32)).toInt ≤ 32767 := by
  rw [Int32.lt_iff_toInt_lt] at h h2
  have h1 : (32767 : Int32).toInt = 32767 := by decide
  have h3 : (20 : Int32).toInt = 20 := by decide
  have h4 : (1 : Int32).toInt = 1 := by decide
  have h5 : (2 : Int32).toInt = 2 := by decide
  have e1 : (k - 1).toInt = k.toInt - 1 := by
    rw [Int32.toInt_sub, h4]
    exact Int.bmod_eq_of_le (by omega) (by omega)
  rw [Int32.toInt_div_of_ne_right _ _ (by decide), e1, h5]
  rw [Int.tdiv_eq_ediv_of_nonneg (by omega)]
  omega
theorem xs_dec {x : Int32} (h : -2147483648 < x.toInt) : (x + (-1 : Int32)).toInt = x.toInt - 1 := by
  rw [Int32.toInt_add]
  have h1 := Int32.toInt_lt x
  have h2 : (-1 : Int32).toInt = -1 := by decide
  rw [h2]
  exact Int.bmod_eq_of_le (by omega) (by omega)
theorem xs_sub1 {x : Int32} (h : -2147483648 < x.toInt) : (x - (1 : Int32)).toInt = x.toInt - 1 := by
  rw [Int32.toInt_sub]
  have h1 := Int32.toInt_lt x
  have h2 : (1 : Int32).toInt = 1 := by decide
  rw [h2]
  exact Int.bmod_eq_of_le (by omega) (by omega)
theorem xs_start {n z : Int32} (h1 : 1 ≤ n.toInt) (h4 : n.toInt ≤ 4) (hz : 0 ≤ z.toInt) : -1 ≤ (n - (1 : Int32)).toInt ∧ (n - (1 : Int32)).toInt < ((6 : Nat) : Int) - 1 ∧ 0 ≤ z.toInt := by
  rw [xs_sub1 (by omega)]
  omega
theorem xs_down {i z : Int32} {n : Nat} (h : ¬ i < 0) (hz : ¬ (24 : Int32) ≤ z) (hmu : -1 ≤ i.toInt ∧ i.toInt < ((n + 1 : Nat) : Int) - 1 ∧ 0 ≤ z.toInt) : -1 ≤ (i + (-1 : Int32)).toInt ∧ (i + (-1 : Int32)).toInt < (n : Int) - 1 ∧ 0 ≤ (z + (1 : Int32)).toInt := by
  rw [Int32.lt_iff_toInt_lt] at h
  rw [Int32.le_iff_toInt_le] at hz
  have e0 : (0 : Int32).toInt = 0 := by decide
  have e1 : (24 : Int32).toInt = 24 := by decide
  rw [xs_dec (by omega), xi_inc (by omega)]
  omega
