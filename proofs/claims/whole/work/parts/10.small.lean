/-! small numbers: what isSafePrime asks of isPrime -/
theorem xs_small {k : Int32} (h : ¬ (32767 : Int32) < k) : k.toInt ≤ 32767 := by
  rw [Int32.lt_iff_toInt_lt] at h
  have h1 : (32767 : Int32).toInt = 32767 := by decide
  omega
theorem xs_half {k : Int32} (h : ¬ k < (20 : Int32)) (h2 : ¬ (32767 : Int32) < k) : ((k - (1 : Int32)) / (2 : Int32)).toInt ≤ 32767 := by
  rw [Int32.lt_iff_toInt_lt] at h h2
  have h1 : (32767 : Int32).toInt = 32767 := by decide
  have h3 : (20 : Int32).toInt = 20 := by decide
  have h4 : (1 : Int32).toInt = 1 := by decide
  have h5 : (2 : Int32).toInt = 2 := by decide
  have e1 : (k - 1).toInt = k.toInt - 1 := by
    rw [Int32.toInt_sub, h4]
    exact Int.bmod_eq_of_le (by omega) (by omega)
  rw [Int32.toInt_div_of_ne_right _ _ (by decide), e1, h5]
  rw [Int.tdiv_eq_ediv_of_nonneg (by omega)]
  omega
