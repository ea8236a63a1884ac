/-! the rest of a division, a shift by one: as whole numbers -/
theorem xi_rem64 (x y : Int64) : (x - x / y * y).toInt = x.toInt.tmod y.toInt := by
  rw [Int64.toInt_sub, Int64.toInt_mul, Int64.toInt_div, Int.bmod_mul_bmod, Int.sub_bmod_bmod]
  have h : x.toInt - x.toInt.tdiv y.toInt * y.toInt = x.toInt.tmod y.toInt := by
    have := Int.tmod_def x.toInt y.toInt
    rw [Int.mul_comm] at this
    exact this.symm
  rw [h, ← Int64.toInt_mod, Int64.toInt_bmod]
theorem xi_rem32 (x y : Int32) : (x - x / y * y).toInt = x.toInt.tmod y.toInt := by
  rw [Int32.toInt_sub, Int32.toInt_mul, Int32.toInt_div, Int.bmod_mul_bmod, Int.sub_bmod_bmod]
  have h : x.toInt - x.toInt.tdiv y.toInt * y.toInt = x.toInt.tmod y.toInt := by
    have := Int.tmod_def x.toInt y.toInt
    rw [Int.mul_comm] at this
    exact this.symm
  rw [h, ← Int32.toInt_mod, Int32.toInt_bmod]
theorem xi_ne64 {y : Int64} (h : ¬ y = 0) : y.toInt ≠ 0 := fun z => h (Int64.toInt_inj.mp z)
theorem xi_eu {x y : Int64} {n : Nat} (h : ¬ y = 0) (hmu : y.toInt.natAbs < n + 1) : (x - x / y * y).toInt.natAbs < n := by
  have h0 := xi_ne64 h
  have h1 : (x - x / y * y).toInt.natAbs < y.toInt.natAbs := by
    rw [xi_rem64, Int.natAbs_tmod]
    exact Nat.mod_lt _ (by omega)
  omega
theorem xi_sh1 (k : Int64) : (k >>> ((1 : Int32).toInt64 &&& 63)).toInt = k.toInt / 2 := by
  have e : (1 : Int32).toInt64 &&& 63 = 1 := by decide
  rw [e]
  show (k.toBitVec.sshiftRight' ((1 : Int64).toBitVec.smod 64)).toInt = _
  have e2 : (1 : Int64).toBitVec.smod 64 = 1#64 := by decide
  rw [e2, BitVec.toInt_sshiftRight']
  show k.toInt >>> 1 = k.toInt / 2
  rw [Int.shiftRight_eq_div_pow]
  rfl
theorem xi_sh {k : Int64} {n : Nat} (h : ¬ k ≤ 0) (hmu : k.toInt.toNat < n + 1) : (k >>> ((1 : Int32).toInt64 &&& 63)).toInt.toNat < n := by
  rw [Int64.le_iff_toInt_le] at h
  rw [show (0 : Int64).toInt = 0 from rfl] at h
  rw [xi_sh1]
  omega
theorem xs_half2 {k : Int32} (h : ¬ k < (20 : Int32)) (h2 : ¬ (32767 : Int32) < k) : (k / (2 : Int32)).toInt ≤ 32767 := by
  rw [Int32.lt_iff_toInt_lt] at h h2
  have h1 : (32767 : Int32).toInt = 32767 := by decide
  have h3 : (20 : Int32).toInt = 20 := by decide
  have h5 : (2 : Int32).toInt = 2 := by decide
  rw [Int32.toInt_div_of_ne_right _ _ (by decide), h5, Int.tdiv_eq_ediv_of_nonneg (by omega)]
  omega
theorem xs_6i {m t : Int32} (hm : vp_in m 12) (ht : vp_in t 6) : ((6 : Int32) * m + t).toInt = 6 * m.toInt + t.toInt := by
  have h1 := vp_in_iff.mp hm
  have h2 := vp_in_iff.mp ht
  rw [Int32.toInt_add, xi_mul (by rw [show (6 : Int32).toInt = 6 from rfl]; omega) (by rw [show (6 : Int32).toInt = 6 from rfl]; omega), show (6 : Int32).toInt = 6 from rfl]
  exact Int.bmod_eq_of_le (by omega) (by omega)
theorem xs_72 {m t : Int32} (hm : vp_in m 12) (ht : vp_in t 6) : vp_in ((6 : Int32) * m + t) 72 := by
  have h1 := vp_in_iff.mp hm
  have h2 := vp_in_iff.mp ht
  have h3 := xs_6i hm ht
  exact vp_in_iff.mpr ⟨by omega, by omega⟩
