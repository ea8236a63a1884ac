/-! numbers of the machine as natural numbers: rests, powers, greatest common divisors, inverses -/
section NUM
theorem nu_mul {a b : Int64} {x y : Nat} (ha : a.toInt = x) (hb : b.toInt = y) (h : x * y ≤ 4611686018427387904) : (a * b).toInt = (x * y : Nat) := by
  rw [Int64.toInt_mul, ha, hb, ← Int.natCast_mul]
  exact Int.bmod_eq_of_le (by omega) (by omega)
theorem nu_add {a b : Int64} {x y : Nat} (ha : a.toInt = x) (hb : b.toInt = y) (h : x + y ≤ 4611686018427387904) : (a + b).toInt = (x + y : Nat) := by
  rw [Int64.toInt_add, ha, hb, ← Int.natCast_add]
  exact Int.bmod_eq_of_le (by omega) (by omega)
theorem nu_sub {a b : Int64} {x y : Nat} (ha : a.toInt = x) (hb : b.toInt = y) (h : y ≤ x) (hx : x ≤ 4611686018427387904) : (a - b).toInt = (x - y : Nat) := by
  rw [Int64.toInt_sub, ha, hb]
  rw [Int.bmod_eq_of_le (by omega) (by omega)]
  omega
theorem nu_rem {a b : Int64} {x y : Nat} (ha : a.toInt = x) (hb : b.toInt = y) : (a - a / b * b).toInt = (x % y : Nat) := by
  rw [xi_rem64, ha, hb, Int.tmod_eq_emod_of_nonneg (by omega)]
  exact (Int.natCast_emod x y).symm
theorem nu_div {a b : Int64} {x y : Nat} (ha : a.toInt = x) (hb : b.toInt = y) : (a / b).toInt = (x / y : Nat) := by
  rw [Int64.toInt_div_of_ne_right _ _ (fun z => by rw [z] at hb; rw [show (-1 : Int64).toInt = -1 from rfl] at hb; omega), ha, hb, Int.tdiv_eq_ediv_of_nonneg (by omega)]
  exact (Int.natCast_ediv x y).symm
theorem nu_restI {a b : Int64} (hb : 0 < b.toInt) : (f_ST_rest a b).toInt = a.toInt % b.toInt := by
  unfold f_ST_rest
  have h0 : (0 : Int64) < b := Int64.lt_iff_toInt_lt.mpr hb
  rw [if_pos h0]
  have hr := xi_rem64 a b
  have ht := Int.tmod_eq_emod (a := a.toInt) (b := b.toInt)
  have he := Int.emod_nonneg a.toInt (show b.toInt ≠ 0 by omega)
  have hl := Int.emod_lt_of_pos a.toInt hb
  have hub := Int64.toInt_lt b
  by_cases h1 : (0 : Int64) ≤ a - a / b * b
  · rw [if_pos h1, hr]
    rw [Int64.le_iff_toInt_le, hr, show (0 : Int64).toInt = 0 from rfl] at h1
    split at ht
    · omega
    · omega
  · rw [if_neg h1]
    rw [Int64.le_iff_toInt_le, hr, show (0 : Int64).toInt = 0 from rfl] at h1
    rw [Int64.toInt_add, hr]
    split at ht
    · omega
    · rw [ht, Int.bmod_eq_of_le (by omega) (by omega)]
      omega
theorem nu_rest {a b : Int64} {x y : Nat} (ha : a.toInt = x) (hb : b.toInt = y) (h : 0 < y) : (f_ST_rest a b).toInt = (x % y : Nat) := by
  rw [nu_restI (by omega), ha, hb]
  exact (Int.natCast_emod x y).symm
theorem nu_inj {a b : Int64} {x : Nat} (ha : a.toInt = x) (hb : b.toInt = x) : a = b := Int64.toInt_inj.mp (ha.trans hb.symm)
/-- on numbers that are not below 0 both rests are one -/
theorem nu_same {a b : Int64} {x y : Nat} (ha : a.toInt = x) (hb : b.toInt = y) (h : 0 < y) : f_ST_rest a b = a - a / b * b := nu_inj (nu_rest ha hb h) (nu_rem ha hb)
theorem nu_bit {k : Int64} {x : Nat} (h : k.toInt = x) : ((k &&& (1 : Int64)) = 1) ↔ x % 2 = 1 := by
  have h1 : k.toBitVec.toNat = x := by
    have h2 : k.toBitVec.toInt = (x : Int) := h
    have h3 := BitVec.toInt_eq_toNat_cond k.toBitVec
    have h4 := k.toBitVec.isLt
    rw [h2] at h3
    split at h3
    · omega
    · omega
  rw [← Int64.toBitVec_inj, ← BitVec.toNat_inj]
  have e1 : (k &&& (1 : Int64)).toBitVec.toNat = x % 2 := by
    rw [Int64.toBitVec_and, BitVec.toNat_and, h1]
    exact Nat.and_one_is_mod x
  rw [e1]
  exact Iff.rfl
theorem nu_sh {k : Int64} {x : Nat} (h : k.toInt = x) : (k >>> ((1 : Int32).toInt64 &&& 63)).toInt = (x / 2 : Nat) := by
  rw [xi_sh1, h]
  exact (Int.natCast_ediv x 2).symm
theorem nu_sq {f M k : Nat} (r : Nat) : r * (f * f % M) ^ k % M = r * f ^ (2 * k) % M := by
  have h1 : nt_eq M ((f * f % M) ^ k) ((f * f) ^ k) := nt_pow k (nt_mod M (f * f))
  have h2 : (f * f) ^ k = f ^ (2 * k) := by rw [Nat.pow_mul, Nat.pow_two]
  rw [h2] at h1
  exact nt_mul nt_rfl h1
theorem nu_sq1 {f M k r : Nat} : (r * f % M) * (f * f % M) ^ k % M = r * f ^ (2 * k + 1) % M := by
  have h1 : nt_eq M ((f * f % M) ^ k) ((f * f) ^ k) := nt_pow k (nt_mod M (f * f))
  have h2 : (f * f) ^ k = f ^ (2 * k) := by rw [Nat.pow_mul, Nat.pow_two]
  rw [h2] at h1
  have h3 : nt_eq M (r * f % M * (f * f % M) ^ k) (r * f * f ^ (2 * k)) := nt_mul (nt_mod M (r * f)) h1
  have h4 : r * f * f ^ (2 * k) = r * f ^ (2 * k + 1) := by
    rw [Nat.pow_succ, Nat.mul_assoc, Nat.mul_comm f]
  rw [h4] at h3
  exact h3
theorem nu_le (x y : Nat) {M : Nat} (hx : x < M) (hy : y < M) (hM : M ≤ 2147483648) : x * y ≤ 4611686018427387904 := Nat.le_trans (Nat.mul_le_mul (show x ≤ 2147483648 by omega) (show y ≤ 2147483648 by omega)) (by decide)
theorem nu_raisedL {xa ex m : Int64} {M : Nat} (hm : m.toInt = M) (h0 : 0 < M) (hM : M ≤ 2147483648) : ∀ (n : Nat) (rv fv kv : Int64) (r f k : Nat), rv.toInt = r → fv.toInt = f → kv.toInt = k → r < M → f < M → k < n → (lf_MD_raised_15 xa ex m n rv fv kv).toInt = (r * f ^ k % M : Nat) := by
  intro n
  induction n with
  | zero =>
    intro rv fv kv r f k _ _ _ _ _ h
    omega
  | succ n ih =>
    intro rv fv kv r f k hr hf hk hrM hfM hn
    rw [lf_MD_raised_15]
    have hff := nu_rem (nu_mul hf hf (nu_le f f hfM hfM hM)) hm
    have hrf := nu_rem (nu_mul hr hf (nu_le r f hrM hfM hM)) hm
    by_cases h1 : kv ≤ 0
    · rw [if_pos h1]
      rw [Int64.le_iff_toInt_le, hk, show (0 : Int64).toInt = 0 from rfl] at h1
      have h2 : k = 0 := by omega
      rw [hr, h2, Nat.pow_zero, Nat.mul_one, Nat.mod_eq_of_lt hrM]
    · rw [if_neg h1]
      rw [Int64.le_iff_toInt_le, hk, show (0 : Int64).toInt = 0 from rfl] at h1
      have hs := nu_sh hk
      by_cases h2 : (kv &&& (1 : Int64)) = 1
      · rw [if_pos h2]
        have h3 := (nu_bit hk).mp h2
        rw [ih _ _ _ _ _ _ hrf hff hs (Nat.mod_lt _ h0) (Nat.mod_lt _ h0) (by omega), nu_sq1, show 2 * (k / 2) + 1 = k by omega]
      · rw [if_neg h2]
        have h3 : ¬ k % 2 = 1 := fun z => h2 ((nu_bit hk).mpr z)
        rw [ih _ _ _ _ _ _ hr hff hs hrM (Nat.mod_lt _ h0) (by omega), nu_sq, show 2 * (k / 2) = k by omega]
theorem nu_raised {xa ex m : Int64} {x k M : Nat} (hx : xa.toInt = x) (hk : ex.toInt = k) (hm : m.toInt = M) (h0 : 0 < M) (hM : M ≤ 2147483648) : (f_MD_raised xa ex m).toInt = (x ^ k % M : Nat) := by
  unfold f_MD_raised
  rw [nu_raisedL hm h0 hM _ _ _ _ _ _ _ (nu_rem (a := 1) (x := 1) rfl hm) (nu_rem hx hm) hk (Nat.mod_lt _ h0) (Nat.mod_lt _ h0) (by omega)]
  have h1 : nt_eq M (1 % M * (x % M) ^ k) (1 * x ^ k) := nt_mul (nt_mod M 1) (nt_pow k (nt_mod M x))
  rw [Nat.one_mul] at h1
  rw [show 1 % M * (x % M) ^ k % M = x ^ k % M from h1]
theorem nu_powerL {xa ex m : Int64} {M : Nat} (hm : m.toInt = M) (h0 : 0 < M) (hM : M ≤ 2147483648) : ∀ (n : Nat) (rv fv kv : Int64) (bt : Int32) (r f k c : Nat), rv.toInt = r → fv.toInt = f → kv.toInt = k → bt.toInt = (c : Int) → c + n = 64 → c ≤ 63 → k < 2 ^ (63 - c) → r < M → f < M → (lf_ST_powerModulo_22 xa ex m n rv fv kv bt).toInt = (r * f ^ k % M : Nat) := by
  intro n
  induction n with
  | zero =>
    intro rv fv kv bt r f k c _ _ _ _ hcn hc9
    omega
  | succ n ih =>
    intro rv fv kv bt r f k c hr hf hk hc hcn hc9 hkb hrM hfM
    rw [lf_ST_powerModulo_22]
    have hff := nu_rest (nu_mul hf hf (nu_le f f hfM hfM hM)) hm h0
    have hrf := nu_rest (nu_mul hr hf (nu_le r f hrM hfM hM)) hm h0
    have hz : k = 0 → (rv.toInt = (r * f ^ k % M : Nat)) := fun h2 => by rw [hr, h2, Nat.pow_zero, Nat.mul_one, Nat.mod_eq_of_lt hrM]
    by_cases h63 : (63 : Int32) ≤ bt
    · rw [if_pos h63]
      rw [Int32.le_iff_toInt_le, hc, show (63 : Int32).toInt = 63 from rfl] at h63
      rw [show 63 - c = 0 by omega] at hkb
      exact hz (by omega)
    · rw [if_neg h63]
      rw [Int32.le_iff_toInt_le, hc, show (63 : Int32).toInt = 63 from rfl] at h63
      by_cases h1 : kv ≤ 0
      · rw [if_pos h1]
        rw [Int64.le_iff_toInt_le, hk, show (0 : Int64).toInt = 0 from rfl] at h1
        exact hz (by omega)
      · rw [if_neg h1]
        have hs := nu_sh hk
        have hb : (bt + 1).toInt = ((c + 1 : Nat) : Int) := by
          rw [xi_inc (by omega), hc]
          omega
        have hk2 : k / 2 < 2 ^ (63 - (c + 1)) := by
          have h5 : 2 ^ (63 - c) = 2 ^ (63 - (c + 1)) * 2 := by
            have h6 : 63 - c = (63 - (c + 1)) + 1 := by omega
            rw [h6, Nat.pow_succ]
          omega
        by_cases h2 : (kv &&& (1 : Int64)) = 1
        · rw [if_pos h2]
          have h3 := (nu_bit hk).mp h2
          rw [ih _ _ _ _ _ _ _ _ hrf hff hs hb (by omega) (by omega) hk2 (Nat.mod_lt _ h0) (Nat.mod_lt _ h0), nu_sq1, show 2 * (k / 2) + 1 = k by omega]
        · rw [if_neg h2]
          have h3 : ¬ k % 2 = 1 := fun z => h2 ((nu_bit hk).mpr z)
          rw [ih _ _ _ _ _ _ _ _ hr hff hs hb (by omega) (by omega) hk2 hrM (Nat.mod_lt _ h0), nu_sq, show 2 * (k / 2) = k by omega]
theorem nu_power {xa ex m : Int64} {x k M : Nat} (hx : xa.toInt = x) (hk : ex.toInt = k) (hm : m.toInt = M) (h0 : 0 < M) (hM : M ≤ 2147483648) : (f_ST_powerModulo xa ex m).toInt = (x ^ k % M : Nat) := by
  unfold f_ST_powerModulo
  have hkb : k < 2 ^ (63 - 0) := by
    have h1 := Int64.toInt_lt ex
    rw [hk] at h1
    show k < 9223372036854775808
    omega
  rw [nu_powerL hm h0 hM _ _ _ _ _ _ _ _ 0 (nu_rest (a := 1) (x := 1) rfl hm h0) (nu_rest hx hm h0) hk rfl rfl (by decide) hkb (Nat.mod_lt _ h0) (Nat.mod_lt _ h0)]
  have h1 : nt_eq M (1 % M * (x % M) ^ k) (1 * x ^ k) := nt_mul (nt_mod M 1) (nt_pow k (nt_mod M x))
  rw [Nat.one_mul] at h1
  rw [show 1 % M * (x % M) ^ k % M = x ^ k % M from h1]
theorem nu_pr {xa ex m : Int64} {x k M : Nat} (hx : xa.toInt = x) (hk : ex.toInt = k) (hm : m.toInt = M) (h0 : 0 < M) (hM : M ≤ 2147483648) : f_ST_powerModulo xa ex m = f_MD_raised xa ex m := nu_inj (nu_power hx hk hm h0 hM) (nu_raised hx hk hm h0 hM)
theorem nu_commonL {xa ya : Int64} : ∀ (n : Nat) (pv qv : Int64) (p q : Nat), pv.toInt = p → qv.toInt = q → q < n → (lf_MD_common_6 xa ya n pv qv).toInt = (Nat.gcd p q : Nat) := by
  intro n
  induction n with
  | zero =>
    intro pv qv p q _ _ h
    omega
  | succ n ih =>
    intro pv qv p q hp hq hn
    rw [lf_MD_common_6]
    by_cases h1 : qv = 0
    · rw [if_pos h1, hp]
      rw [h1, show (0 : Int64).toInt = 0 from rfl] at hq
      have h2 : q = 0 := by omega
      rw [h2, Nat.gcd_zero_right]
    · rw [if_neg h1]
      have h0 := xi_ne64 h1
      have hm := Nat.mod_lt p (show 0 < q by omega)
      rw [ih _ _ _ _ hq (nu_rem hp hq) (by omega), Nat.gcd_comm p q, Nat.gcd_rec q p, Nat.gcd_comm]
theorem nu_common {xa ya : Int64} {x y : Nat} (hx : xa.toInt = x) (hy : ya.toInt = y) : (f_MD_common xa ya).toInt = (Nat.gcd x y : Nat) := by
  unfold f_MD_common
  exact nu_commonL _ _ _ _ _ hx hy (by omega)
end NUM
