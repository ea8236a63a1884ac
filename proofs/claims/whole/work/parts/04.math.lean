/-! numbers: congruences, Fermat, the exponent of N = p q, inverses -/
/-- a and b leave the same rest by n -/
def nt_eq (n a b : Nat) : Prop := a % n = b % n
theorem nt_rfl {n a : Nat} : nt_eq n a a := rfl
theorem nt_sym {n a b : Nat} (h : nt_eq n a b) : nt_eq n b a := Eq.symm h
theorem nt_trans {n a b c : Nat} (h : nt_eq n a b) (k : nt_eq n b c) : nt_eq n a c := Eq.trans h k
theorem nt_mod (n a : Nat) : nt_eq n (a % n) a := Nat.mod_mod a n
theorem nt_mul {n a b c d : Nat} (h : nt_eq n a b) (k : nt_eq n c d) : nt_eq n (a * c) (b * d) := by
  unfold nt_eq at *
  rw [Nat.mul_mod, h, k, ← Nat.mul_mod]
theorem nt_add {n a b c d : Nat} (h : nt_eq n a b) (k : nt_eq n c d) : nt_eq n (a + c) (b + d) := by
  unfold nt_eq at *
  rw [Nat.add_mod, h, k, ← Nat.add_mod]
theorem nt_pow {n a b : Nat} (k : Nat) (h : nt_eq n a b) : nt_eq n (a ^ k) (b ^ k) := by
  unfold nt_eq at *
  rw [Nat.pow_mod, h, ← Nat.pow_mod]
theorem nt_iff {n a b : Nat} : nt_eq n a b ↔ (n : Int) ∣ (a : Int) - b := by
  unfold nt_eq
  rw [Int.dvd_iff_emod_eq_zero, ← Int.emod_eq_emod_iff_emod_sub_eq_zero]
  constructor
  · intro h
    rw [← Int.natCast_emod, ← Int.natCast_emod, h]
  · intro h
    rw [← Int.natCast_emod, ← Int.natCast_emod] at h
    omega
theorem nt_iffA {n a b : Nat} : nt_eq n a b ↔ n ∣ ((a : Int) - b).natAbs := by
  rw [nt_iff, Int.ofNat_dvd_left]
theorem nt_cancel {n a b c : Nat} (hc : Nat.Coprime n a) (h : nt_eq n (a * b) (a * c)) : nt_eq n b c := by
  rw [nt_iffA] at h ⊢
  have e : ((a * b : Nat) : Int) - ((a * c : Nat) : Int) = (a : Int) * ((b : Int) - c) := by
    rw [Int.natCast_mul, Int.natCast_mul, Int.mul_sub]
  rw [e, Int.natAbs_mul, Int.natAbs_natCast] at h
  exact hc.dvd_of_dvd_mul_left h
theorem nt_lt {n a b : Nat} (h : nt_eq n a b) (ha : a < n) (hb : b < n) : a = b := by
  unfold nt_eq at h
  rwa [Nat.mod_eq_of_lt ha, Nat.mod_eq_of_lt hb] at h
theorem nt_dvd {m n a b : Nat} (hd : m ∣ n) (h : nt_eq n a b) : nt_eq m a b := by
  rw [nt_iffA] at h ⊢
  exact Nat.dvd_trans hd h
theorem nt_crt {m n a b : Nat} (hc : Nat.Coprime m n) (h : nt_eq m a b) (k : nt_eq n a b) : nt_eq (m * n) a b := by
  rw [nt_iffA] at h k ⊢
  exact hc.mul_dvd_of_dvd_of_dvd h k
theorem nt_pow1 {n a k : Nat} (j : Nat) (h : nt_eq n (a ^ k) 1) : nt_eq n (a ^ (k * j)) 1 := by
  rw [Nat.pow_mul]
  have h1 := nt_pow j h
  rwa [Nat.one_pow] at h1
/-- a prime -/
def nt_P (p : Nat) : Prop := 2 ≤ p ∧ ∀ d, d ∣ p → d = 1 ∨ d = p
theorem nt_P_cop {p a : Nat} (h : nt_P p) (ha : ¬ p ∣ a) : Nat.Coprime p a := by
  rcases h.2 (Nat.gcd p a) (Nat.gcd_dvd_left p a) with e | e
  · exact e
  · have h1 := Nat.gcd_dvd_right p a
    rw [e] at h1
    exact absurd h1 ha
theorem nt_P_ne {p q : Nat} (P : nt_P p) (Q : nt_P q) (h : p ≠ q) : Nat.Coprime p q := by
  refine nt_P_cop P (fun z => ?_)
  rcases Q.2 p z with e | e
  · have := P.1
    omega
  · exact h e
theorem nt_P_mul {p a b : Nat} (P : nt_P p) (h : p ∣ a * b) : p ∣ a ∨ p ∣ b := by
  by_cases ha : p ∣ a
  · exact Or.inl ha
  · exact Or.inr ((nt_P_cop P ha).dvd_of_dvd_mul_left h)
theorem nt_P_pow {p a : Nat} (P : nt_P p) : ∀ k : Nat, p ∣ a ^ k → p ∣ a
  | 0, h => by
    rw [Nat.pow_zero] at h
    have h1 := Nat.le_of_dvd (by decide) h
    have := P.1
    omega
  | k + 1, h => by
    rw [Nat.pow_succ] at h
    rcases nt_P_mul P h with h | h
    · exact nt_P_pow P k h
    · exact h
/-- Pascal's numbers -/
def nt_ch : Nat → Nat → Nat
  | _, 0 => 1
  | 0, _ + 1 => 0
  | n + 1, k + 1 => nt_ch n k + nt_ch n (k + 1)
theorem nt_ch_0 (n : Nat) : nt_ch n 0 = 1 := by cases n <;> simp [nt_ch]
theorem nt_ch_z (k : Nat) : nt_ch 0 (k + 1) = 0 := by simp [nt_ch]
theorem nt_ch_s (n k : Nat) : nt_ch (n + 1) (k + 1) = nt_ch n k + nt_ch n (k + 1) := by simp [nt_ch]
theorem nt_ch_big : ∀ n k : Nat, n < k → nt_ch n k = 0
  | 0, 0, h => absurd h (by omega)
  | _ + 1, 0, h => absurd h (by omega)
  | 0, k + 1, _ => nt_ch_z k
  | n + 1, k + 1, h => by rw [nt_ch_s, nt_ch_big n k (by omega), nt_ch_big n (k + 1) (by omega)]
theorem nt_ch_nn : ∀ n : Nat, nt_ch n n = 1
  | 0 => nt_ch_0 0
  | n + 1 => by rw [nt_ch_s, nt_ch_nn n, nt_ch_big n (n + 1) (by omega)]
theorem nt_ch_mul : ∀ n k : Nat, (n + 1) * nt_ch n k = nt_ch (n + 1) (k + 1) * (k + 1)
  | 0, 0 => by rw [nt_ch_s, nt_ch_0, nt_ch_z]
  | 0, k + 1 => by rw [nt_ch_s, nt_ch_z, nt_ch_z]; simp
  | n + 1, 0 => by
    have h := nt_ch_mul n 0
    rw [nt_ch_0] at h
    rw [nt_ch_s, nt_ch_0]
    omega
  | n + 1, k + 1 => by
    have h1 := nt_ch_mul n k
    have h2 := nt_ch_mul n (k + 1)
    have e1 := nt_ch_s n k
    have e2 := nt_ch_s (n + 1) (k + 1)
    have a1 : (n + 1 + 1) * nt_ch (n + 1) (k + 1) = (n + 1) * nt_ch (n + 1) (k + 1) + nt_ch (n + 1) (k + 1) := Nat.succ_mul _ _
    have a2 : (n + 1) * nt_ch (n + 1) (k + 1) = (n + 1) * nt_ch n k + (n + 1) * nt_ch n (k + 1) := by rw [e1, Nat.mul_add]
    have a3 : nt_ch (n + 1 + 1) (k + 1 + 1) * (k + 1 + 1) = nt_ch (n + 1) (k + 1) * (k + 1 + 1) + nt_ch (n + 1) (k + 1 + 1) * (k + 1 + 1) := by rw [e2, Nat.add_mul]
    have a4 : nt_ch (n + 1) (k + 1) * (k + 1 + 1) = nt_ch (n + 1) (k + 1) * (k + 1) + nt_ch (n + 1) (k + 1) := Nat.mul_succ _ _
    omega
theorem nt_ch_p {p k : Nat} (h : nt_P p) (hk : k + 1 < p) : p ∣ nt_ch p (k + 1) := by
  obtain ⟨n, rfl⟩ : ∃ n, p = n + 1 := ⟨p - 1, by omega⟩
  have h1 := nt_ch_mul n k
  have h2 : (n + 1) ∣ nt_ch (n + 1) (k + 1) * (k + 1) := ⟨nt_ch n k, h1.symm⟩
  have h3 : ¬ (n + 1) ∣ (k + 1) := fun z => by
    have := Nat.le_of_dvd (by omega) z
    omega
  exact (nt_P_cop h h3).dvd_of_dvd_mul_right h2
def nt_bs (a n : Nat) : Nat → Nat
  | 0 => 1
  | k + 1 => nt_bs a n k + nt_ch n (k + 1) * a ^ (k + 1)
theorem nt_bs_0 (a n : Nat) : nt_bs a n 0 = 1 := rfl
theorem nt_bs_k (a n k : Nat) : nt_bs a n (k + 1) = nt_bs a n k + nt_ch n (k + 1) * a ^ (k + 1) := rfl
theorem nt_bs_s (a n : Nat) : ∀ k : Nat, nt_bs a (n + 1) (k + 1) = nt_bs a n (k + 1) + a * nt_bs a n k
  | 0 => by
    rw [nt_bs_k, nt_bs_k, nt_bs_0, nt_bs_0, nt_ch_s, nt_ch_0, Nat.add_mul, Nat.one_mul, Nat.mul_one]
    simp only [Nat.zero_add, Nat.pow_one]
    omega
  | k + 1 => by
    rw [nt_bs_k a (n + 1) (k + 1), nt_bs_s a n k, nt_ch_s n (k + 1), nt_bs_k a n (k + 1)]
    have e : a * nt_bs a n (k + 1) = a * nt_bs a n k + nt_ch n (k + 1) * a ^ (k + 1 + 1) := by
      rw [nt_bs_k, Nat.mul_add, Nat.pow_succ a (k + 1), Nat.mul_comm a (nt_ch n (k + 1) * a ^ (k + 1)), Nat.mul_assoc]
    have e2 : (nt_ch n (k + 1) + nt_ch n (k + 1 + 1)) * a ^ (k + 1 + 1) = nt_ch n (k + 1) * a ^ (k + 1 + 1) + nt_ch n (k + 1 + 1) * a ^ (k + 1 + 1) := Nat.add_mul _ _ _
    omega
theorem nt_binom (a : Nat) : ∀ n : Nat, (a + 1) ^ n = nt_bs a n n
  | 0 => rfl
  | n + 1 => by
    rw [Nat.pow_succ, nt_binom a n, nt_bs_s, nt_bs_k, nt_ch_big n (n + 1) (by omega), Nat.zero_mul, Nat.add_zero, Nat.mul_add, Nat.mul_one, Nat.mul_comm a, Nat.add_comm, Nat.add_zero]
theorem nt_bs_p {p : Nat} (h : nt_P p) (a : Nat) : ∀ k : Nat, k < p → nt_eq p (nt_bs a p k) 1
  | 0, _ => rfl
  | k + 1, hk => by
    have ih := nt_bs_p h a k (by omega)
    obtain ⟨c, hc⟩ := nt_ch_p h hk
    rw [nt_bs_k, hc, Nat.mul_assoc]
    unfold nt_eq at *
    rw [Nat.add_mul_mod_self_left]
    exact ih
theorem nt_flt {p : Nat} (h : nt_P p) : ∀ a : Nat, nt_eq p (a ^ p) a
  | 0 => by
    rw [Nat.zero_pow (by have := h.1; omega)]
    exact rfl
  | a + 1 => by
    have ih := nt_flt h a
    rw [nt_binom]
    obtain ⟨n, rfl⟩ : ∃ n, p = n + 1 := ⟨p - 1, by have := h.1; omega⟩
    rw [nt_bs_k, nt_ch_nn, Nat.one_mul, Nat.add_comm a 1]
    exact nt_add (nt_bs_p h a n (by omega)) ih
theorem nt_fermat {p a : Nat} (h : nt_P p) (ha : ¬ p ∣ a) : nt_eq p (a ^ (p - 1)) 1 := by
  refine nt_cancel (a := a) (nt_P_cop h ha) ?_
  have e : a * a ^ (p - 1) = a ^ p := by
    have h2 : p = (p - 1) + 1 := by have := h.1; omega
    rw [Nat.mul_comm, ← Nat.pow_succ]
    exact congrArg (fun k => a ^ k) h2.symm
  rw [e, Nat.mul_one]
  exact nt_flt h a
/-- N = p q with p = 2 p' + 1, q = 2 q' + 1: a number prime to N to the power of 2 p' q' is 1 -/
theorem nt_euler {p q a b x : Nat} (P : nt_P p) (Q : nt_P q) (hne : p ≠ q) (ep : p = 2 * a + 1) (eq : q = 2 * b + 1) (hp : ¬ p ∣ x) (hq : ¬ q ∣ x) : nt_eq (p * q) (x ^ (2 * (a * b))) 1 := by
  refine nt_crt (nt_P_ne P Q hne) ?_ ?_
  · have h1 := nt_pow1 b (nt_fermat P hp)
    have e : (p - 1) * b = 2 * (a * b) := by rw [ep, Nat.add_sub_cancel, Nat.mul_assoc]
    rwa [e] at h1
  · have h1 := nt_pow1 a (nt_fermat Q hq)
    have e : (q - 1) * a = 2 * (a * b) := by rw [eq, Nat.add_sub_cancel, Nat.mul_assoc, Nat.mul_comm b a]
    rwa [e] at h1
theorem nt_P2 : nt_P 2 := ⟨Nat.le_refl 2, fun d h => by
  have := Nat.le_of_dvd (by decide) h
  match d, h with
  | 0, h => simp at h
  | 1, _ => exact Or.inl rfl
  | 2, _ => exact Or.inr rfl
  | d + 3, _ => omega⟩
/-- of a number prime to 2 a b the power (a - 1)(b - 1) is 1 modulo 2 a b -/
theorem nt_tot {a b e : Nat} (P : nt_P a) (Q : nt_P b) (hne : a ≠ b) (ha : 2 < a) (hb : 2 < b) (h1 : ¬ a ∣ e) (h2 : ¬ b ∣ e) (h3 : ¬ 2 ∣ e) : nt_eq (2 * (a * b)) (e ^ ((a - 1) * (b - 1))) 1 := by
  have c1 : Nat.Coprime a b := nt_P_ne P Q hne
  have c2 : Nat.Coprime 2 (a * b) := Nat.Coprime.mul_right (nt_P_ne nt_P2 P (by omega)) (nt_P_ne nt_P2 Q (by omega))
  refine nt_crt c2 ?_ (nt_crt c1 ?_ ?_)
  · have h := nt_pow1 ((a - 1) * (b - 1)) (nt_fermat nt_P2 h3)
    rwa [show (2 - 1) * ((a - 1) * (b - 1)) = (a - 1) * (b - 1) from Nat.one_mul _] at h
  · exact nt_pow1 (b - 1) (nt_fermat P h1)
  · have h := nt_pow1 (a - 1) (nt_fermat Q h2)
    rwa [Nat.mul_comm (b - 1) (a - 1)] at h
/-- .. so its power (a - 1)(b - 1) - 1 is its inverse -/
theorem nt_inv {a b e : Nat} (P : nt_P a) (Q : nt_P b) (hne : a ≠ b) (ha : 2 < a) (hb : 2 < b) (h1 : ¬ a ∣ e) (h2 : ¬ b ∣ e) (h3 : ¬ 2 ∣ e) : nt_eq (2 * (a * b)) (e * (e ^ ((a - 1) * (b - 1) - 1) % (2 * (a * b)))) 1 := by
  have hk : 1 ≤ (a - 1) * (b - 1) := Nat.mul_le_mul (by omega : 1 ≤ a - 1) (by omega : 1 ≤ b - 1)
  have e1 : e * e ^ ((a - 1) * (b - 1) - 1) = e ^ ((a - 1) * (b - 1)) := by
    rw [Nat.mul_comm, ← Nat.pow_succ]
    congr 1
    omega
  refine nt_trans (nt_mul nt_rfl (nt_mod _ _)) ?_
  rw [e1]
  exact nt_tot P Q hne ha hb h1 h2 h3
/-- inverses are one -/
theorem nt_inv1 {n e s t : Nat} (hs : nt_eq n (e * s) 1) (ht : nt_eq n (e * t) 1) : nt_eq n s t := by
  have h1 : nt_eq n (s * (e * t)) (s * 1) := nt_mul nt_rfl ht
  have h2 : nt_eq n ((e * s) * t) (1 * t) := nt_mul hs nt_rfl
  rw [Nat.mul_one] at h1
  rw [Nat.one_mul] at h2
  have e1 : s * (e * t) = (e * s) * t := by rw [← Nat.mul_assoc, Nat.mul_comm s e]
  rw [e1] at h1
  exact nt_trans (nt_sym h1) h2
/-- exponents may be taken modulo a number k with x^k = 1 -/
theorem nt_exp {n x k a b : Nat} (h : nt_eq n (x ^ k) 1) (hab : nt_eq k a b) : nt_eq n (x ^ a) (x ^ b) := by
  have e : ∀ c : Nat, nt_eq n (x ^ c) (x ^ (c % k)) := fun c => by
    have h1 := nt_pow1 (c / k) h
    have h2 : nt_eq n (x ^ (k * (c / k)) * x ^ (c % k)) (1 * x ^ (c % k)) := nt_mul h1 nt_rfl
    rw [← Nat.pow_add, Nat.one_mul, Nat.div_add_mod] at h2
    exact h2
  have h1 := e a
  have h2 := e b
  unfold nt_eq at hab
  rw [hab] at h1
  exact nt_trans h1 (nt_sym h2)
/-- trial division -/
theorem nt_P_iff {n : Nat} : nt_P n ↔ 2 ≤ n ∧ ∀ d : Nat, 2 ≤ d → d * d ≤ n → n % d ≠ 0 := by
  constructor
  · rintro ⟨h2, h⟩
    refine ⟨h2, fun d hd hdd hz => ?_⟩
    rcases h d (Nat.dvd_of_mod_eq_zero hz) with e | e
    · omega
    · subst e
      have : d * 2 ≤ d * d := Nat.mul_le_mul_left d hd
      omega
  · rintro ⟨h2, h⟩
    refine ⟨h2, fun d hd => ?_⟩
    obtain ⟨k, hk⟩ := hd
    by_cases d1 : d = 1
    · exact Or.inl d1
    · by_cases k1 : k = 1
      · subst k1
        right
        omega
      · exfalso
        have d0 : d ≠ 0 := fun z => by subst z; simp at hk; omega
        have k0 : k ≠ 0 := fun z => by subst z; simp at hk; omega
        by_cases hle : d ≤ k
        · refine h d (by omega) ?_ ?_
          · rw [hk]; exact Nat.mul_le_mul_left d hle
          · rw [hk]; exact Nat.mul_mod_right d k
        · refine h k (by omega) ?_ ?_
          · rw [hk]; exact Nat.mul_le_mul_right k (by omega)
          · rw [hk]; exact Nat.mul_mod_left d k
theorem nt_e_all : (List.range 16384).all (fun d => decide (d < 2) || decide (65537 % d ≠ 0)) = true := by decide +kernel
/-- 65537 has no divisor of 2 .. 16383 -/
theorem nt_e {d : Nat} (h2 : 2 ≤ d) (h : d < 16384) : ¬ d ∣ 65537 := by
  intro hd
  have h1 := List.all_eq_true.mp nt_e_all d (List.mem_range.mpr h)
  have h3 := Nat.mod_eq_zero_of_dvd hd
  simp only [Bool.or_eq_true, decide_eq_true_eq] at h1
  omega
