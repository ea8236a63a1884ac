/-! which partials are good: both sides say the same -/
section SLE
theorem sh_cop {p q x : Nat} (P : nt_P p) (Q : nt_P q) : Nat.gcd x (p * q) = 1 ↔ ¬ p ∣ x ∧ ¬ q ∣ x := by
  constructor
  · intro h
    refine ⟨fun z => ?_, fun z => ?_⟩
    · have h1 : p ∣ Nat.gcd x (p * q) := Nat.dvd_gcd z (Nat.dvd_mul_right p q)
      rw [h] at h1
      have h2 := Nat.le_of_dvd (by omega) h1
      have h3 := P.1
      omega
    · have h1 : q ∣ Nat.gcd x (p * q) := Nat.dvd_gcd z (Nat.dvd_mul_left q p)
      rw [h] at h1
      have h2 := Nat.le_of_dvd (by omega) h1
      have h3 := Q.1
      omega
  · intro h
    have h1 : Nat.Coprime x p := (nt_P_cop P h.1).symm
    have h2 : Nat.Coprime x q := (nt_P_cop Q h.2).symm
    exact Nat.Coprime.mul_right h1 h2
theorem sh_prime {number pp qq : Int64} {x p q : Nat} (hx : number.toInt = x) (hp : pp.toInt = p) (hq : qq.toInt = q) (p0 : 0 < p) (q0 : 0 < q) : ¬ f_KE_isPrimeToModulus number pp qq = 0 ↔ ¬ p ∣ x ∧ ¬ q ∣ x := by
  have h1 := nu_rest hx hp p0
  have h2 := nu_rest hx hq q0
  have e1 : f_ST_rest number pp = 0 ↔ p ∣ x := by
    constructor
    · intro z
      rw [z, show (0 : Int64).toInt = 0 from rfl] at h1
      exact Nat.dvd_of_mod_eq_zero (by omega)
    · intro z
      refine nu_inj (x := 0) ?_ rfl
      rw [h1, Nat.mod_eq_zero_of_dvd z]
  have e2 : f_ST_rest number qq = 0 ↔ q ∣ x := by
    constructor
    · intro z
      rw [z, show (0 : Int64).toInt = 0 from rfl] at h2
      exact Nat.dvd_of_mod_eq_zero (by omega)
    · intro z
      refine nu_inj (x := 0) ?_ rfl
      rw [h2, Nat.mod_eq_zero_of_dvd z]
  unfold f_KE_isPrimeToModulus
  by_cases c1 : f_ST_rest number pp = 0
  · rw [if_pos c1]
    exact ⟨fun z => absurd rfl z, fun z => absurd (e1.mp c1) z.1⟩
  · rw [if_neg c1]
    by_cases c2 : f_ST_rest number qq = 0
    · rw [if_pos c2]
      exact ⟨fun z => absurd rfl z, fun z => absurd (e2.mp c2) z.2⟩
    · rw [if_neg c2]
      exact ⟨fun _ => ⟨fun z => c1 (e1.mpr z), fun z => c2 (e2.mpr z)⟩, fun _ => by decide⟩
theorem sh_com {signing pp qq : Int64} {shares checks : Nat → Int64} {z_n z_m z_d z_a z_b z_v : Int64} (h : xv_key signing pp qq shares checks z_n z_m z_d z_a z_b z_v) {x : Int64} {X : Nat} (hx : x.toInt = X) : f_MD_common x z_n = 1 ↔ ¬ f_KE_isPrimeToModulus x pp qq = 0 := by
  obtain ⟨a, b, hpq, h1, h2, h3, h4, -⟩ := h
  rw [sh_prime hx h3 h4 (by omega) (by omega), ← sh_cop hpq.1 hpq.2.1]
  have hc := nu_common hx h1
  constructor
  · intro z
    rw [z, show (1 : Int64).toInt = 1 from rfl] at hc
    omega
  · intro z
    exact nu_inj (x := 1) (by rw [hc, z]) rfl
theorem sh_nd {p N v s : Nat} (P : nt_P p) (hN : p ∣ N) (h : ¬ p ∣ v) : ¬ p ∣ v ^ s % N := by
  intro z
  have h1 : p ∣ v ^ s := (Nat.dvd_mod_iff hN).mp z
  have h2 : Nat.Coprime p (v ^ s) := Nat.Coprime.pow_right s (nt_P_cop P h)
  have h3 : p ∣ Nat.gcd p (v ^ s) := Nat.dvd_gcd (Nat.dvd_refl p) h1
  rw [h2] at h3
  have h4 := Nat.le_of_dvd (by omega) h3
  have h5 := P.1
  omega
/-- the inverse of a power, by the exponent of the group, is the reference's inverse -/
theorem sh_inv {signing pp qq : Int64} {shares checks : Nat → Int64} {z_n z_m z_d z_a z_b z_v : Int64} (h : xv_key signing pp qq shares checks z_n z_m z_d z_a z_b z_v) {y c : Int64} {Y C : Nat} (hy : y.toInt = Y) (hc : c.toInt = C) (hC : C ≤ 65535) (hnd : ¬ f_KE_isPrimeToModulus y pp qq = 0) : ∃ r : Nat, (f_MD_inverse (f_MD_raised y c z_n) z_n).toInt = r ∧ (r : Int) < z_n.toInt ∧ f_KE_inversePower y c z_n z_m = f_MD_inverse (f_MD_raised y c z_n) z_n := by
  obtain ⟨a, b, hpq, h1, h2, h3, h4, -⟩ := h
  have hcp := (sh_prime hy h3 h4 (by omega) (by omega)).mp hnd
  obtain ⟨p1, p2, p3, p4⟩ := xv_pos hpq
  have hne : 2 * a + 1 ≠ 2 * b + 1 := fun z => hpq.2.2.1 (by omega)
  have heu := nt_euler hpq.1 hpq.2.1 hne rfl rfl hcp.1 hcp.2
  have h2m : ((2 : Int64) * z_m).toInt = (2 * (a * b) : Nat) := nu_mul (show (2 : Int64).toInt = (2 : Nat) from rfl) h2 (by omega)
  have hneg : (-c).toInt = -(C : Int) := by
    rw [Int64.toInt_neg, hc]
    exact Int.bmod_eq_of_le (by omega) (by omega)
  have he : (f_ST_rest (-c) ((2 : Int64) * z_m)).toInt = (-(C : Int)) % (2 * (a * b) : Nat) := by rw [nu_restI (by rw [h2m]; omega), h2m, hneg]
  have e0 := Int.emod_nonneg (-(C : Int)) (show ((2 * (a * b) : Nat) : Int) ≠ 0 by omega)
  obtain ⟨E, hE⟩ : ∃ E : Nat, (-(C : Int)) % (2 * (a * b) : Nat) = E := ⟨_, (Int.toNat_of_nonneg e0).symm⟩
  rw [hE] at he
  have hEC : nt_eq (2 * (a * b)) (C + E) 0 := by
    rw [nt_iff]
    have h5 := Int.dvd_self_sub_emod (x := -(C : Int)) (m := ((2 * (a * b) : Nat) : Int))
    rw [hE] at h5
    have h6 := Int.dvd_neg.mpr h5
    have h7 : -(-(C : Int) - E) = ((C + E : Nat) : Int) - ((0 : Nat) : Int) := by omega
    rw [h7] at h6
    exact h6
  have hR := nu_raised hy hc h1 (show 0 < (2 * a + 1) * (2 * b + 1) by omega) (by omega)
  have hcopY : Nat.Coprime Y ((2 * a + 1) * (2 * b + 1)) := (sh_cop hpq.1 hpq.2.1).mpr hcp
  have hg : Nat.gcd (Y ^ C % ((2 * a + 1) * (2 * b + 1))) ((2 * a + 1) * (2 * b + 1)) = 1 := by
    rw [← Nat.gcd_rec, Nat.gcd_comm]
    exact Nat.Coprime.pow_left C hcopY
  obtain ⟨r, hr1, hr2, hr3⟩ := nv_inverse hR h1 (by omega) (by omega) hg
  have hP := nu_power hy he h1 (show 0 < (2 * a + 1) * (2 * b + 1) by omega) (by omega)
  have hml := Nat.mod_lt (Y ^ E) (show 0 < (2 * a + 1) * (2 * b + 1) by omega)
  have hPE : nt_eq ((2 * a + 1) * (2 * b + 1)) (Y ^ C % ((2 * a + 1) * (2 * b + 1)) * (Y ^ E % ((2 * a + 1) * (2 * b + 1)))) 1 := by
    have g1 := nt_mul (nt_mod ((2 * a + 1) * (2 * b + 1)) (Y ^ C)) (nt_mod ((2 * a + 1) * (2 * b + 1)) (Y ^ E))
    rw [← Nat.pow_add] at g1
    have g2 := nt_exp heu hEC
    rw [Nat.pow_zero] at g2
    exact nt_trans g1 g2
  have heq := nt_lt (nt_inv1 hPE hr3) hml hr2
  refine ⟨r, hr1, by omega, nu_inj (x := r) ?_ hr1⟩
  unfold f_KE_inversePower f_KE_power
  rw [hP, heq]
theorem sh_v {signing pp qq : Int64} {shares checks : Nat → Int64} {z_n z_m z_d z_a z_b z_v : Int64} (h : xv_key signing pp qq shares checks z_n z_m z_d z_a z_b z_v) : ¬ f_KE_isPrimeToModulus z_v pp qq = 0 := by
  obtain ⟨a, b, hpq, h1, h2, h3, h4, h5, h6, h7, h8, h9, h10, h11, h12, -⟩ := h
  exact (sh_prime (x := z_v.toInt.toNat) (by omega) h3 h4 (by omega) (by omega)).mpr ⟨h11, h12⟩
theorem sh_pw {signing pp qq : Int64} {shares checks : Nat → Int64} {z_n z_m z_d z_a z_b z_v : Int64} (h : xv_key signing pp qq shares checks z_n z_m z_d z_a z_b z_v) {y c : Int64} {Y C : Nat} (hy : y.toInt = Y) (hc : c.toInt = C) (hnd : ¬ f_KE_isPrimeToModulus y pp qq = 0) : ¬ f_KE_isPrimeToModulus (f_MD_raised y c z_n) pp qq = 0 := by
  obtain ⟨a, b, hpq, h1, h2, h3, h4, -⟩ := h
  obtain ⟨p1, p2, p3, p4⟩ := xv_pos hpq
  have hcp := (sh_prime hy h3 h4 (by omega) (by omega)).mp hnd
  have hR := nu_raised hy hc h1 (show 0 < (2 * a + 1) * (2 * b + 1) by omega) (by omega)
  exact (sh_prime hR h3 h4 (by omega) (by omega)).mpr ⟨sh_nd hpq.1 (Nat.dvd_mul_right _ _) hcp.1, sh_nd hpq.2.1 (Nat.dvd_mul_left _ _) hcp.2⟩
theorem sh_sq {signing pp qq : Int64} {shares checks : Nat → Int64} {z_n z_m z_d z_a z_b z_v : Int64} (h : xv_key signing pp qq shares checks z_n z_m z_d z_a z_b z_v) {y : Int64} {Y : Nat} (hy : y.toInt = Y) (hlt : (Y : Int) < z_n.toInt) (hnd : ¬ f_KE_isPrimeToModulus y pp qq = 0) : ¬ f_KE_isPrimeToModulus ((y * y) - (y * y) / z_n * z_n) pp qq = 0 := by
  obtain ⟨a, b, hpq, h1, h2, h3, h4, -⟩ := h
  obtain ⟨p1, p2, p3, p4⟩ := xv_pos hpq
  have hcp := (sh_prime hy h3 h4 (by omega) (by omega)).mp hnd
  have hR := nu_rem (nu_mul hy hy (nu_le (M := (2 * a + 1) * (2 * b + 1)) Y Y (by omega) (by omega) (by omega))) h1
  rw [← Nat.pow_two] at hR
  exact (sh_prime hR h3 h4 (by omega) (by omega)).mpr ⟨sh_nd hpq.1 (Nat.dvd_mul_right _ _) hcp.1, sh_nd hpq.2.1 (Nat.dvd_mul_left _ _) hcp.2⟩
theorem sh_times {u w n : Int64} {U W N : Nat} (hu : u.toInt = U) (hw : w.toInt = W) (hn : n.toInt = N) (h0 : 0 < N) (hM : N ≤ 2147483648) (h1 : U < N) (h2 : W < N) : f_KE_times u w n = (u * w) - (u * w) / n * n := nu_same (nu_mul hu hw (nu_le U W h1 h2 hM)) hn h0
set_option maxHeartbeats 2000000 in
theorem sh_good {signing pp qq : Int64} {shares checks : Nat → Int64} {z_n z_m z_d z_a z_b z_v : Int64} (h : xv_key signing pp qq shares checks z_n z_m z_d z_a z_b z_v) {i motion : Int32} (ht : vp_in i 6) {z_bl z_po z_an : Nat → Int64} {z_pr : Nat → Int32} {pw an : Nat → Int64} {cg : Nat → Int32} (hb2 : 2 ≤ (z_bl motion.toNatClampNeg).toInt) (hbn : (z_bl motion.toNatClampNeg).toInt < z_n.toInt) (e1 : pw i.toNatClampNeg = z_po (((6 : Int32) * motion) + i).toNatClampNeg) (e2 : cg i.toNatClampNeg = z_pr (((6 : Int32) * motion) + i).toNatClampNeg) (e3 : an i.toNatClampNeg = z_an (((6 : Int32) * motion) + i).toNatClampNeg) :
    f_KE_isGood i pw cg an (z_bl motion.toNatClampNeg) z_v checks pp qq z_n z_m = f_MD_good motion i z_n z_m z_d z_a z_b z_v z_bl z_po z_pr z_an := by
  obtain ⟨s1, s2, k, hk, hk9⟩ := sg_share h ht
  rw [f_KE_isGood, f_MD_good, e1, e2, e3, sg_chal, s2]
  generalize z_po (((6 : Int32) * motion) + i).toNatClampNeg = P
  generalize z_pr (((6 : Int32) * motion) + i).toNatClampNeg = c
  generalize z_an (((6 : Int32) * motion) + i).toNatClampNeg = z
  have hx : (z_bl motion.toNatClampNeg).toInt = ((z_bl motion.toNatClampNeg).toInt.toNat : Nat) := by omega
  have c1 := sh_com h hx
  by_cases d1 : f_MD_common (z_bl motion.toNatClampNeg) z_n = 1
  rotate_left
  · rw [if_neg d1]
    have d2 : f_KE_isPrimeToModulus (z_bl motion.toNatClampNeg) pp qq = 0 := Decidable.byContradiction fun w => d1 (c1.mpr w)
    rw [if_pos d2]
    repeat' split
    all_goals rfl
  rw [if_pos d1, if_neg (c1.mp d1), f_KE_isBelowModulus]
  by_cases d3 : P < 0
  · rw [if_pos d3, if_pos d3, if_pos rfl]
  rw [if_neg d3, if_neg d3]
  by_cases d4 : z_n ≤ P
  · rw [if_pos d4, if_pos d4, if_pos rfl]
  rw [if_neg d4, if_neg d4, if_neg (show ¬ (1 : Int32) = 0 by decide)]
  rw [Int64.lt_iff_toInt_lt, show (0 : Int64).toInt = 0 from rfl] at d3
  rw [Int64.le_iff_toInt_le] at d4
  have hP : P.toInt = (P.toInt.toNat : Nat) := by omega
  have c2 := sh_com h hP
  by_cases d5 : c < 0
  · rw [if_pos d5]
    split
    all_goals rfl
  rw [if_neg d5]
  by_cases d6 : (65535 : Int32) < c
  · rw [if_pos d6]
    split
    all_goals rfl
  rw [if_neg d6]
  by_cases d7 : 0 ≤ z
  rotate_left
  · rw [if_neg d7]
    split
    all_goals rfl
  rw [if_pos d7]
  by_cases d8 : f_MD_common P z_n = 1
  rotate_left
  · rw [if_neg d8]
    have d9 : f_KE_isPrimeToModulus P pp qq = 0 := Decidable.byContradiction fun w => d8 (c2.mpr w)
    rw [if_pos d9]
  rw [if_pos d8, if_neg (c2.mp d8), if_neg d5, if_neg d6, if_pos d7]
  rw [Int32.lt_iff_toInt_lt, show (0 : Int32).toInt = 0 from rfl] at d5
  rw [Int32.lt_iff_toInt_lt, show (65535 : Int32).toInt = 65535 from rfl] at d6
  rw [Int64.le_iff_toInt_le, show (0 : Int64).toInt = 0 from rfl] at d7
  have hcN : c.toInt64.toInt = (c.toInt.toNat : Nat) := by
    rw [Int32.toInt_toInt64]
    omega
  have hz : z.toInt = (z.toInt.toNat : Nat) := by omega
  obtain ⟨a, b, d, va, vb, v, N, hpq, hN, k1, k2, k3, k4, k5, k6, k7, k8, k9, k10, k11, k12, k13, k14, k15, k16⟩ := sg_key h
  have hPN : P.toInt.toNat < N := by omega
  have hu := nu_pr hx (show (2880 : Int64).toInt = (2880 : Nat) from rfl) k1 (by omega) (by omega)
  have hun := nu_raised hx (show (2880 : Int64).toInt = (2880 : Nat) from rfl) k1 (by omega) (by omega)
  have hw := sh_times hP hP k1 (by omega) (by omega) hPN hPN
  have hwn := nu_rem (nu_mul hP hP (nu_le _ _ hPN hPN (by omega))) k1
  have hbz := nu_pr k9 hz k1 (by omega) (by omega)
  have hbzn := nu_raised k9 hz k1 (by omega) (by omega)
  have huz := nu_pr hun hz k1 (by omega) (by omega)
  have huzn := nu_raised hun hz k1 (by omega) (by omega)
  have hckn : (f_MD_check i z_n z_m z_d z_a z_b z_v).toInt = (v ^ k % N : Nat) := nu_raised k9 hk k1 (by omega) (by omega)
  have hck : ¬ f_KE_isPrimeToModulus (f_MD_check i z_n z_m z_d z_a z_b z_v) pp qq = 0 := sh_pw h k9 hk (sh_v h)
  have hwp := sh_sq h hP (by omega) (c2.mp d8)
  obtain ⟨r1, q1, q2, q3⟩ := sh_inv h hckn hcN (by omega) hck
  obtain ⟨r2, q4, q5, q6⟩ := sh_inv h hwn hcN (by omega) hwp
  have ho1 := sh_times hbzn q1 k1 (by omega) (by omega) (Nat.mod_lt _ (by omega)) (by omega)
  have ho2 := sh_times huzn q4 k1 (by omega) (by omega) (Nat.mod_lt _ (by omega)) (by omega)
  rw [f_KE_power, f_KE_power, f_KE_power, hu, hbz, huz, hw, q3, q6, ho1, ho2]
end SLE
