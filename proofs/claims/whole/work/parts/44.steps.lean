/-! the steps: parts, deal, refresh -/
section SLG
set_option maxRecDepth 100000 in
theorem so_wF : ∀ m, m < 64 → ∀ i, i < 6 → f_KE_weight (Int32.ofNat m) (Int32.ofNat i) = lb_up (Int32.ofNat m) (Int32.ofNat i) 7 720 1 0 / lb_dn (Int32.ofNat m) (Int32.ofNat i) 7 720 1 0 ∧ -600000 ≤ (f_KE_weight (Int32.ofNat m) (Int32.ofNat i)).toInt ∧ (f_KE_weight (Int32.ofNat m) (Int32.ofNat i)).toInt ≤ 600000 := by decide +kernel
theorem so_w {m i : Int32} (hm : 0 ≤ m.toInt ∧ m.toInt < 64) (hi : vp_in i 6) : f_KE_weight m i = lb_up m i 7 720 1 0 / lb_dn m i 7 720 1 0 ∧ -600000 ≤ (f_KE_weight m i).toInt ∧ (f_KE_weight m i).toInt ≤ 600000 := by
  obtain ⟨j, hj, rfl⟩ := sm_64 hm
  obtain ⟨k, hk, rfl⟩ := sm_6 hi
  exact so_wF j hj k hk
/-- a rest of any sign, made one of none -/
theorem so_r {w z : Int64} {m : Nat} (hm : z.toInt = m) (h0 : 0 < m) (hM : m ≤ 268402689) : (((w - w / z * z) + z) - ((w - w / z * z) + z) / z * z).toInt = w.toInt % m := by
  have h1 := xi_rem64 w z
  have h2 : (w - w / z * z + z).toInt = w.toInt.tmod m + m := by
    rw [Int64.toInt_add, h1, hm]
    have a1 := Int.tmod_lt_of_pos w.toInt (show (0 : Int) < m by omega)
    have a2 := Int.lt_tmod_of_pos w.toInt (show (0 : Int) < m by omega)
    exact Int.bmod_eq_of_le (by omega) (by omega)
  rw [xi_rem64, h2, hm]
  have a2 := Int.lt_tmod_of_pos w.toInt (show (0 : Int) < m by omega)
  rw [Int.tmod_eq_emod_of_nonneg (by omega), Int.add_emod_right, Int.tmod_eq_emod]
  split
  · rw [show ((0 : Nat) : Int) = 0 from rfl, Int.sub_zero, Int.emod_emod]
  · rw [show ((w.toInt % (m : Int) - ((m : Int).natAbs : Int)) % (m : Int)) = (w.toInt % (m : Int) - (m : Int)) % (m : Int) from by rw [Int.natAbs_natCast], Int.sub_emod_right, Int.emod_emod]
theorem so_L {mask : Int32} {shares : Nat → Int64} {z_n z_m z_d z_a z_b : Int64} {m d : Nat} (hk : 0 ≤ mask.toInt ∧ mask.toInt < 64) (hm : z_m.toInt = m) (h0 : 0 < m) (hM : m ≤ 268402689) (hd : z_d.toInt = d) (dm : d < m) (hs : ∀ i : Int32, vp_in i 6 → shares i.toNatClampNeg = f_MD_part i z_m z_d z_a z_b ∧ ∃ x : Nat, x < m ∧ (f_MD_part i z_m z_d z_a z_b).toInt = x) : ∀ (n : Nat) (C S : Int64) (i : Int32) (I : Nat), i.toInt = I → I + n = 7 → C.toInt.natAbs ≤ I * 161041613400000 → S.toInt = C.toInt % m → lf_KE_isWholeBy_5 mask shares z_d z_m n C i = lf_MD_parts_54_0 mask z_n z_m z_d z_a z_b n S i := by
  intro n
  induction n with
  | zero => exact fun _ _ _ _ _ _ _ _ => rfl
  | succ n ih =>
    intro C S i I hi hn hC hS
    rw [lf_KE_isWholeBy_5, lf_MD_parts_54_0]
    by_cases h1 : (6 : Int32) ≤ i
    · rw [if_pos h1, if_pos h1]
      have e1 : f_ST_rest C z_m = S := Int64.toInt_inj.mp (by rw [nu_restI (by omega), hm, hS])
      have e2 : ((720 : Int64) * z_d).toInt = (720 * d : Nat) := nu_mul (by decide) hd (by omega)
      rw [e1, nu_same e2 hm h0]
    · rw [if_neg h1, if_neg h1]
      have h6 : vp_in i 6 := xi_in h1 (by omega) (by decide)
      rw [Int32.le_iff_toInt_le, show (6 : Int32).toInt = 6 from rfl] at h1
      have h2 : (i + 1).toInt = (I + 1 : Nat) := by
        rw [xi_inc (by omega)]
        omega
      have hb := (sm_bit hk h6).1
      by_cases c1 : f_ST_isIn mask i = 0
      · rw [if_pos c1, if_neg (hb.mp c1)]
        exact ih C S _ (I + 1) h2 (by omega) (Nat.le_trans hC (Nat.mul_le_mul_right _ (Nat.le_succ I))) hS
      · have c2 : ((mask >>> (i &&& 31)) &&& (1 : Int32)) = 1 := Classical.byContradiction fun z => c1 (hb.mpr z)
        rw [if_neg c1, if_pos c2]
        obtain ⟨hp, x, hx, hpx⟩ := hs i h6
        obtain ⟨hw, w1, w2⟩ := so_w hk h6
        rw [hp]
        have a1 : ((f_MD_part i z_m z_d z_a z_b).toInt * (f_KE_weight mask i).toInt).natAbs ≤ 268402689 * 600000 := by
          rw [Int.natAbs_mul]
          exact Nat.mul_le_mul (by omega) (by omega)
        have a2 : ((f_MD_part i z_m z_d z_a z_b) * (f_KE_weight mask i)).toInt = (f_MD_part i z_m z_d z_a z_b).toInt * (f_KE_weight mask i).toInt := by
          rw [Int64.toInt_mul]
          exact Int.bmod_eq_of_le (by omega) (by omega)
        have a3 : (C + (f_MD_part i z_m z_d z_a z_b) * (f_KE_weight mask i)).toInt = C.toInt + (f_MD_part i z_m z_d z_a z_b).toInt * (f_KE_weight mask i).toInt := by
          rw [Int64.toInt_add, a2]
          exact Int.bmod_eq_of_le (by omega) (by omega)
        refine ih _ _ _ (I + 1) h2 (by omega) (by rw [a3]; omega) ?_
        rw [← hw]
        have e0 := Int.emod_nonneg (f_KE_weight mask i).toInt (show (m : Int) ≠ 0 by omega)
        have e1 := Int.emod_lt_of_pos (f_KE_weight mask i).toInt (show (0 : Int) < m by omega)
        have f0 := Int.emod_nonneg C.toInt (show (m : Int) ≠ 0 by omega)
        have f1 := Int.emod_lt_of_pos C.toInt (show (0 : Int) < m by omega)
        have b0 := so_r (w := f_KE_weight mask i) hm h0 hM
        have b1 : ((f_KE_weight mask i - f_KE_weight mask i / z_m * z_m + z_m) - (f_KE_weight mask i - f_KE_weight mask i / z_m * z_m + z_m) / z_m * z_m).toInt = (((f_KE_weight mask i).toInt % m).toNat : Nat) := by
          rw [b0]
          omega
        have hxm : x * ((f_KE_weight mask i).toInt % m).toNat ≤ 268402689 * 268402689 := Nat.mul_le_mul (by omega) (by omega)
        have b2 := nu_mul hpx b1 (by omega)
        have b3 := nu_rem (nu_add (show S.toInt = ((C.toInt % m).toNat : Nat) by omega) b2 (by omega)) hm
        refine Eq.trans b3 ?_
        rw [a3, hpx, Int.natCast_emod, Int.natCast_add, Int.natCast_mul, Int.toNat_of_nonneg e0, Int.toNat_of_nonneg f0, Int.emod_add_emod, Int.add_emod, Int.mul_emod x, Int.emod_emod, ← Int.mul_emod, ← Int.add_emod]

theorem sl_parts {t : Nat} {dealt : Int32} {epoch : Int64} {signing : Int64} {pp : Int64} {qq : Int64} {shares : Nat → Int64} {checks : Nat → Int64} {powers : Nat → Nat → Int64} {challenges : Nat → Nat → Int32} {answers : Nat → Nat → Int64} {z_n : Int64} {z_m : Int64} {z_d : Int64} {z_a : Int64} {z_b : Int64} {z_v : Int64} {z_ep : Int32} {z_su : Int32} {z_by : Int32} {z_mo : Int32} {z_st : Nat → Int32} {z_bl : Nat → Int64} {z_fi : Nat → Int32} {z_ob : Nat → Int32} {z_po : Nat → Int64} {z_pr : Nat → Int32} {z_an : Nat → Int64} {z_bk : Int32} {outf : Nat → Int64} {mask : Int32} (hI : xv_I t dealt epoch signing pp qq shares checks powers challenges answers z_n z_m z_d z_a z_b z_v z_ep z_su z_by z_mo z_st z_bl z_fi z_ob z_po z_pr z_an z_bk) : f_MD_parts_thrownCode mask z_n z_m z_d z_a z_b = xh_c xt_IA xt_IS (g_ST_parts mask dealt) ∧ (xh_c xt_IA xt_IS (g_ST_parts mask dealt) = 0 → (xt_el (g_ST_parts mask dealt) outf (vp_updL outf (0 : Int32).toNatClampNeg (if f_ST_parts mask dealt z_d z_m shares = 0 then (0 : Int64) else (1 : Int64)))) (0 : Int32).toNatClampNeg = (if f_MD_parts mask z_n z_m z_d z_a z_b = 0 then (0 : Int64) else (1 : Int64))) ∧ xv_I (t + 1) dealt epoch signing pp qq shares checks powers challenges answers z_n z_m z_d z_a z_b z_v z_ep z_su z_by z_mo z_st z_bl z_fi z_ob z_po z_pr z_an z_bk := by
  by_cases h0 : mask < 0
  · have hg : g_ST_parts mask dealt = some xt_IA := by rw [g_ST_parts, if_pos h0]
    rw [hg, f_MD_parts_thrownCode, if_pos h0]
    exact ⟨xh_e1.symm, fun z => absurd (xh_e1.symm.trans z) (by decide), xv_up hI⟩
  by_cases h1 : (64 : Int32) ≤ mask
  · have h2 : (63 : Int32) < mask := by
      rw [Int32.le_iff_toInt_le, show (64 : Int32).toInt = 64 from rfl] at h1
      rw [Int32.lt_iff_toInt_lt, show (63 : Int32).toInt = 63 from rfl]
      omega
    have hg : g_ST_parts mask dealt = some xt_IA := by rw [g_ST_parts, if_neg h0, if_pos h1]
    rw [hg, f_MD_parts_thrownCode, if_neg h0, if_pos h2]
    exact ⟨xh_e1.symm, fun z => absurd (xh_e1.symm.trans z) (by decide), xv_up hI⟩
  have h2 : ¬ (63 : Int32) < mask := by
    rw [Int32.le_iff_toInt_le, show (64 : Int32).toInt = 64 from rfl] at h1
    rw [Int32.lt_iff_toInt_lt, show (63 : Int32).toInt = 63 from rfl]
    omega
  have hk : 0 ≤ mask.toInt ∧ mask.toInt < 64 := by
    have := xm_mask h0 h2
    omega
  have hc := sm_cnt hk
  by_cases h3 : f_MD_bits mask = 3
  · rcases sd_k hI with ⟨k1, k2, k3⟩ | ⟨k1, k2, k3⟩
    · have hg : g_ST_parts mask dealt = some xt_IS := by rw [g_ST_parts, if_neg h0, if_neg h1, if_pos (hc.trans h3), k2, sd_rk0]; rfl
      rw [hg, f_MD_parts_thrownCode, if_neg h0, if_neg h2, if_pos h3, if_pos k1]
      exact ⟨(xh_e2 (by decide)).symm, fun z => absurd ((xh_e2 (by decide)).symm.trans z) (by decide), xv_up hI⟩
    · have hg : g_ST_parts mask dealt = none := by rw [g_ST_parts, if_neg h0, if_neg h1, if_pos (hc.trans h3), k2, sd_rk1]; rfl
      rw [hg, f_MD_parts_thrownCode, if_neg h0, if_neg h2, if_pos h3, if_neg k1]
      refine ⟨rfl, fun _ => ?_, xv_up hI⟩
      have hs := k3
      obtain ⟨a, b, d, va, vb, v, N, hpq, -, -, hm, hd, dm, ha, am, hb, bm, -, -, -, -, m1, m2, -, -⟩ := sg_key k3
      obtain ⟨-, -, -, -, -, -, -, -, -, -, -, -, -, -, -, -, -, -, -, hsh⟩ := hs
      have hL := so_L (mask := mask) (shares := shares) (z_n := z_n) (z_a := z_a) (z_b := z_b) hk hm (by omega) m2 hd dm (fun i hi => by
        have hi2 := vp_in_iff.mp hi
        have hj : i.toNatClampNeg < 6 := by
          show i.toInt.toNat < 6
          omega
        have h8 := (hsh i.toNatClampNeg hj).1
        rw [sx_6 hi] at h8
        exact ⟨h8, _, Nat.mod_lt _ (by omega), sg_part (I := i.toNatClampNeg) (by show i.toInt = (i.toInt.toNat : Nat); omega) hj hm hd ha hb dm am bm m2⟩) 7 0 0 0 0 rfl rfl (by decide) (by rw [show (0 : Int64).toInt = 0 from rfl, Int.zero_emod])
      have e1 : f_ST_parts mask dealt z_d z_m shares = f_MD_parts mask z_n z_m z_d z_a z_b := by
        rw [f_ST_parts, if_neg h0, if_neg h1, if_pos (hc.trans h3), k2, sd_rk1, f_MD_parts, if_neg h0, if_neg h2, if_pos h3, if_neg k1]
        exact hL
      rw [e1]
      rfl
  · have hg : g_ST_parts mask dealt = some xt_IA := by rw [g_ST_parts, if_neg h0, if_neg h1, if_neg (fun z => h3 (hc.symm.trans z))]
    rw [hg, f_MD_parts_thrownCode, if_neg h0, if_neg h2, if_neg h3]
    exact ⟨xh_e1.symm, fun z => absurd (xh_e1.symm.trans z) (by decide), xv_up hI⟩
theorem sq_of {i : Int32} {I : Nat} (h : i.toInt = I) (h6 : I < 6) : i.toNatClampNeg = I ∧ Int32.ofNat I = i := by
  have h1 : i.toNatClampNeg = I := by
    show i.toInt.toNat = I
    omega
  refine ⟨h1, ?_⟩
  rw [← h1]
  exact sx_6 (vp_in_iff.mpr ⟨by omega, by omega⟩)
theorem sq_0 {a b base modulus order : Int64} {shares checks : Nat → Int64} : ∀ (n : Nat) (i : Int32) (I : Nat) (s c : Nat → Int64), i.toInt = I → I ≤ 6 → I + n = 7 → ∀ j, (j < I ∨ 6 ≤ j → lf_KE_addPolynomial_3_0 a b base modulus order shares checks n i s c j = s j ∧ lf_KE_addPolynomial_3_1 a b base modulus order shares checks n i s c j = c j) ∧ (I ≤ j → j < 6 → lf_KE_addPolynomial_3_0 a b base modulus order shares checks n i s c j = f_ST_rest (((s j) + (a * ((Int32.ofNat j + (1 : Int32)).toInt64))) + ((b * ((Int32.ofNat j + (1 : Int32)).toInt64)) * ((Int32.ofNat j + (1 : Int32)).toInt64))) order ∧ lf_KE_addPolynomial_3_1 a b base modulus order shares checks n i s c j = f_KE_power base (f_ST_rest (((s j) + (a * ((Int32.ofNat j + (1 : Int32)).toInt64))) + ((b * ((Int32.ofNat j + (1 : Int32)).toInt64)) * ((Int32.ofNat j + (1 : Int32)).toInt64))) order) modulus) := by
  intro n
  induction n with
  | zero => exact fun i I s c hi h6 hn j => by omega
  | succ n ih =>
    intro i I s c hi h6 hn j
    rw [lf_KE_addPolynomial_3_0, lf_KE_addPolynomial_3_1]
    by_cases h1 : (6 : Int32) ≤ i
    · rw [if_pos h1, if_pos h1]
      rw [Int32.le_iff_toInt_le, show (6 : Int32).toInt = 6 from rfl] at h1
      exact ⟨fun h => ⟨rfl, rfl⟩, fun h h2 => by omega⟩
    · rw [if_neg h1, if_neg h1]
      rw [Int32.le_iff_toInt_le, show (6 : Int32).toInt = 6 from rfl] at h1
      have h2 : (i + 1).toInt = (I + 1 : Nat) := by
        rw [xi_inc (by omega)]
        omega
      obtain ⟨e1, e2⟩ := sq_of hi (by omega)
      rw [e1, ← e2, sm_v1]
      rw [← e2] at h2
      have hh := ih (Int32.ofNat I + 1) (I + 1) (vp_updL s I (f_ST_rest (((s I) + (a * ((Int32.ofNat I + (1 : Int32)).toInt64))) + ((b * ((Int32.ofNat I + (1 : Int32)).toInt64)) * ((Int32.ofNat I + (1 : Int32)).toInt64))) order)) (vp_updL c I (f_KE_power base (f_ST_rest (((s I) + (a * ((Int32.ofNat I + (1 : Int32)).toInt64))) + ((b * ((Int32.ofNat I + (1 : Int32)).toInt64)) * ((Int32.ofNat I + (1 : Int32)).toInt64))) order) modulus)) h2 (by omega) (by omega) j
      by_cases hj : j = I
      · subst hj
        obtain ⟨g1, g2⟩ := hh.1 (Or.inl (by omega))
        rw [g1, g2, sm_v1, sm_v1]
        exact ⟨fun h => by omega, fun _ _ => ⟨rfl, rfl⟩⟩
      · rw [sm_v2 _ _ hj, sm_v2 _ _ hj] at hh
        exact ⟨fun h => hh.1 (by omega), fun h h3 => hh.2 (by omega) h3⟩
theorem sq_b {newP newQ root : Int64} {shares : Nat → Int64} : ∀ (n : Nat) (i : Int32) (I : Nat) (s : Nat → Int64), i.toInt = I → I ≤ 6 → I + n = 7 → ∀ j, (j < I → lf_KE_begin_129_9 newP newQ root shares n i s j = s j) ∧ (I ≤ j → j < 6 → lf_KE_begin_129_9 newP newQ root shares n i s j = f_KE_begin_whole newP newQ root) := by
  intro n
  induction n with
  | zero => exact fun i I s hi h6 hn j => by omega
  | succ n ih =>
    intro i I s hi h6 hn j
    rw [lf_KE_begin_129_9]
    by_cases h1 : (6 : Int32) ≤ i
    · rw [if_pos h1]
      rw [Int32.le_iff_toInt_le, show (6 : Int32).toInt = 6 from rfl] at h1
      exact ⟨fun h => rfl, fun h h2 => by omega⟩
    · rw [if_neg h1]
      rw [Int32.le_iff_toInt_le, show (6 : Int32).toInt = 6 from rfl] at h1
      have h2 : (i + 1).toInt = (I + 1 : Nat) := by
        rw [xi_inc (by omega)]
        omega
      obtain ⟨e1, e2⟩ := sq_of hi (by omega)
      rw [e1]
      have hh := ih (i + 1) (I + 1) (vp_updL s I (f_KE_begin_whole newP newQ root)) h2 (by omega) (by omega) j
      by_cases hj : j = I
      · subst hj
        have g1 := hh.1 (by omega)
        rw [sm_v1] at g1
        exact ⟨fun h => by omega, fun _ _ => g1⟩
      · rw [sm_v2 _ _ hj] at hh
        exact ⟨fun h => hh.1 (by omega), fun h h3 => hh.2 (by omega) h3⟩
theorem sq_t {I : Nat} (h : I < 6) : ((Int32.ofNat I + (1 : Int32)).toInt64).toInt = (I + 1 : Nat) := by
  rcases (show I = 0 ∨ I = 1 ∨ I = 2 ∨ I = 3 ∨ I = 4 ∨ I = 5 by omega) with rfl | rfl | rfl | rfl | rfl | rfl <;> decide
theorem sq_s {s a b order : Int64} {I S A B m : Nat} (hI : I < 6) (hs : s.toInt = S) (ha : a.toInt = A) (hb : b.toInt = B) (hm : order.toInt = m) (h0 : 0 < m) (hS : S ≤ 2147483648) (hA : A ≤ 2147483648) (hB : B ≤ 2147483648) : (f_ST_rest (((s) + (a * ((Int32.ofNat I + (1 : Int32)).toInt64))) + ((b * ((Int32.ofNat I + (1 : Int32)).toInt64)) * ((Int32.ofNat I + (1 : Int32)).toInt64))) order).toInt = ((S + A * (I + 1) + B * (I + 1) * (I + 1)) % m : Nat) := by
  have ht := sq_t hI
  have h1 : A * (I + 1) ≤ 2147483648 * 6 := Nat.mul_le_mul hA (by omega)
  have h2 : B * (I + 1) ≤ 2147483648 * 6 := Nat.mul_le_mul hB (by omega)
  have h3 : B * (I + 1) * (I + 1) ≤ 2147483648 * 6 * 6 := Nat.mul_le_mul h2 (by omega)
  exact nu_rest (nu_add (nu_add hs (nu_mul ha ht (by omega)) (by omega)) (nu_mul (nu_mul hb ht (by omega)) ht (by omega)) (by omega)) hm h0
theorem sq_m {m d A B t : Nat} : nt_eq m (d + A * t + B * t * t) (d + A % m * t + B % m * t % m * t) :=
  nt_add (nt_add nt_rfl (nt_mul (nt_sym (nt_mod m A)) nt_rfl)) (nt_mul (nt_sym (nt_trans (nt_mod m _) (nt_mul (nt_mod m B) nt_rfl))) nt_rfl)
theorem sq_r {m d a b A B t : Nat} : nt_eq m ((d + a * t + b * t % m * t) % m + A * t + B * t * t) (d + (a + A) % m * t + (b + B) % m * t % m * t) := by
  refine nt_trans (nt_add (nt_add (nt_trans (nt_mod m _) (nt_add nt_rfl (nt_mul (nt_mod m _) nt_rfl))) nt_rfl) nt_rfl) (nt_trans ?_ sq_m)
  have e : d + a * t + b * t * t + A * t + B * t * t = d + (a + A) * t + (b + B) * t * t := by
    rw [Nat.add_mul, Nat.add_mul b B t, Nat.add_mul]
    omega
  rw [e]
  exact nt_rfl
/-- new parts: what the class keeps is what the reference says -/
theorem sq_new {a b base modulus order z_n z_m z_d z_a z_b z_v : Int64} {shares checks : Nat → Int64} {m d va vb v N A B : Nat} {S : Nat → Nat} (hm : z_m.toInt = m) (h0 : 0 < m) (hM : m ≤ 268402689) (hd : z_d.toInt = d) (dm : d < m) (hza : z_a.toInt = va) (am : va < m) (hzb : z_b.toInt = vb) (bm : vb < m) (hv : z_v.toInt = v) (hn : z_n.toInt = N) (n0 : 0 < N) (hN : N ≤ 1073676289) (ha : a.toInt = A) (hA : A ≤ 2147483648) (hb : b.toInt = B) (hB : B ≤ 2147483648) (hs : ∀ i, i < 6 → (shares i).toInt = S i ∧ S i < m) (he : ∀ i, i < 6 → nt_eq m (S i + A * (i + 1) + B * (i + 1) * (i + 1)) (d + va * (i + 1) + vb * (i + 1) % m * (i + 1))) (eo : order = z_m) (en : modulus = z_n) (ev : base = z_v) : ∀ i, i < 6 → f_KE_addPolynomial_SH a b base modulus order shares checks i = f_MD_part (Int32.ofNat i) z_m z_d z_a z_b ∧ f_KE_addPolynomial_CH a b base modulus order shares checks i = f_MD_check (Int32.ofNat i) z_n z_m z_d z_a z_b z_v := by
  intro i hi
  subst eo en ev
  have hh := (sq_0 (a := a) (b := b) (base := base) (modulus := modulus) (order := order) (shares := shares) (checks := checks) 7 0 0 shares checks rfl (by omega) rfl i).2 (by omega) hi
  obtain ⟨s1, s2⟩ := hs i hi
  have h1 := sq_s (I := i) hi s1 ha hb hm h0 (by omega) hA hB
  have hi2 : (Int32.ofNat i).toInt = (i : Int) := by
    rcases (show i = 0 ∨ i = 1 ∨ i = 2 ∨ i = 3 ∨ i = 4 ∨ i = 5 by omega) with rfl | rfl | rfl | rfl | rfl | rfl <;> decide
  have h2 := sg_part hi2 hi hm hd hza hzb dm am bm hM
  have h3 : (S i + A * (i + 1) + B * (i + 1) * (i + 1)) % m = (d + va * (i + 1) + vb * (i + 1) % m * (i + 1)) % m := he i hi
  rw [h3] at h1
  have h4 := nu_inj h1 h2
  refine ⟨hh.1.trans h4, hh.2.trans ?_⟩
  rw [h4]
  exact nu_pr hv h2 hn n0 (by omega)
def sr_ok (p_ q_ na nb_ root_ : Int32) : Prop := ¬ (f_MD_safe p_) = 0 ∧ ¬ (f_MD_safe q_) = 0 ∧ ¬ p_ = q_ ∧ ¬ na < 0 ∧ ¬ nb_ < 0 ∧ ¬ root_ < (2 : Int32) ∧ ¬ ((p_ * q_) - (2 : Int32)) < root_ ∧ ¬ (root_ - root_ / p_ * p_) = 0 ∧ ¬ (root_ - root_ / q_ * q_) = 0
theorem sr_M1 {α : Type} {p_ q_ na nb_ root_ : Int32} (h : sr_ok p_ q_ na nb_ root_) (x y : α) : (if (f_MD_safe p_) = 0 then x else (if (f_MD_safe q_) = 0 then x else (if p_ = q_ then x else (if na < 0 then x else (if nb_ < 0 then x else (if root_ < (2 : Int32) then x else (if ((p_ * q_) - (2 : Int32)) < root_ then x else (if (root_ - root_ / p_ * p_) = 0 then x else (if (root_ - root_ / q_ * q_) = 0 then x else y))))))))) = y := by
  obtain ⟨h1, h2, h3, h4, h5, h6, h7, h8, h9⟩ := h
  rw [if_neg h1, if_neg h2, if_neg h3, if_neg h4, if_neg h5, if_neg h6, if_neg h7, if_neg h8, if_neg h9]
theorem sr_M0 {α : Type} {p_ q_ na nb_ root_ : Int32} (h : ¬ sr_ok p_ q_ na nb_ root_) (x y : α) : (if (f_MD_safe p_) = 0 then x else (if (f_MD_safe q_) = 0 then x else (if p_ = q_ then x else (if na < 0 then x else (if nb_ < 0 then x else (if root_ < (2 : Int32) then x else (if ((p_ * q_) - (2 : Int32)) < root_ then x else (if (root_ - root_ / p_ * p_) = 0 then x else (if (root_ - root_ / q_ * q_) = 0 then x else y))))))))) = x := by
  by_cases h0 : (f_MD_safe p_) = 0
  · rw [if_pos h0]
  rw [if_neg h0]
  by_cases h1 : (f_MD_safe q_) = 0
  · rw [if_pos h1]
  rw [if_neg h1]
  by_cases h2 : p_ = q_
  · rw [if_pos h2]
  rw [if_neg h2]
  by_cases h3 : na < 0
  · rw [if_pos h3]
  rw [if_neg h3]
  by_cases h4 : nb_ < 0
  · rw [if_pos h4]
  rw [if_neg h4]
  by_cases h5 : root_ < (2 : Int32)
  · rw [if_pos h5]
  rw [if_neg h5]
  by_cases h6 : ((p_ * q_) - (2 : Int32)) < root_
  · rw [if_pos h6]
  rw [if_neg h6]
  by_cases h7 : (root_ - root_ / p_ * p_) = 0
  · rw [if_pos h7]
  rw [if_neg h7]
  by_cases h8 : (root_ - root_ / q_ * q_) = 0
  · rw [if_pos h8]
  rw [if_neg h8]
  exact absurd ⟨h0, h1, h2, h3, h4, h5, h6, h7, h8⟩ h
theorem sr_b {b : Int32} : 0 ≤ b ↔ ¬ b < 0 := by
  rw [Int32.le_iff_toInt_le, Int32.lt_iff_toInt_lt]
  omega
theorem sr_C1 {α : Type} {p_ q_ na nb_ root_ : Int32} (h : sr_ok p_ q_ na nb_ root_) (x y : α) : (if (f_ST_isSafePrime p_) = 0 then x else (if (f_ST_isSafePrime q_) = 0 then x else (if p_ = q_ then x else (if na < 0 then x else (if 0 ≤ nb_ then (if root_ < (2 : Int32) then x else (if ((p_ * q_) - (2 : Int32)) < root_ then x else (if (root_ - root_ / p_ * p_) = 0 then x else (if (root_ - root_ / q_ * q_) = 0 then x else y)))) else x))))) = y := by
  obtain ⟨h1, h2, h3, h4, h5, h6, h7, h8, h9⟩ := h
  rw [np_safe, np_safe, if_neg h1, if_neg h2, if_neg h3, if_neg h4, if_pos (sr_b.mpr h5), if_neg h6, if_neg h7, if_neg h8, if_neg h9]
theorem sr_C0 {α : Type} {p_ q_ na nb_ root_ : Int32} (h : ¬ sr_ok p_ q_ na nb_ root_) (x y : α) : (if (f_ST_isSafePrime p_) = 0 then x else (if (f_ST_isSafePrime q_) = 0 then x else (if p_ = q_ then x else (if na < 0 then x else (if 0 ≤ nb_ then (if root_ < (2 : Int32) then x else (if ((p_ * q_) - (2 : Int32)) < root_ then x else (if (root_ - root_ / p_ * p_) = 0 then x else (if (root_ - root_ / q_ * q_) = 0 then x else y)))) else x))))) = x := by
  rw [np_safe, np_safe]
  by_cases h0 : (f_MD_safe p_) = 0
  · rw [if_pos h0]
  rw [if_neg h0]
  by_cases h1 : (f_MD_safe q_) = 0
  · rw [if_pos h1]
  rw [if_neg h1]
  by_cases h2 : p_ = q_
  · rw [if_pos h2]
  rw [if_neg h2]
  by_cases h3 : na < 0
  · rw [if_pos h3]
  rw [if_neg h3]
  by_cases h4 : nb_ < 0
  · rw [if_neg (fun z => sr_b.mp z h4)]
  rw [if_pos (sr_b.mpr h4)]
  by_cases h5 : root_ < (2 : Int32)
  · rw [if_pos h5]
  rw [if_neg h5]
  by_cases h6 : ((p_ * q_) - (2 : Int32)) < root_
  · rw [if_pos h6]
  rw [if_neg h6]
  by_cases h7 : (root_ - root_ / p_ * p_) = 0
  · rw [if_pos h7]
  rw [if_neg h7]
  by_cases h8 : (root_ - root_ / q_ * q_) = 0
  · rw [if_pos h8]
  rw [if_neg h8]
  exact absurd ⟨h0, h1, h2, h3, h4, h5, h6, h7, h8⟩ h
theorem sr_key {p_ q_ a b root_ : Int32} {shares checks : Nat → Int64} (h : sr_ok p_ q_ a b root_) : f_KE_begin_base p_.toInt64 q_.toInt64 root_.toInt64 = (root_.toInt64 * root_.toInt64) - (root_.toInt64 * root_.toInt64) / ((p_ * q_).toInt64) * ((p_ * q_).toInt64) ∧ f_KE_begin_whole p_.toInt64 q_.toInt64 root_.toInt64 = f_MD_inverse (65537 : Int64) (((p_ / (2 : Int32)).toInt64) * ((q_ / (2 : Int32)).toInt64)) ∧ f_KE_begin_modulus p_.toInt64 q_.toInt64 root_.toInt64 = ((p_ * q_).toInt64) ∧ f_KE_begin_order p_.toInt64 q_.toInt64 root_.toInt64 = (((p_ / (2 : Int32)).toInt64) * ((q_ / (2 : Int32)).toInt64)) ∧
    xv_key (f_KE_begin_signing p_.toInt64 q_.toInt64 root_.toInt64) p_.toInt64 q_.toInt64 (f_KE_addPolynomial_SH a.toInt64 b.toInt64 (f_KE_begin_base p_.toInt64 q_.toInt64 root_.toInt64) (f_KE_begin_modulus p_.toInt64 q_.toInt64 root_.toInt64) (f_KE_begin_order p_.toInt64 q_.toInt64 root_.toInt64) (f_KE_begin_SH p_.toInt64 q_.toInt64 root_.toInt64 shares) checks) (f_KE_addPolynomial_CH a.toInt64 b.toInt64 (f_KE_begin_base p_.toInt64 q_.toInt64 root_.toInt64) (f_KE_begin_modulus p_.toInt64 q_.toInt64 root_.toInt64) (f_KE_begin_order p_.toInt64 q_.toInt64 root_.toInt64) (f_KE_begin_SH p_.toInt64 q_.toInt64 root_.toInt64 shares) checks) ((p_ * q_).toInt64) (((p_ / (2 : Int32)).toInt64) * ((q_ / (2 : Int32)).toInt64)) (f_MD_inverse (65537 : Int64) (((p_ / (2 : Int32)).toInt64) * ((q_ / (2 : Int32)).toInt64))) (a.toInt64 - a.toInt64 / (((p_ / (2 : Int32)).toInt64) * ((q_ / (2 : Int32)).toInt64)) * (((p_ / (2 : Int32)).toInt64) * ((q_ / (2 : Int32)).toInt64))) (b.toInt64 - b.toInt64 / (((p_ / (2 : Int32)).toInt64) * ((q_ / (2 : Int32)).toInt64)) * (((p_ / (2 : Int32)).toInt64) * ((q_ / (2 : Int32)).toInt64))) ((root_.toInt64 * root_.toInt64) - (root_.toInt64 * root_.toInt64) / ((p_ * q_).toInt64) * ((p_ * q_).toInt64)) := by
  obtain ⟨h1, h2, h3, h4, h5, h6, h7, h8, h9⟩ := h
  obtain ⟨x, px, Px, Hx, x10, xM, dx⟩ := np_sp h1
  obtain ⟨y, py, Py, Hy, y10, yM, dy⟩ := np_sp h2
  have hne : x ≠ y := fun z => h3 (Int32.toInt_inj.mp (by rw [px, py, z]))
  have hpq : xv_pq x y := ⟨Px, Py, hne, Hx, Hy, x10, xM, y10, yM⟩
  obtain ⟨m1, m2, n1, n2⟩ := xv_pos hpq
  rw [Int32.lt_iff_toInt_lt, show (0 : Int32).toInt = 0 from rfl] at h4 h5
  rw [Int32.lt_iff_toInt_lt, show (2 : Int32).toInt = 2 from rfl] at h6
  have b1 := Int32.toInt_lt a
  have b2 := Int32.toInt_lt b
  have hp : p_.toInt64.toInt = (2 * x + 1 : Nat) := by rw [Int32.toInt_toInt64, px]
  have hq : q_.toInt64.toInt = (2 * y + 1 : Nat) := by rw [Int32.toInt_toInt64, py]
  have hn : ((p_ * q_).toInt64).toInt = ((2 * x + 1) * (2 * y + 1) : Nat) := by
    rw [Int32.toInt_toInt64, Int32.toInt_mul, px, py, ← Int.natCast_mul]
    exact Int.bmod_eq_of_le (by omega) (by omega)
  have hm : (((p_ / (2 : Int32)).toInt64) * ((q_ / (2 : Int32)).toInt64)).toInt = (x * y : Nat) := nu_mul (by rw [Int32.toInt_toInt64, dx]) (by rw [Int32.toInt_toInt64, dy]) (by omega)
  have hN2 : (p_.toInt64 * q_.toInt64).toInt = ((2 * x + 1) * (2 * y + 1) : Nat) := nu_mul hp hq (by omega)
  have hp2 : ((p_.toInt64 - (1 : Int64)) / (2 : Int64)).toInt = (x : Nat) := by
    rw [nu_div (nu_sub hp (show (1 : Int64).toInt = (1 : Nat) from rfl) (by omega) (by omega)) (show (2 : Int64).toInt = (2 : Nat) from rfl)]
    omega
  have hq2 : ((q_.toInt64 - (1 : Int64)) / (2 : Int64)).toInt = (y : Nat) := by
    rw [nu_div (nu_sub hq (show (1 : Int64).toInt = (1 : Nat) from rfl) (by omega) (by omega)) (show (2 : Int64).toInt = (2 : Nat) from rfl)]
    omega
  have hm2 : (((p_.toInt64 - (1 : Int64)) / (2 : Int64)) * ((q_.toInt64 - (1 : Int64)) / (2 : Int64))).toInt = (x * y : Nat) := nu_mul hp2 hq2 (by omega)
  have hxy : (x - 1) * (y - 1) ≤ 16383 * 16383 := Nat.mul_le_mul (by omega) (by omega)
  have hxy9 : 9 * 9 ≤ (x - 1) * (y - 1) := Nat.mul_le_mul (by omega) (by omega)
  have hex : (((((p_.toInt64 - (1 : Int64)) / (2 : Int64)) - (1 : Int64)) * (((q_.toInt64 - (1 : Int64)) / (2 : Int64)) - (1 : Int64))) - (1 : Int64)).toInt = ((x - 1) * (y - 1) - 1 : Nat) := nu_sub (nu_mul (nu_sub hp2 (show (1 : Int64).toInt = (1 : Nat) from rfl) (by omega) (by omega)) (nu_sub hq2 (show (1 : Int64).toInt = (1 : Nat) from rfl) (by omega) (by omega)) (by omega)) (show (1 : Int64).toInt = (1 : Nat) from rfl) (by omega) (by omega)
  have hsg : (f_KE_begin_signing p_.toInt64 q_.toInt64 root_.toInt64).toInt = (65537 ^ ((x - 1) * (y - 1) - 1) % (2 * (x * y)) : Nat) := nu_power (show (65537 : Int64).toInt = (65537 : Nat) from by decide) hex (nu_mul (show (2 : Int64).toInt = (2 : Nat) from rfl) hm2 (by omega)) (by omega) (by omega)
  have hinv : nt_eq (2 * (x * y)) (65537 * (65537 ^ ((x - 1) * (y - 1) - 1) % (2 * (x * y)))) 1 := nt_inv Hx Hy hne (by omega) (by omega) (nt_e (by omega) (by omega)) (nt_e (by omega) (by omega)) (by decide)
  have hsl := Nat.mod_lt (65537 ^ ((x - 1) * (y - 1) - 1)) (show 0 < 2 * (x * y) by omega)
  generalize hw : 65537 ^ ((x - 1) * (y - 1) - 1) % (2 * (x * y)) = w at hsg hinv hsl
  have hwh : (f_KE_begin_whole p_.toInt64 q_.toInt64 root_.toInt64).toInt = (w % (x * y) : Nat) := nu_rest hsg hm2 (by omega)
  have hg1 : Nat.gcd 65537 (x * y) = 1 := Nat.Coprime.coprime_mul_left_right (sk_e hpq)
  obtain ⟨r, r1, r2, r3⟩ := nv_inverse (xa := (65537 : Int64)) (x := 65537) (by decide) hm (by omega) (by omega) hg1
  have hr : w % (x * y) = r := nt_lt (nt_trans (nt_mod _ _) (nt_inv1 (nt_dvd (Nat.dvd_mul_left (x * y) 2) hinv) r3)) (Nat.mod_lt _ (by omega)) r2
  have ew := nu_inj (hwh.trans (by rw [hr])) r1
  have em : f_KE_begin_order p_.toInt64 q_.toInt64 root_.toInt64 = (((p_ / (2 : Int32)).toInt64) * ((q_ / (2 : Int32)).toInt64)) := nu_inj hm2 hm
  have en : f_KE_begin_modulus p_.toInt64 q_.toInt64 root_.toInt64 = ((p_ * q_).toInt64) := nu_inj hN2 hn
  have hpn : (p_ * q_).toInt = ((2 * x + 1) * (2 * y + 1) : Nat) := by rw [← Int32.toInt_toInt64, hn]
  have hro : root_.toInt64.toInt = (root_.toInt.toNat : Nat) := by
    rw [Int32.toInt_toInt64]
    omega
  have hr9 : root_.toInt < 2147483648 := Int32.toInt_lt root_
  have hrr : root_.toInt.toNat * root_.toInt.toNat ≤ 2147483648 * 2147483648 := Nat.mul_le_mul (by omega) (by omega)
  have hsq := nu_mul hro hro (by omega)
  have ev : f_KE_begin_base p_.toInt64 q_.toInt64 root_.toInt64 = (root_.toInt64 * root_.toInt64) - (root_.toInt64 * root_.toInt64) / ((p_ * q_).toInt64) * ((p_ * q_).toInt64) := nu_inj (nu_rest hsq hN2 (by omega)) (nu_rem hsq hn)
  refine ⟨ev, ew, en, em, x, y, hpq, hn, hm, hp, hq, by rw [hsg]; omega, by rw [hsg]; omega, by rw [hsg]; exact hinv, ?_, ?_⟩
  · rw [r1, hsg, ← hr]
    exact Int.natCast_emod _ _
  have hv := nu_rem hsq hn
  have hvl := Nat.mod_lt (root_.toInt.toNat * root_.toInt.toNat) (show 0 < (2 * x + 1) * (2 * y + 1) by omega)
  have d1 : ¬ (2 * x + 1) ∣ root_.toInt.toNat := fun z => h8 (Int32.toInt_inj.mp (by
    rw [xi_rem32, px, Int.tmod_eq_emod_of_nonneg (by omega), show (0 : Int32).toInt = 0 from rfl]
    exact Int.emod_eq_zero_of_dvd (by rw [← Int.toNat_of_nonneg (show 0 ≤ root_.toInt by omega)]; exact Int.natCast_dvd_natCast.mpr z)))
  have d2 : ¬ (2 * y + 1) ∣ root_.toInt.toNat := fun z => h9 (Int32.toInt_inj.mp (by
    rw [xi_rem32, py, Int.tmod_eq_emod_of_nonneg (by omega), show (0 : Int32).toInt = 0 from rfl]
    exact Int.emod_eq_zero_of_dvd (by rw [← Int.toNat_of_nonneg (show 0 ≤ root_.toInt by omega)]; exact Int.natCast_dvd_natCast.mpr z)))
  have g1 : ∀ p q : Nat, nt_P p → ¬ p ∣ root_.toInt.toNat → p ∣ q → ¬ p ∣ root_.toInt.toNat * root_.toInt.toNat % q := fun p q P z hpq2 w => by
    have w2 := (Nat.dvd_mod_iff hpq2).mp w
    rcases nt_P_mul P w2 with w3 | w3
    · exact z w3
    · exact z w3
  have ha := nu_rem (show a.toInt64.toInt = (a.toInt.toNat : Nat) by rw [Int32.toInt_toInt64]; omega) hm
  have hb := nu_rem (show b.toInt64.toInt = (b.toInt.toNat : Nat) by rw [Int32.toInt_toInt64]; omega) hm
  have hal := Nat.mod_lt a.toInt.toNat (show 0 < x * y by omega)
  have hbl := Nat.mod_lt b.toInt.toNat (show 0 < x * y by omega)
  refine ⟨by rw [hv]; omega, by rw [hv, hn]; exact Int.ofNat_lt.mpr hvl, ?_, ?_, by rw [ha]; omega, by rw [ha]; omega, by rw [hb]; omega, by rw [hb]; omega, ?_⟩
  · rw [hv]
    exact g1 _ _ Px d1 (Nat.dvd_mul_right _ _)
  · rw [hv]
    exact g1 _ _ Py d2 (Nat.dvd_mul_left _ _)
  have hsh : ∀ i, i < 6 → f_KE_begin_SH p_.toInt64 q_.toInt64 root_.toInt64 shares i = f_KE_begin_whole p_.toInt64 q_.toInt64 root_.toInt64 := fun i hi => (sq_b 7 0 0 shares rfl (by omega) rfl i).2 (by omega) hi
  exact sq_new (S := fun _ => r) (A := a.toInt.toNat) (B := b.toInt.toNat) hm (by omega) (by omega) r1 r2 ha hal hb hbl hv hn (by omega) (by omega) (by rw [Int32.toInt_toInt64]; omega) (by omega) (by rw [Int32.toInt_toInt64]; omega) (by omega) (fun i hi => ⟨by rw [hsh i hi, hwh, hr], r2⟩) (fun i hi => sq_m) em en ev
theorem sl_deal {t : Nat} {dealt : Int32} {epoch : Int64} {signing : Int64} {pp : Int64} {qq : Int64} {shares : Nat → Int64} {checks : Nat → Int64} {powers : Nat → Nat → Int64} {challenges : Nat → Nat → Int32} {answers : Nat → Nat → Int64} {z_n : Int64} {z_m : Int64} {z_d : Int64} {z_a : Int64} {z_b : Int64} {z_v : Int64} {z_ep : Int32} {z_su : Int32} {z_by : Int32} {z_mo : Int32} {z_st : Nat → Int32} {z_bl : Nat → Int64} {z_fi : Nat → Int32} {z_ob : Nat → Int32} {z_po : Nat → Int64} {z_pr : Nat → Int32} {z_an : Nat → Int64} {z_bk : Int32} {p_ : Int32} {q_ : Int32} {a : Int32} {b : Int32} {root_ : Int32} (hI : xv_I t dealt epoch signing pp qq shares checks powers challenges answers z_n z_m z_d z_a z_b z_v z_ep z_su z_by z_mo z_st z_bl z_fi z_ob z_po z_pr z_an z_bk) : f_MD_deal_thrownCode p_ q_ a b root_ = xh_c xt_IA xt_IS (g_ST_deal p_ q_ a b root_) ∧ xt_el (g_ST_deal p_ q_ a b root_) z_mo (f_ST_deal_motionCount p_ q_ a b root_) = f_MD_deal_motions p_ q_ a b root_ z_mo ∧ xt_el (g_ST_deal p_ q_ a b root_) z_bk (f_ST_deal_sealedCount p_ q_ a b root_) = f_MD_deal_booked p_ q_ a b root_ z_bk ∧ xt_el (g_ST_deal p_ q_ a b root_) z_su (f_ST_deal_suspended p_ q_ a b root_) = f_MD_deal_suspended p_ q_ a b root_ z_su ∧ xt_el (g_ST_deal p_ q_ a b root_) z_v (f_ST_deal_base p_ q_ a b root_) = f_MD_deal_v p_ q_ a b root_ z_v ∧ xt_el (g_ST_deal p_ q_ a b root_) z_d (f_ST_deal_whole p_ q_ a b root_) = f_MD_deal_d p_ q_ a b root_ z_d ∧ xt_el (g_ST_deal p_ q_ a b root_) z_n (f_ST_deal_modulus p_ q_ a b root_) = f_MD_deal_n p_ q_ a b root_ z_n ∧ xt_el (g_ST_deal p_ q_ a b root_) z_m (f_ST_deal_order p_ q_ a b root_) = f_MD_deal_m p_ q_ a b root_ z_m ∧ xv_I (t + 1) (xt_el (g_ST_deal p_ q_ a b root_) dealt (f_ST_deal_dealt p_ q_ a b root_)) (xt_el (g_ST_deal p_ q_ a b root_) epoch (f_ST_deal_epoch p_ q_ a b root_)) (xt_el (g_ST_deal p_ q_ a b root_) signing (f_ST_deal_signing p_ q_ a b root_)) (xt_el (g_ST_deal p_ q_ a b root_) pp (f_ST_deal_p p_ q_ a b root_)) (xt_el (g_ST_deal p_ q_ a b root_) qq (f_ST_deal_q p_ q_ a b root_)) (xt_el (g_ST_deal p_ q_ a b root_) shares (f_ST_deal_SH p_ q_ a b root_ shares checks)) (xt_el (g_ST_deal p_ q_ a b root_) checks (f_ST_deal_CH p_ q_ a b root_ shares checks)) powers challenges answers (f_MD_deal_n p_ q_ a b root_ z_n) (f_MD_deal_m p_ q_ a b root_ z_m) (f_MD_deal_d p_ q_ a b root_ z_d) (f_MD_deal_a p_ q_ a b root_ z_a) (f_MD_deal_b p_ q_ a b root_ z_b) (f_MD_deal_v p_ q_ a b root_ z_v) (f_MD_deal_epoch p_ q_ a b root_ z_ep) (f_MD_deal_suspended p_ q_ a b root_ z_su) z_by (f_MD_deal_motions p_ q_ a b root_ z_mo) z_st z_bl z_fi z_ob z_po z_pr z_an (f_MD_deal_booked p_ q_ a b root_ z_bk) := by
  by_cases h : sr_ok p_ q_ a b root_
  · have hg : g_ST_deal p_ q_ a b root_ = none := sr_C1 h _ _
    have c_motionCount : f_ST_deal_motionCount p_ q_ a b root_ = (0 : Int32) := sr_C1 h _ _
    have c_sealedCount : f_ST_deal_sealedCount p_ q_ a b root_ = (0 : Int32) := sr_C1 h _ _
    have c_suspended : f_ST_deal_suspended p_ q_ a b root_ = (0 : Int32) := sr_C1 h _ _
    have c_base : f_ST_deal_base p_ q_ a b root_ = f_KE_begin_base p_.toInt64 q_.toInt64 root_.toInt64 := sr_C1 h _ _
    have c_whole : f_ST_deal_whole p_ q_ a b root_ = f_KE_begin_whole p_.toInt64 q_.toInt64 root_.toInt64 := sr_C1 h _ _
    have c_modulus : f_ST_deal_modulus p_ q_ a b root_ = f_KE_begin_modulus p_.toInt64 q_.toInt64 root_.toInt64 := sr_C1 h _ _
    have c_order : f_ST_deal_order p_ q_ a b root_ = f_KE_begin_order p_.toInt64 q_.toInt64 root_.toInt64 := sr_C1 h _ _
    have c_dealt : f_ST_deal_dealt p_ q_ a b root_ = f_KE_begin_dealt p_.toInt64 q_.toInt64 root_.toInt64 := sr_C1 h _ _
    have c_epoch : f_ST_deal_epoch p_ q_ a b root_ = f_KE_begin_epoch p_.toInt64 q_.toInt64 root_.toInt64 := sr_C1 h _ _
    have c_signing : f_ST_deal_signing p_ q_ a b root_ = f_KE_begin_signing p_.toInt64 q_.toInt64 root_.toInt64 := sr_C1 h _ _
    have c_p : f_ST_deal_p p_ q_ a b root_ = f_KE_begin_p p_.toInt64 q_.toInt64 root_.toInt64 := sr_C1 h _ _
    have c_q : f_ST_deal_q p_ q_ a b root_ = f_KE_begin_q p_.toInt64 q_.toInt64 root_.toInt64 := sr_C1 h _ _
    have c_SH : f_ST_deal_SH p_ q_ a b root_ shares checks = f_KE_addPolynomial_SH a.toInt64 b.toInt64 (f_KE_begin_base p_.toInt64 q_.toInt64 root_.toInt64) (f_KE_begin_modulus p_.toInt64 q_.toInt64 root_.toInt64) (f_KE_begin_order p_.toInt64 q_.toInt64 root_.toInt64) (f_KE_begin_SH p_.toInt64 q_.toInt64 root_.toInt64 shares) checks := sr_C1 h _ _
    have c_CH : f_ST_deal_CH p_ q_ a b root_ shares checks = f_KE_addPolynomial_CH a.toInt64 b.toInt64 (f_KE_begin_base p_.toInt64 q_.toInt64 root_.toInt64) (f_KE_begin_modulus p_.toInt64 q_.toInt64 root_.toInt64) (f_KE_begin_order p_.toInt64 q_.toInt64 root_.toInt64) (f_KE_begin_SH p_.toInt64 q_.toInt64 root_.toInt64 shares) checks := sr_C1 h _ _
    have m_motions : f_MD_deal_motions p_ q_ a b root_ z_mo = (0 : Int32) := sr_M1 h _ _
    have m_booked : f_MD_deal_booked p_ q_ a b root_ z_bk = (0 : Int32) := sr_M1 h _ _
    have m_suspended : f_MD_deal_suspended p_ q_ a b root_ z_su = (0 : Int32) := sr_M1 h _ _
    have m_v : f_MD_deal_v p_ q_ a b root_ z_v = (root_.toInt64 * root_.toInt64) - (root_.toInt64 * root_.toInt64) / ((p_ * q_).toInt64) * ((p_ * q_).toInt64) := sr_M1 h _ _
    have m_d : f_MD_deal_d p_ q_ a b root_ z_d = f_MD_inverse (65537 : Int64) (((p_ / (2 : Int32)).toInt64) * ((q_ / (2 : Int32)).toInt64)) := sr_M1 h _ _
    have m_n : f_MD_deal_n p_ q_ a b root_ z_n = ((p_ * q_).toInt64) := sr_M1 h _ _
    have m_m : f_MD_deal_m p_ q_ a b root_ z_m = (((p_ / (2 : Int32)).toInt64) * ((q_ / (2 : Int32)).toInt64)) := sr_M1 h _ _
    have m_a : f_MD_deal_a p_ q_ a b root_ z_a = a.toInt64 - a.toInt64 / (((p_ / (2 : Int32)).toInt64) * ((q_ / (2 : Int32)).toInt64)) * (((p_ / (2 : Int32)).toInt64) * ((q_ / (2 : Int32)).toInt64)) := sr_M1 h _ _
    have m_b : f_MD_deal_b p_ q_ a b root_ z_b = b.toInt64 - b.toInt64 / (((p_ / (2 : Int32)).toInt64) * ((q_ / (2 : Int32)).toInt64)) * (((p_ / (2 : Int32)).toInt64) * ((q_ / (2 : Int32)).toInt64)) := sr_M1 h _ _
    have m_epoch : f_MD_deal_epoch p_ q_ a b root_ z_ep = (0 : Int32) := sr_M1 h _ _
    have m_c : f_MD_deal_thrownCode p_ q_ a b root_ = 0 := sr_M1 h _ _
    obtain ⟨ev, ew, en, em, hk⟩ := sr_key (shares := shares) (checks := checks) h
    rw [hg, m_c, c_motionCount, c_sealedCount, c_suspended, c_base, c_whole, c_modulus, c_order, c_dealt, c_epoch, c_signing, c_p, c_q, c_SH, c_CH, m_motions, m_booked, m_suspended, m_v, m_d, m_n, m_m, m_a, m_b, m_epoch]
    refine ⟨rfl, rfl, rfl, rfl, ev, ew, en, em, ?_⟩
    obtain ⟨i1, i2, i3, i4, i5, i6, i7, i8⟩ := hI
    refine ⟨i1, ⟨by decide, by decide⟩, ⟨by decide, rfl⟩, ⟨by decide, by decide⟩, ⟨rfl, by decide, ?_⟩, i6, fun k hk => absurd hk (by show ¬ k < 0; omega), Or.inr ⟨rfl, hk⟩⟩
    rw [show (0 : Int32).toInt = 0 from rfl]
    omega
  · have hg : g_ST_deal p_ q_ a b root_ = some xt_IA := sr_C0 h _ _
    have m_motions : f_MD_deal_motions p_ q_ a b root_ z_mo = z_mo := sr_M0 h _ _
    have m_booked : f_MD_deal_booked p_ q_ a b root_ z_bk = z_bk := sr_M0 h _ _
    have m_suspended : f_MD_deal_suspended p_ q_ a b root_ z_su = z_su := sr_M0 h _ _
    have m_v : f_MD_deal_v p_ q_ a b root_ z_v = z_v := sr_M0 h _ _
    have m_d : f_MD_deal_d p_ q_ a b root_ z_d = z_d := sr_M0 h _ _
    have m_n : f_MD_deal_n p_ q_ a b root_ z_n = z_n := sr_M0 h _ _
    have m_m : f_MD_deal_m p_ q_ a b root_ z_m = z_m := sr_M0 h _ _
    have m_a : f_MD_deal_a p_ q_ a b root_ z_a = z_a := sr_M0 h _ _
    have m_b : f_MD_deal_b p_ q_ a b root_ z_b = z_b := sr_M0 h _ _
    have m_epoch : f_MD_deal_epoch p_ q_ a b root_ z_ep = z_ep := sr_M0 h _ _
    have m_c : f_MD_deal_thrownCode p_ q_ a b root_ = 1 := sr_M0 h _ _
    rw [hg, m_c, m_motions, m_booked, m_suspended, m_v, m_d, m_n, m_m, m_a, m_b, m_epoch]
    exact ⟨xh_e1.symm, rfl, rfl, rfl, rfl, rfl, rfl, rfl, xv_up hI⟩
theorem su_L {na nb_ : Int32} {z_n z_m z_a z_b : Int64} {z_ep z_mo : Int32} {z_st z_fi : Nat → Int32} (hmo : 0 ≤ z_mo.toInt ∧ z_mo.toInt ≤ 12) : ∀ (n : Nat) (i : Int32) (I : Nat) (ff : Nat → Int32), i.toInt = I → I ≤ 12 → I + n = 13 → (∀ j, I ≤ j → ff j = z_fi j) → (∀ j, j < I → ff j = xd_pf z_st z_fi z_mo.toInt.toNat j) → ∀ j, lf_MD_refresh_82_4 na nb_ z_n z_m z_a z_b z_ep z_mo z_st z_fi n i ff j = xd_pf z_st z_fi z_mo.toInt.toNat j := by
  intro n
  induction n with
  | zero => exact fun i I ff hi h12 hn h1 h2 j => by omega
  | succ n ih =>
    intro i I ff hi h12 hn h1 h2 j
    rw [lf_MD_refresh_82_4]
    by_cases c : z_mo ≤ i
    · rw [if_pos c]
      rw [Int32.le_iff_toInt_le] at c
      by_cases hj : j < I
      · exact h2 j hj
      · rw [h1 j (by omega)]
        exact (if_neg (fun z => by omega)).symm
    · rw [if_neg c]
      rw [Int32.le_iff_toInt_le] at c
      have e1 : i.toNatClampNeg = I := by
        show i.toInt.toNat = I
        omega
      have e2 : (i + 1).toInt = (I + 1 : Nat) := by
        rw [xi_inc (by omega)]
        omega
      rw [e1]
      by_cases c2 : z_st I = 0
      · rw [if_pos c2]
        refine ih _ (I + 1) _ e2 (by omega) (by omega) (fun k hk => ?_) (fun k hk => ?_) j
        · rw [sm_u2 _ _ (by omega)]
          exact h1 k (by omega)
        · by_cases hkI : k = I
          · subst hkI
            rw [sm_u1]
            exact (if_pos ⟨by omega, c2⟩).symm
          · rw [sm_u2 _ _ hkI]
            exact h2 k (by omega)
      · rw [if_neg c2]
        refine ih _ (I + 1) _ e2 (by omega) (by omega) (fun k hk => h1 k (by omega)) (fun k hk => ?_) j
        by_cases hkI : k = I
        · subst hkI
          rw [h1 k (by omega)]
          exact (if_neg (fun z => c2 z.2)).symm
        · exact h2 k (by omega)
theorem sl_refresh {t : Nat} {dealt : Int32} {epoch : Int64} {signing : Int64} {pp : Int64} {qq : Int64} {shares : Nat → Int64} {checks : Nat → Int64} {powers : Nat → Nat → Int64} {challenges : Nat → Nat → Int32} {answers : Nat → Nat → Int64} {z_n : Int64} {z_m : Int64} {z_d : Int64} {z_a : Int64} {z_b : Int64} {z_v : Int64} {z_ep : Int32} {z_su : Int32} {z_by : Int32} {z_mo : Int32} {z_st : Nat → Int32} {z_bl : Nat → Int64} {z_fi : Nat → Int32} {z_ob : Nat → Int32} {z_po : Nat → Int64} {z_pr : Nat → Int32} {z_an : Nat → Int64} {z_bk : Int32} {na nb_ : Int32} (ht9 : t < 1000) (hI : xv_I t dealt epoch signing pp qq shares checks powers challenges answers z_n z_m z_d z_a z_b z_v z_ep z_su z_by z_mo z_st z_bl z_fi z_ob z_po z_pr z_an z_bk) : f_MD_refresh_thrownCode na nb_ z_n z_m z_a z_b z_ep z_mo z_st z_fi = xh_c xt_IA xt_IS (g_ST_refresh na nb_ dealt) ∧ (∀ j, (xt_el (g_ST_refresh na nb_ dealt) z_fi (xd_pf z_st z_fi z_mo.toInt.toNat)) j = (f_MD_refresh_a_fi na nb_ z_n z_m z_a z_b z_ep z_mo z_st z_fi) j) ∧ xv_I (t + 1) dealt (xt_el (g_ST_refresh na nb_ dealt) epoch (epoch + (1 : Int64))) signing pp qq (xt_el (g_ST_refresh na nb_ dealt) shares (f_KE_addPolynomial_SH na.toInt64 nb_.toInt64 z_v z_n z_m shares checks)) (xt_el (g_ST_refresh na nb_ dealt) checks (f_KE_addPolynomial_CH na.toInt64 nb_.toInt64 z_v z_n z_m shares checks)) powers challenges answers z_n z_m z_d (f_MD_refresh_a na nb_ z_n z_m z_a z_b z_ep z_mo z_st z_fi) (f_MD_refresh_b na nb_ z_n z_m z_a z_b z_ep z_mo z_st z_fi) z_v (f_MD_refresh_epoch na nb_ z_n z_m z_a z_b z_ep z_mo z_st z_fi) z_su z_by z_mo z_st z_bl (f_MD_refresh_a_fi na nb_ z_n z_m z_a z_b z_ep z_mo z_st z_fi) z_ob z_po z_pr z_an z_bk := by
  by_cases h1 : na < 0
  · have hg : g_ST_refresh na nb_ dealt = some xt_IA := by rw [g_ST_refresh, if_pos h1]
    rw [hg, f_MD_refresh_thrownCode, f_MD_refresh_a, f_MD_refresh_b, f_MD_refresh_epoch, f_MD_refresh_a_fi, if_pos h1, if_pos h1, if_pos h1, if_pos h1, if_pos h1]
    exact ⟨xh_e1.symm, fun _ => rfl, xv_up hI⟩
  by_cases h2 : 0 ≤ nb_
  · rcases sd_k hI with ⟨k1, k2, k3⟩ | ⟨k1, k2, k3⟩
    · have hg : g_ST_refresh na nb_ dealt = some xt_IS := by rw [g_ST_refresh, if_neg h1, if_pos h2, k2, sd_rk0]; rfl
      rw [hg, f_MD_refresh_thrownCode, f_MD_refresh_a, f_MD_refresh_b, f_MD_refresh_epoch, f_MD_refresh_a_fi, if_neg h1, if_neg h1, if_neg h1, if_neg h1, if_neg h1, if_pos h2, if_pos h2, if_pos h2, if_pos h2, if_pos h2, if_pos k1, if_pos k1, if_pos k1, if_pos k1, if_pos k1]
      exact ⟨(xh_e2 (by decide)).symm, fun _ => rfl, xv_up hI⟩
    · have hg : g_ST_refresh na nb_ dealt = none := by rw [g_ST_refresh, if_neg h1, if_pos h2, k2, sd_rk1]; rfl
      have hfi := su_L (na := na) (nb_ := nb_) (z_n := z_n) (z_m := z_m) (z_a := z_a) (z_b := z_b) (z_ep := z_ep) (z_st := z_st) (z_fi := z_fi) hI.2.1 13 0 0 z_fi rfl (by omega) rfl (fun _ _ => rfl) (fun j hj => by omega)
      rw [hg, f_MD_refresh_thrownCode, f_MD_refresh_a, f_MD_refresh_b, f_MD_refresh_epoch, f_MD_refresh_a_fi, if_neg h1, if_neg h1, if_neg h1, if_neg h1, if_neg h1, if_pos h2, if_pos h2, if_pos h2, if_pos h2, if_pos h2, if_neg k1, if_neg k1, if_neg k1, if_neg k1, if_neg k1]
      refine ⟨rfl, fun j => (hfi j).symm, ?_⟩
      obtain ⟨i1, i2, i3, i4, ⟨p1, p2, p3⟩, i6, i7, i8⟩ := hI
      refine ⟨i1, i2, i3, i4, ?_, i6, fun k hk => ?_, Or.inr ⟨k2, ?_⟩⟩
      · have e2 : (z_ep + 1).toInt = z_ep.toInt + 1 := xi_inc (by omega)
        refine ⟨?_, by omega, by omega⟩
        apply Int64.toInt_inj.mp
        show (epoch + (1 : Int64)).toInt = (z_ep + 1).toInt64.toInt
        rw [Int32.toInt_toInt64, e2, Int64.toInt_add, p1, Int32.toInt_toInt64, show (1 : Int64).toInt = 1 from rfl]
        exact Int.bmod_eq_of_le (by omega) (by omega)
      · obtain ⟨f0, f1, o⟩ := i7 k hk
        refine ⟨?_, ?_, o⟩
        · rw [hfi k]
          unfold xd_pf
          split
          · decide
          · exact f0
        · rw [hfi k]
          unfold xd_pf
          split
          · decide
          · exact f1
      · have hs := k3
        obtain ⟨x, y, d, va, vb, v, N, hpq, eN, hn, hm, hd, dm, ha, am, hb, bm, hv, vN, v1, v2, m1, m2, n1, n2⟩ := sg_key k3
        obtain ⟨x2, y2, hpq2, s1, s2, s3, s4, s5, s6, s7, s8, s9, s10, s11, s12, s13, s14, s15, s16, s17⟩ := hs
        have exy : x * y = x2 * y2 := by omega
        rw [Int32.lt_iff_toInt_lt, show (0 : Int32).toInt = 0 from rfl] at h1
        rw [Int32.le_iff_toInt_le, show (0 : Int32).toInt = 0 from rfl] at h2
        have b1 := Int32.toInt_lt na
        have b2 := Int32.toInt_lt nb_
        have hna : na.toInt64.toInt = (na.toInt.toNat : Nat) := by
          rw [Int32.toInt_toInt64]
          omega
        have hnb : nb_.toInt64.toInt = (nb_.toInt.toNat : Nat) := by
          rw [Int32.toInt_toInt64]
          omega
        have ha2 := nu_rem (nu_add ha hna (by omega)) hm
        have hb2 := nu_rem (nu_add hb hnb (by omega)) hm
        have hal := Nat.mod_lt (va + na.toInt.toNat) (show 0 < x * y by omega)
        have hbl := Nat.mod_lt (vb + nb_.toInt.toNat) (show 0 < x * y by omega)
        refine ⟨x2, y2, hpq2, s1, s2, s3, s4, s5, s6, s7, s8, s9, s10, s11, s12, by rw [ha2]; omega, by rw [ha2]; omega, by rw [hb2]; omega, by rw [hb2]; omega, ?_⟩
        refine sq_new (S := fun i => (d + va * (i + 1) + vb * (i + 1) % (x * y) * (i + 1)) % (x * y)) (A := na.toInt.toNat) (B := nb_.toInt.toNat) hm (by omega) m2 hd dm ha2 hal hb2 hbl hv hn (by omega) n2 hna (by omega) hnb (by omega) (fun i hi => ?_) (fun i hi => sq_r) rfl rfl rfl
        have hi2 : (Int32.ofNat i).toInt = (i : Int) := by
          rcases (show i = 0 ∨ i = 1 ∨ i = 2 ∨ i = 3 ∨ i = 4 ∨ i = 5 by omega) with rfl | rfl | rfl | rfl | rfl | rfl <;> decide
        rw [(s17 i hi).1]
        exact ⟨sg_part hi2 hi hm hd ha hb dm am bm m2, Nat.mod_lt _ (by omega)⟩
  · have hg : g_ST_refresh na nb_ dealt = some xt_IA := by rw [g_ST_refresh, if_neg h1, if_neg h2]
    rw [hg, f_MD_refresh_thrownCode, f_MD_refresh_a, f_MD_refresh_b, f_MD_refresh_epoch, f_MD_refresh_a_fi, if_neg h1, if_neg h1, if_neg h1, if_neg h1, if_neg h1, if_neg h2, if_neg h2, if_neg h2, if_neg h2, if_neg h2]
    exact ⟨xh_e1.symm, fun _ => rfl, xv_up hI⟩
end SLG
