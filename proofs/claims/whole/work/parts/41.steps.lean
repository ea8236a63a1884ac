/-! the step of consent: parts, powers, challenges -/
section SLD
theorem sg_part {z_m z_d z_a z_b : Int64} {i : Int32} {I m d a b : Nat} (hi : i.toInt = I) (hI6 : I < 6) (hm : z_m.toInt = m) (hd : z_d.toInt = d) (ha : z_a.toInt = a) (hb : z_b.toInt = b) (dm : d < m) (am : a < m) (bm : b < m) (hM : m ≤ 268402689) : (f_MD_part i z_m z_d z_a z_b).toInt = ((d + a * (I + 1) + b * (I + 1) % m * (I + 1)) % m : Nat) := by
  unfold f_MD_part
  have ht : (i.toInt64 + (1 : Int64)).toInt = (I + 1 : Nat) := nu_add (by rw [Int32.toInt_toInt64, hi]) (show (1 : Int64).toInt = (1 : Nat) from rfl) (by omega)
  have hml := Nat.mod_lt (b * (I + 1)) (show 0 < m by omega)
  have h1 : a * (I + 1) ≤ 268402689 * 6 := Nat.mul_le_mul (by omega) (by omega)
  have h2 : b * (I + 1) ≤ 268402689 * 6 := Nat.mul_le_mul (by omega) (by omega)
  have h3 : b * (I + 1) % m * (I + 1) ≤ 268402689 * 6 := Nat.mul_le_mul (by omega) (by omega)
  exact nu_rem (nu_add (nu_add hd (nu_mul ha ht (by omega)) (by omega)) (nu_mul (nu_rem (nu_mul hb ht (by omega)) hm) ht (by omega)) (by omega)) hm
/-- what the key says, in natural numbers -/
theorem sg_key {signing pp qq : Int64} {shares checks : Nat → Int64} {z_n z_m z_d z_a z_b z_v : Int64} (h : xv_key signing pp qq shares checks z_n z_m z_d z_a z_b z_v) : ∃ a b d va vb v N : Nat, xv_pq a b ∧ N = (2 * a + 1) * (2 * b + 1) ∧ z_n.toInt = N ∧ z_m.toInt = (a * b : Nat) ∧ z_d.toInt = d ∧ d < a * b ∧ z_a.toInt = va ∧ va < a * b ∧ z_b.toInt = vb ∧ vb < a * b ∧ z_v.toInt = v ∧ v < N ∧ ¬ (2 * a + 1) ∣ v ∧ ¬ (2 * b + 1) ∣ v ∧ 100 ≤ a * b ∧ a * b ≤ 268402689 ∧ 400 ≤ N ∧ N ≤ 1073676289 := by
  obtain ⟨a, b, hpq, h1, h2, h3, h4, h5, h6, h7, h8, h9, h10, h11, h12, h13, h14, h15, h16, -⟩ := h
  obtain ⟨p1, p2, p3, p4⟩ := xv_pos hpq
  have e1 := Int.emod_nonneg signing.toInt (show ((a * b : Nat) : Int) ≠ 0 by omega)
  have e2 := Int.emod_lt_of_pos signing.toInt (show 0 < ((a * b : Nat) : Int) by omega)
  exact ⟨a, b, z_d.toInt.toNat, z_a.toInt.toNat, z_b.toInt.toNat, z_v.toInt.toNat, _, hpq, rfl, h1, h2, by omega, by omega, by omega, by omega, by omega, by omega, by omega, by omega, h11, h12, p1, p2, p3, p4⟩
theorem sg_chal {t : Int32} {u w o1 o2 base : Int64} {checks : Nat → Int64} : f_KE_challenge t u w o1 o2 base checks = f_MD_challenge u (checks t.toNatClampNeg) w o1 o2 base := rfl
theorem sg_share {signing pp qq : Int64} {shares checks : Nat → Int64} {z_n z_m z_d z_a z_b z_v : Int64} (h : xv_key signing pp qq shares checks z_n z_m z_d z_a z_b z_v) {t : Int32} (ht : vp_in t 6) : shares t.toNatClampNeg = f_MD_part t z_m z_d z_a z_b ∧ checks t.toNatClampNeg = f_MD_check t z_n z_m z_d z_a z_b z_v ∧ ∃ k : Nat, (f_MD_part t z_m z_d z_a z_b).toInt = k ∧ k ≤ 268402689 := by
  have h5 := vp_in_iff.mp ht
  obtain ⟨a, b, d, va, vb, v, N, hpq, hN, k1, k2, k3, k4, k5, k6, k7, k8, k9, k10, k11, k12, k13, k14, k15, k16⟩ := sg_key h
  obtain ⟨_, _, -, -, -, -, -, -, -, -, -, -, -, -, -, -, -, -, -, hsc⟩ := h
  have h6 := hsc t.toNatClampNeg (by show t.toInt.toNat < 6; omega)
  rw [sx_6 ht] at h6
  have h7 := sg_part (i := t) (I := t.toInt.toNat) (by omega) (by omega) k2 k3 k5 k7 k4 k6 k8 k14
  have h8 := Nat.mod_lt (d + va * (t.toInt.toNat + 1) + vb * (t.toInt.toNat + 1) % (a * b) * (t.toInt.toNat + 1)) (show 0 < a * b by omega)
  exact ⟨h6.1, h6.2, _, h7, by omega⟩
theorem sg_make {signing pp qq : Int64} {shares checks : Nat → Int64} {z_n z_m z_d z_a z_b z_v : Int64} (h : xv_key signing pp qq shares checks z_n z_m z_d z_a z_b z_v) {t : Int32} (ht : vp_in t 6) {motion : Int32} {z_bl : Nat → Int64} {z_ep : Int32} (hb2 : 2 ≤ (z_bl motion.toNatClampNeg).toInt) (hbn : (z_bl motion.toNatClampNeg).toInt < z_n.toInt) {pw an : Nat → Int64} {cg : Nat → Int32} {z_po z_an : Nat → Int64} {z_pr : Nat → Int32} :
    ∃ (p : Int64) (c : Int32) (z : Int64), f_KE_makePartial_PW t shares (z_bl motion.toNatClampNeg) z_ep.toInt64 z_v checks z_n pw = vp_updL pw t.toNatClampNeg p ∧ f_KE_makePartial_CG t shares (z_bl motion.toNatClampNeg) z_ep.toInt64 z_v checks z_n cg = upd cg t.toNatClampNeg c ∧ f_KE_makePartial_AN t shares (z_bl motion.toNatClampNeg) z_ep.toInt64 z_v checks z_n an = vp_updL an t.toNatClampNeg z ∧
      f_MD_make_a_po motion t z_n z_m z_d z_a z_b z_bl z_po = vp_updL z_po (((6 : Int32) * motion) + t).toNatClampNeg p ∧ f_MD_make_a_pr motion t z_n z_m z_d z_a z_b z_v z_ep z_bl z_pr = upd z_pr (((6 : Int32) * motion) + t).toNatClampNeg c ∧ f_MD_make_a_an motion t z_n z_m z_d z_a z_b z_v z_ep z_bl z_an = vp_updL z_an (((6 : Int32) * motion) + t).toNatClampNeg z := by
  obtain ⟨s1, s2, k, hk, hk9⟩ := sg_share h ht
  obtain ⟨a, b, d, va, vb, v, N, hpq, hN, k1, k2, k3, k4, k5, k6, k7, k8, k9, k10, k11, k12, k13, k14, k15, k16⟩ := sg_key h
  have hx : (z_bl motion.toNatClampNeg).toInt = ((z_bl motion.toNatClampNeg).toInt.toNat : Nat) := by omega
  have hp := nu_pr hx (nu_mul (show (1440 : Int64).toInt = (1440 : Nat) from rfl) hk (by omega)) k1 (by omega) (by omega)
  have hpn := nu_raised hx (nu_mul (show (1440 : Int64).toInt = (1440 : Nat) from rfl) hk (by omega)) k1 (by omega) (by omega)
  have hu := nu_pr hx (show (2880 : Int64).toInt = (2880 : Nat) from rfl) k1 (by omega) (by omega)
  have hun := nu_raised hx (show (2880 : Int64).toInt = (2880 : Nat) from rfl) k1 (by omega) (by omega)
  obtain ⟨r, hr, hr9⟩ := sw_mix (f_ST_mixIn (f_ST_mixIn (f_ST_mixIn (7 : Int64) (f_MD_part t z_m z_d z_a z_b)) (z_bl motion.toNatClampNeg)) z_ep.toInt64)
  have hb := nu_pr k9 hr k1 (by omega) (by omega)
  have hur := nu_pr hun hr k1 (by omega) (by omega)
  have hml := Nat.mod_lt ((z_bl motion.toNatClampNeg).toInt.toNat ^ (1440 * k)) (show 0 < N by omega)
  have ht9 := nu_same (nu_mul hpn hpn (nu_le _ _ hml hml (by omega))) k1 (by omega)
  refine ⟨_, _, _, ?_, ?_, ?_, rfl, rfl, rfl⟩
  · rw [f_KE_makePartial_PW, f_MO_takePartial_PW, s1, f_KE_power, hp]
  · rw [f_KE_makePartial_CG, f_MO_takePartial_CG, sg_chal, s1, s2, f_KE_power, f_KE_power, f_KE_power, f_KE_power, f_KE_times, hp, hu, ht9, hb, hur]
    rfl
  · rw [f_KE_makePartial_AN, f_MO_takePartial_AN, sg_chal, s1, s2, f_KE_power, f_KE_power, f_KE_power, f_KE_power, f_KE_times, hp, hu, ht9, hb, hur]
    rfl
theorem sl_consent {t : Nat} {dealt : Int32} {epoch : Int64} {signing : Int64} {pp : Int64} {qq : Int64} {shares : Nat → Int64} {checks : Nat → Int64} {powers : Nat → Nat → Int64} {challenges : Nat → Nat → Int32} {answers : Nat → Nat → Int64} {z_n : Int64} {z_m : Int64} {z_d : Int64} {z_a : Int64} {z_b : Int64} {z_v : Int64} {z_ep : Int32} {z_su : Int32} {z_by : Int32} {z_mo : Int32} {z_st : Nat → Int32} {z_bl : Nat → Int64} {z_fi : Nat → Int32} {z_ob : Nat → Int32} {z_po : Nat → Int64} {z_pr : Nat → Int32} {z_an : Nat → Int64} {z_bk : Int32} {motion : Int32} {trustee : Int32} (hI : xv_I t dealt epoch signing pp qq shares checks powers challenges answers z_n z_m z_d z_a z_b z_v z_ep z_su z_by z_mo z_st z_bl z_fi z_ob z_po z_pr z_an z_bk) : f_MD_consent_thrownCode motion trustee z_su z_mo z_st z_fi z_ob = xh_c xt_NS xt_IS (g_ST_consent motion trustee z_mo z_su (z_st (xl_ix motion)) (z_fi (xl_ix motion)) (z_ob (xl_ix motion))) ∧ xt_el (g_ST_consent motion trustee z_mo z_su (z_st (xl_ix motion)) (z_fi (xl_ix motion)) (z_ob (xl_ix motion))) (z_fi (xl_ix motion)) (f_ST_consent_partials motion trustee z_mo z_su (z_st (xl_ix motion)) (z_fi (xl_ix motion)) (z_ob (xl_ix motion))) = (f_MD_consent_a_fi motion trustee z_su z_mo z_st z_fi z_ob) (xl_ix motion) ∧ (∀ j, ¬ j = (xl_ix motion) → (f_MD_consent_a_fi motion trustee z_su z_mo z_st z_fi z_ob) j = z_fi j) ∧ xv_I (t + 1) dealt epoch signing pp qq shares checks (xl_up powers (xl_ix motion) (xt_el (g_ST_consent motion trustee z_mo z_su (z_st (xl_ix motion)) (z_fi (xl_ix motion)) (z_ob (xl_ix motion))) (powers (xl_ix motion)) (f_ST_consent_PW motion trustee z_mo z_su epoch z_v z_n shares checks (z_st (xl_ix motion)) (z_bl (xl_ix motion)) (z_fi (xl_ix motion)) (z_ob (xl_ix motion)) (powers (xl_ix motion))))) (xl_up challenges (xl_ix motion) (xt_el (g_ST_consent motion trustee z_mo z_su (z_st (xl_ix motion)) (z_fi (xl_ix motion)) (z_ob (xl_ix motion))) (challenges (xl_ix motion)) (f_ST_consent_CG motion trustee z_mo z_su epoch z_v z_n shares checks (z_st (xl_ix motion)) (z_bl (xl_ix motion)) (z_fi (xl_ix motion)) (z_ob (xl_ix motion)) (challenges (xl_ix motion))))) (xl_up answers (xl_ix motion) (xt_el (g_ST_consent motion trustee z_mo z_su (z_st (xl_ix motion)) (z_fi (xl_ix motion)) (z_ob (xl_ix motion))) (answers (xl_ix motion)) (f_ST_consent_AN motion trustee z_mo z_su epoch z_v z_n shares checks (z_st (xl_ix motion)) (z_bl (xl_ix motion)) (z_fi (xl_ix motion)) (z_ob (xl_ix motion)) (answers (xl_ix motion))))) z_n z_m z_d z_a z_b z_v z_ep z_su z_by z_mo z_st z_bl (f_MD_consent_a_fi motion trustee z_su z_mo z_st z_fi z_ob) z_ob (f_MD_consent_a_po motion trustee z_n z_m z_d z_a z_b z_su z_mo z_st z_fi z_ob z_bl z_po) (f_MD_consent_a_pr motion trustee z_n z_m z_d z_a z_b z_v z_ep z_su z_mo z_st z_fi z_ob z_bl z_pr) (f_MD_consent_a_an motion trustee z_n z_m z_d z_a z_b z_v z_ep z_su z_mo z_st z_fi z_ob z_bl z_an) z_bk := by
  by_cases h6 : f_MD_isMotion motion z_mo = 0
  · have hg : g_ST_consent motion trustee z_mo z_su (z_st (xl_ix motion)) (z_fi (xl_ix motion)) (z_ob (xl_ix motion)) = some xt_NS := by rw [g_ST_consent, xt_el1 (sm_at0 h6), sm_at0 h6]
    have m0 : f_MD_consent_thrownCode motion trustee z_su z_mo z_st z_fi z_ob = 1 := by rw [f_MD_consent_thrownCode, if_pos h6]
    have m_a_fi : f_MD_consent_a_fi motion trustee z_su z_mo z_st z_fi z_ob = z_fi := by rw [f_MD_consent_a_fi, if_pos h6]
    have m_a_po : f_MD_consent_a_po motion trustee z_n z_m z_d z_a z_b z_su z_mo z_st z_fi z_ob z_bl z_po = z_po := by rw [f_MD_consent_a_po, if_pos h6]
    have m_a_pr : f_MD_consent_a_pr motion trustee z_n z_m z_d z_a z_b z_v z_ep z_su z_mo z_st z_fi z_ob z_bl z_pr = z_pr := by rw [f_MD_consent_a_pr, if_pos h6]
    have m_a_an : f_MD_consent_a_an motion trustee z_n z_m z_d z_a z_b z_v z_ep z_su z_mo z_st z_fi z_ob z_bl z_an = z_an := by rw [f_MD_consent_a_an, if_pos h6]
    rw [hg, m0, m_a_fi, m_a_po, m_a_pr, m_a_an]
    refine ⟨xh_e1.symm, rfl, fun _ _ => rfl, ?_⟩
    show xv_I (t + 1) dealt epoch signing pp qq shares checks (xl_up powers (xl_ix motion) (powers (xl_ix motion))) (xl_up challenges (xl_ix motion) (challenges (xl_ix motion))) (xl_up answers (xl_ix motion) (answers (xl_ix motion))) z_n z_m z_d z_a z_b z_v z_ep z_su z_by z_mo z_st z_bl z_fi z_ob z_po z_pr z_an z_bk
    rw [xl_id, xl_id, xl_id]
    exact xv_up hI
  have hvM := xs_isM h6 (xv_mo hI)
  have hk := xl_ix_in hvM
  rw [hk]
  have hMr := xv_isr h6
  have hmt := hI.2.2.2.2.2.2.1 motion.toNatClampNeg (by show motion.toInt.toNat < z_mo.toInt.toNat; omega)
  obtain ⟨f0, f1, o0, o1, hb3, bl2, bln⟩ := hmt
  by_cases h13 : f_MD_isTrustee trustee = 0
  · have hg : g_ST_consent motion trustee z_mo z_su (z_st motion.toNatClampNeg) (z_fi motion.toNatClampNeg) (z_ob motion.toNatClampNeg) = some xt_NS := by rw [g_ST_consent, xt_el0 (sm_at1 h6), xt_el1 (sm_tr0 h13), sm_tr0 h13]
    have m0 : f_MD_consent_thrownCode motion trustee z_su z_mo z_st z_fi z_ob = 1 := by rw [f_MD_consent_thrownCode, if_neg h6, if_pos h13]
    have m_a_fi : f_MD_consent_a_fi motion trustee z_su z_mo z_st z_fi z_ob = z_fi := by rw [f_MD_consent_a_fi, if_neg h6, if_pos h13]
    have m_a_po : f_MD_consent_a_po motion trustee z_n z_m z_d z_a z_b z_su z_mo z_st z_fi z_ob z_bl z_po = z_po := by rw [f_MD_consent_a_po, if_neg h6, if_pos h13]
    have m_a_pr : f_MD_consent_a_pr motion trustee z_n z_m z_d z_a z_b z_v z_ep z_su z_mo z_st z_fi z_ob z_bl z_pr = z_pr := by rw [f_MD_consent_a_pr, if_neg h6, if_pos h13]
    have m_a_an : f_MD_consent_a_an motion trustee z_n z_m z_d z_a z_b z_v z_ep z_su z_mo z_st z_fi z_ob z_bl z_an = z_an := by rw [f_MD_consent_a_an, if_neg h6, if_pos h13]
    rw [hg, m0, m_a_fi, m_a_po, m_a_pr, m_a_an]
    refine ⟨xh_e1.symm, rfl, fun _ _ => rfl, ?_⟩
    show xv_I (t + 1) dealt epoch signing pp qq shares checks (xl_up powers motion.toNatClampNeg (powers motion.toNatClampNeg)) (xl_up challenges motion.toNatClampNeg (challenges motion.toNatClampNeg)) (xl_up answers motion.toNatClampNeg (answers motion.toNatClampNeg)) z_n z_m z_d z_a z_b z_v z_ep z_su z_by z_mo z_st z_bl z_fi z_ob z_po z_pr z_an z_bk
    rw [xl_id, xl_id, xl_id]
    exact xv_up hI
  have hvT := xs_isT h13
  by_cases h26 : z_st motion.toNatClampNeg = 0
  rotate_left
  · have hg : g_ST_consent motion trustee z_mo z_su (z_st motion.toNatClampNeg) (z_fi motion.toNatClampNeg) (z_ob motion.toNatClampNeg) = some xt_IS := by rw [g_ST_consent, xt_el0 (sm_at1 h6), xt_el0 (sm_tr1 h13), xt_el1 (sm_op1 h26), sm_op1 h26]
    have m0 : f_MD_consent_thrownCode motion trustee z_su z_mo z_st z_fi z_ob = 2 := by rw [f_MD_consent_thrownCode, if_neg h6, if_neg h13, if_neg h26]
    have m_a_fi : f_MD_consent_a_fi motion trustee z_su z_mo z_st z_fi z_ob = z_fi := by rw [f_MD_consent_a_fi, if_neg h6, if_neg h13, if_neg h26]
    have m_a_po : f_MD_consent_a_po motion trustee z_n z_m z_d z_a z_b z_su z_mo z_st z_fi z_ob z_bl z_po = z_po := by rw [f_MD_consent_a_po, if_neg h6, if_neg h13, if_neg h26]
    have m_a_pr : f_MD_consent_a_pr motion trustee z_n z_m z_d z_a z_b z_v z_ep z_su z_mo z_st z_fi z_ob z_bl z_pr = z_pr := by rw [f_MD_consent_a_pr, if_neg h6, if_neg h13, if_neg h26]
    have m_a_an : f_MD_consent_a_an motion trustee z_n z_m z_d z_a z_b z_v z_ep z_su z_mo z_st z_fi z_ob z_bl z_an = z_an := by rw [f_MD_consent_a_an, if_neg h6, if_neg h13, if_neg h26]
    rw [hg, m0, m_a_fi, m_a_po, m_a_pr, m_a_an]
    refine ⟨(xh_e2 (by decide)).symm, rfl, fun _ _ => rfl, ?_⟩
    show xv_I (t + 1) dealt epoch signing pp qq shares checks (xl_up powers motion.toNatClampNeg (powers motion.toNatClampNeg)) (xl_up challenges motion.toNatClampNeg (challenges motion.toNatClampNeg)) (xl_up answers motion.toNatClampNeg (answers motion.toNatClampNeg)) z_n z_m z_d z_a z_b z_v z_ep z_su z_by z_mo z_st z_bl z_fi z_ob z_po z_pr z_an z_bk
    rw [xl_id, xl_id, xl_id]
    exact xv_up hI
  have hvo := sm_vo (m := motion) (fi := z_fi) (ob := z_ob) ⟨f0, f1⟩ ⟨o0, o1⟩ hvT
  have hbt := (sm_bit (x := z_su) hI.2.2.2.1 hvT).1
  by_cases h38 : ((z_su >>> (trustee &&& 31)) &&& (1 : Int32)) = 1
  · have h39 : ¬ f_ST_isIn z_su trustee = 0 := fun z => hbt.mp z h38
    by_cases h36 : f_ST_isIn (z_fi motion.toNatClampNeg ||| z_ob motion.toNatClampNeg) trustee = 0
    · have hg : g_ST_consent motion trustee z_mo z_su (z_st motion.toNatClampNeg) (z_fi motion.toNatClampNeg) (z_ob motion.toNatClampNeg) = some xt_IS := by rw [g_ST_consent, xt_el0 (sm_at1 h6), xt_el0 (sm_tr1 h13), xt_el0 (sm_op0 h26), xt_el0 (sm_nv0 h36), if_neg h39]
      have m0 : f_MD_consent_thrownCode motion trustee z_su z_mo z_st z_fi z_ob = 2 := by rw [f_MD_consent_thrownCode, if_neg h6, if_neg h13, if_pos h26, if_pos h38]
      have m_a_fi : f_MD_consent_a_fi motion trustee z_su z_mo z_st z_fi z_ob = z_fi := by rw [f_MD_consent_a_fi, if_neg h6, if_neg h13, if_pos h26, if_pos h38]
      have m_a_po : f_MD_consent_a_po motion trustee z_n z_m z_d z_a z_b z_su z_mo z_st z_fi z_ob z_bl z_po = z_po := by rw [f_MD_consent_a_po, if_neg h6, if_neg h13, if_pos h26, if_pos h38]
      have m_a_pr : f_MD_consent_a_pr motion trustee z_n z_m z_d z_a z_b z_v z_ep z_su z_mo z_st z_fi z_ob z_bl z_pr = z_pr := by rw [f_MD_consent_a_pr, if_neg h6, if_neg h13, if_pos h26, if_pos h38]
      have m_a_an : f_MD_consent_a_an motion trustee z_n z_m z_d z_a z_b z_v z_ep z_su z_mo z_st z_fi z_ob z_bl z_an = z_an := by rw [f_MD_consent_a_an, if_neg h6, if_neg h13, if_pos h26, if_pos h38]
      rw [hg, m0, m_a_fi, m_a_po, m_a_pr, m_a_an]
      refine ⟨(xh_e2 (by decide)).symm, rfl, fun _ _ => rfl, ?_⟩
      show xv_I (t + 1) dealt epoch signing pp qq shares checks (xl_up powers motion.toNatClampNeg (powers motion.toNatClampNeg)) (xl_up challenges motion.toNatClampNeg (challenges motion.toNatClampNeg)) (xl_up answers motion.toNatClampNeg (answers motion.toNatClampNeg)) z_n z_m z_d z_a z_b z_v z_ep z_su z_by z_mo z_st z_bl z_fi z_ob z_po z_pr z_an z_bk
      rw [xl_id, xl_id, xl_id]
      exact xv_up hI
    · have hg : g_ST_consent motion trustee z_mo z_su (z_st motion.toNatClampNeg) (z_fi motion.toNatClampNeg) (z_ob motion.toNatClampNeg) = some xt_IS := by rw [g_ST_consent, xt_el0 (sm_at1 h6), xt_el0 (sm_tr1 h13), xt_el0 (sm_op0 h26), xt_el1 (sm_nv1 h36), sm_nv1 h36]
      have m0 : f_MD_consent_thrownCode motion trustee z_su z_mo z_st z_fi z_ob = 2 := by rw [f_MD_consent_thrownCode, if_neg h6, if_neg h13, if_pos h26, if_pos h38]
      have m_a_fi : f_MD_consent_a_fi motion trustee z_su z_mo z_st z_fi z_ob = z_fi := by rw [f_MD_consent_a_fi, if_neg h6, if_neg h13, if_pos h26, if_pos h38]
      have m_a_po : f_MD_consent_a_po motion trustee z_n z_m z_d z_a z_b z_su z_mo z_st z_fi z_ob z_bl z_po = z_po := by rw [f_MD_consent_a_po, if_neg h6, if_neg h13, if_pos h26, if_pos h38]
      have m_a_pr : f_MD_consent_a_pr motion trustee z_n z_m z_d z_a z_b z_v z_ep z_su z_mo z_st z_fi z_ob z_bl z_pr = z_pr := by rw [f_MD_consent_a_pr, if_neg h6, if_neg h13, if_pos h26, if_pos h38]
      have m_a_an : f_MD_consent_a_an motion trustee z_n z_m z_d z_a z_b z_v z_ep z_su z_mo z_st z_fi z_ob z_bl z_an = z_an := by rw [f_MD_consent_a_an, if_neg h6, if_neg h13, if_pos h26, if_pos h38]
      rw [hg, m0, m_a_fi, m_a_po, m_a_pr, m_a_an]
      refine ⟨(xh_e2 (by decide)).symm, rfl, fun _ _ => rfl, ?_⟩
      show xv_I (t + 1) dealt epoch signing pp qq shares checks (xl_up powers motion.toNatClampNeg (powers motion.toNatClampNeg)) (xl_up challenges motion.toNatClampNeg (challenges motion.toNatClampNeg)) (xl_up answers motion.toNatClampNeg (answers motion.toNatClampNeg)) z_n z_m z_d z_a z_b z_v z_ep z_su z_by z_mo z_st z_bl z_fi z_ob z_po z_pr z_an z_bk
      rw [xl_id, xl_id, xl_id]
      exact xv_up hI
  have h39 : f_ST_isIn z_su trustee = 0 := hbt.mpr h38
  by_cases h47 : f_MD_voice motion trustee z_fi z_ob = 0
  rotate_left
  · have h36 := fun z => h47 (hvo.mpr z)
    have hg : g_ST_consent motion trustee z_mo z_su (z_st motion.toNatClampNeg) (z_fi motion.toNatClampNeg) (z_ob motion.toNatClampNeg) = some xt_IS := by rw [g_ST_consent, xt_el0 (sm_at1 h6), xt_el0 (sm_tr1 h13), xt_el0 (sm_op0 h26), xt_el1 (sm_nv1 h36), sm_nv1 h36]
    have m0 : f_MD_consent_thrownCode motion trustee z_su z_mo z_st z_fi z_ob = 2 := by rw [f_MD_consent_thrownCode, if_neg h6, if_neg h13, if_pos h26, if_neg h38, if_neg h47]
    have m_a_fi : f_MD_consent_a_fi motion trustee z_su z_mo z_st z_fi z_ob = z_fi := by rw [f_MD_consent_a_fi, if_neg h6, if_neg h13, if_pos h26, if_neg h38, if_neg h47]
    have m_a_po : f_MD_consent_a_po motion trustee z_n z_m z_d z_a z_b z_su z_mo z_st z_fi z_ob z_bl z_po = z_po := by rw [f_MD_consent_a_po, if_neg h6, if_neg h13, if_pos h26, if_neg h38, if_neg h47]
    have m_a_pr : f_MD_consent_a_pr motion trustee z_n z_m z_d z_a z_b z_v z_ep z_su z_mo z_st z_fi z_ob z_bl z_pr = z_pr := by rw [f_MD_consent_a_pr, if_neg h6, if_neg h13, if_pos h26, if_neg h38, if_neg h47]
    have m_a_an : f_MD_consent_a_an motion trustee z_n z_m z_d z_a z_b z_v z_ep z_su z_mo z_st z_fi z_ob z_bl z_an = z_an := by rw [f_MD_consent_a_an, if_neg h6, if_neg h13, if_pos h26, if_neg h38, if_neg h47]
    rw [hg, m0, m_a_fi, m_a_po, m_a_pr, m_a_an]
    refine ⟨(xh_e2 (by decide)).symm, rfl, fun _ _ => rfl, ?_⟩
    show xv_I (t + 1) dealt epoch signing pp qq shares checks (xl_up powers motion.toNatClampNeg (powers motion.toNatClampNeg)) (xl_up challenges motion.toNatClampNeg (challenges motion.toNatClampNeg)) (xl_up answers motion.toNatClampNeg (answers motion.toNatClampNeg)) z_n z_m z_d z_a z_b z_v z_ep z_su z_by z_mo z_st z_bl z_fi z_ob z_po z_pr z_an z_bk
    rw [xl_id, xl_id, xl_id]
    exact xv_up hI
  have h36 := hvo.mp h47
  have hg : g_ST_consent motion trustee z_mo z_su (z_st motion.toNatClampNeg) (z_fi motion.toNatClampNeg) (z_ob motion.toNatClampNeg) = none := by rw [g_ST_consent, xt_el0 (sm_at1 h6), xt_el0 (sm_tr1 h13), xt_el0 (sm_op0 h26), xt_el0 (sm_nv0 h36), if_pos h39]
  have q0 : f_MD_consent_thrownCode motion trustee z_su z_mo z_st z_fi z_ob = 0 := by rw [f_MD_consent_thrownCode, if_neg h6, if_neg h13, if_pos h26, if_neg h38, if_pos h47]
  rw [show f_MD_consent_a_fi motion trustee z_su z_mo z_st z_fi z_ob = _ from by rw [f_MD_consent_a_fi, if_neg h6, if_neg h13, if_pos h26, if_neg h38, if_pos h47]]
  rw [show f_MD_consent_a_po motion trustee z_n z_m z_d z_a z_b z_su z_mo z_st z_fi z_ob z_bl z_po = _ from by rw [f_MD_consent_a_po, if_neg h6, if_neg h13, if_pos h26, if_neg h38, if_pos h47]]
  rw [show f_MD_consent_a_pr motion trustee z_n z_m z_d z_a z_b z_v z_ep z_su z_mo z_st z_fi z_ob z_bl z_pr = _ from by rw [f_MD_consent_a_pr, if_neg h6, if_neg h13, if_pos h26, if_neg h38, if_pos h47]]
  rw [show f_MD_consent_a_an motion trustee z_n z_m z_d z_a z_b z_v z_ep z_su z_mo z_st z_fi z_ob z_bl z_an = _ from by rw [f_MD_consent_a_an, if_neg h6, if_neg h13, if_pos h26, if_neg h38, if_pos h47]]
  rw [hg, q0]
  have hky := (xv_kn hI (xv_isn hI h6)).2
  obtain ⟨p, c, z, y1, y2, y3, y4, y5, y6⟩ := sg_make (motion := motion) (z_bl := z_bl) (z_ep := z_ep) (pw := powers motion.toNatClampNeg) (an := answers motion.toNatClampNeg) (cg := challenges motion.toNatClampNeg) (z_po := z_po) (z_pr := z_pr) (z_an := z_an) hky hvT bl2 bln
  have hep := hI.2.2.2.2.1.1
  rw [← hep] at y1 y2 y3
  refine ⟨rfl, ?_, fun j hj => sm_u2 _ _ hj, ?_⟩
  · rw [sm_u1]
    show f_ST_consent_partials _ _ _ _ _ _ _ = _
    rw [f_ST_consent_partials, xt_el0 (sm_at1 h6), xt_el0 (sm_tr1 h13), xt_el0 (sm_op0 h26), xt_el0 (sm_nv0 h36), if_pos h39]
    rfl
  · rw [y4, y5, y6, show f_ST_consent_PW motion trustee z_mo z_su epoch z_v z_n shares checks (z_st motion.toNatClampNeg) (z_bl motion.toNatClampNeg) (z_fi motion.toNatClampNeg) (z_ob motion.toNatClampNeg) (powers motion.toNatClampNeg) = _ from by rw [f_ST_consent_PW, xt_el0 (sm_at1 h6), xt_el0 (sm_tr1 h13), xt_el0 (sm_op0 h26), xt_el0 (sm_nv0 h36), if_pos h39], show f_ST_consent_CG motion trustee z_mo z_su epoch z_v z_n shares checks (z_st motion.toNatClampNeg) (z_bl motion.toNatClampNeg) (z_fi motion.toNatClampNeg) (z_ob motion.toNatClampNeg) (challenges motion.toNatClampNeg) = _ from by rw [f_ST_consent_CG, xt_el0 (sm_at1 h6), xt_el0 (sm_tr1 h13), xt_el0 (sm_op0 h26), xt_el0 (sm_nv0 h36), if_pos h39], show f_ST_consent_AN motion trustee z_mo z_su epoch z_v z_n shares checks (z_st motion.toNatClampNeg) (z_bl motion.toNatClampNeg) (z_fi motion.toNatClampNeg) (z_ob motion.toNatClampNeg) (answers motion.toNatClampNeg) = _ from by rw [f_ST_consent_AN, xt_el0 (sm_at1 h6), xt_el0 (sm_tr1 h13), xt_el0 (sm_op0 h26), xt_el0 (sm_nv0 h36), if_pos h39], y1, y2, y3]
    exact xv_fi hI (sm_or1 ⟨f0, f1⟩ hvT) (fun k hk i hi => ⟨sp_pw (fun k hk i hi => (hI.2.2.2.2.2.1 k hk i hi).1) hvM hvT k hk i hi, sp_cg (fun k hk i hi => (hI.2.2.2.2.2.1 k hk i hi).2.1) hvM hvT k hk i hi, sp_pw (fun k hk i hi => (hI.2.2.2.2.2.1 k hk i hi).2.2) hvM hvT k hk i hi⟩)
end SLD
