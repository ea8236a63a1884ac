/-! the steps: motion, verify, consent -/
section SLC
theorem sw_mix (x : Int64) : ∃ k : Nat, (f_ST_mixOf x).toInt = k ∧ k < 2147483648 := by
  unfold f_ST_mixOf
  have e : ((33 : Int32).toInt64.toUInt64 &&& Int64.toUInt64 63) = 33 := by decide
  rw [e]
  have h1 : (x.toUInt64 >>> 33).toNat < 2147483648 := by
    rw [UInt64.toNat_shiftRight]
    have h2 := x.toUInt64.toNat_lt
    show x.toUInt64.toNat >>> 33 < 2147483648
    rw [Nat.shiftRight_eq_div_pow]
    exact Nat.div_lt_of_lt_mul (by omega)
  refine ⟨(x.toUInt64 >>> 33).toNat, ?_, h1⟩
  show (x.toUInt64 >>> 33).toBitVec.toInt = _
  rw [BitVec.toInt_eq_toNat_of_lt (by
    show 2 * (x.toUInt64 >>> 33).toNat < 2 ^ 64
    omega)]
  rfl
theorem sw_n3 {z_n : Int64} {N : Nat} (hn : z_n.toInt = N) (h4 : 400 ≤ N) (hN : N ≤ 1073676289) : (z_n - (3 : Int64)).toInt = (N - 3 : Nat) := nu_sub hn (show (3 : Int64).toInt = (3 : Nat) from rfl) (by omega) (by omega)
theorem sw_loop {z_n : Int64} {N : Nat} {z_by : Int32} {z_buf : Nat → Int32} (hn : z_n.toInt = N) (h4 : 400 ≤ N) (hN : N ≤ 1073676289) : ∀ (n : Nat) (i : Int32) (hv : Int64), (z_by.toInt - i.toInt).toNat < n → lf_MD_blockOf_6_0 z_n z_by z_buf n i hv = (2 : Int64) + f_ST_rest (lf_BU_mix_6 z_buf z_by n hv i) (z_n - (3 : Int64)) := by
  intro n
  induction n with
  | zero =>
    intro i hv h
    omega
  | succ n ih =>
    intro i hv h
    rw [lf_MD_blockOf_6_0, lf_BU_mix_6]
    by_cases h1 : z_by ≤ i
    · rw [if_pos h1, if_pos h1]
      obtain ⟨k, hk, -⟩ := sw_mix (f_ST_mixIn hv z_by.toInt64)
      rw [nu_same hk (sw_n3 hn h4 hN) (by omega)]
      rfl
    · rw [if_neg h1, if_neg h1]
      rw [ih (i + 1) _ (xi_up h1 h)]
      rfl
theorem sw_block {z_n : Int64} {N : Nat} {z_by : Int32} {z_buf : Nat → Int32} (hn : z_n.toInt = N) (h4 : 400 ≤ N) (hN : N ≤ 1073676289) (hb : z_by.toInt ≤ 24) : f_KE_blockOf z_n z_buf z_by = f_MD_blockOf z_n z_by z_buf ∧ 2 ≤ (f_MD_blockOf z_n z_by z_buf).toInt ∧ (f_MD_blockOf z_n z_by z_buf).toInt < N := by
  have h1 : f_MD_blockOf z_n z_by z_buf = f_KE_blockOf z_n z_buf z_by := by
    unfold f_MD_blockOf f_KE_blockOf f_BU_mix
    rw [sw_loop hn h4 hN 25 0 _ (by rw [show (0 : Int32).toInt = 0 from rfl]; omega)]
    rfl
  refine ⟨h1.symm, ?_⟩
  rw [h1]
  unfold f_KE_blockOf
  have h2 : (f_ST_rest (f_BU_mix z_buf z_by) (z_n - (3 : Int64))).toInt = (f_BU_mix z_buf z_by).toInt % (N - 3 : Nat) := by
    rw [nu_restI (by rw [sw_n3 hn h4 hN]; omega), sw_n3 hn h4 hN]
  have h3 := Int.emod_nonneg (f_BU_mix z_buf z_by).toInt (show ((N - 3 : Nat) : Int) ≠ 0 by omega)
  have h5 := Int.emod_lt_of_pos (f_BU_mix z_buf z_by).toInt (show 0 < ((N - 3 : Nat) : Int) by omega)
  have h6 : ((2 : Int64) + f_ST_rest (f_BU_mix z_buf z_by) (z_n - (3 : Int64))).toInt = 2 + (f_BU_mix z_buf z_by).toInt % (N - 3 : Nat) := by
    rw [Int64.toInt_add, h2, show (2 : Int64).toInt = 2 from rfl]
    exact Int.bmod_eq_of_le (by omega) (by omega)
  rw [h6]
  omega
theorem sw_doc0 {size : Int32} : g_ST_requireDocument 0 size = some xt_IS := rfl
theorem sw_doc1 {size : Int32} (h : size = 0) : g_ST_requireDocument 1 size = some xt_IS := by
  rw [h]
  rfl
theorem sw_doc2 {size : Int32} (h : ¬ size = 0) : g_ST_requireDocument 1 size = none := by
  rw [g_ST_requireDocument, xt_el0 sd_rk1, if_neg (show ¬ f_BU_count size = 0 from h)]
theorem sl_verify {t : Nat} {dealt : Int32} {epoch : Int64} {signing : Int64} {pp : Int64} {qq : Int64} {shares : Nat → Int64} {checks : Nat → Int64} {powers : Nat → Nat → Int64} {challenges : Nat → Nat → Int32} {answers : Nat → Nat → Int64} {z_n : Int64} {z_m : Int64} {z_d : Int64} {z_a : Int64} {z_b : Int64} {z_v : Int64} {z_ep : Int32} {z_su : Int32} {z_buf : Nat → Int32} {z_by : Int32} {z_mo : Int32} {z_st : Nat → Int32} {z_bl : Nat → Int64} {z_fi : Nat → Int32} {z_ob : Nat → Int32} {z_po : Nat → Int64} {z_pr : Nat → Int32} {z_an : Nat → Int64} {z_bk : Int32} {outf : Nat → Int64} {sig_ : Int64} (hI : xv_I t dealt epoch signing pp qq shares checks powers challenges answers z_n z_m z_d z_a z_b z_v z_ep z_su z_by z_mo z_st z_bl z_fi z_ob z_po z_pr z_an z_bk) : f_MD_verify_thrownCode sig_ z_n z_by z_buf = xh_c xt_IS xt_NS (g_ST_verify dealt z_by) ∧ (xh_c xt_IS xt_NS (g_ST_verify dealt z_by) = 0 → (xt_el (g_ST_verify dealt z_by) outf (vp_updL outf (0 : Int32).toNatClampNeg (if f_ST_verify sig_ dealt z_n z_by z_buf = 0 then (0 : Int64) else (1 : Int64)))) (0 : Int32).toNatClampNeg = (if f_MD_verify sig_ z_n z_by z_buf = 0 then (0 : Int64) else (1 : Int64))) ∧ xv_I (t + 1) dealt epoch signing pp qq shares checks powers challenges answers z_n z_m z_d z_a z_b z_v z_ep z_su z_by z_mo z_st z_bl z_fi z_ob z_po z_pr z_an z_bk := by
  rcases sd_k hI with ⟨k1, k2, -⟩ | ⟨k1, k2, k3⟩
  · have hg : g_ST_verify dealt z_by = some xt_IS := by rw [g_ST_verify, k2, xt_el1 sw_doc0, sw_doc0]
    rw [hg, f_MD_verify_thrownCode, if_pos k1]
    exact ⟨xh_e1.symm, fun z => absurd (xh_e1.symm.trans z) (by decide), xv_up hI⟩
  by_cases h14 : z_by = 0
  · have hg : g_ST_verify dealt z_by = some xt_IS := by rw [g_ST_verify, k2, xt_el1 (sw_doc1 h14), sw_doc1 h14]
    rw [hg, f_MD_verify_thrownCode, if_neg k1, if_pos h14]
    exact ⟨xh_e1.symm, fun z => absurd (xh_e1.symm.trans z) (by decide), xv_up hI⟩
  obtain ⟨N, hn, h4, hN⟩ := sk_nat k3
  obtain ⟨hbe, -, -⟩ := sw_block (z_by := z_by) (z_buf := z_buf) hn h4 hN hI.1.2
  have hg : g_ST_verify dealt z_by = none := by rw [g_ST_verify, k2, xt_el0 (sw_doc2 h14)]
  have hs : f_ST_verify sig_ dealt z_n z_by z_buf = f_KE_isSignature sig_ (f_MD_blockOf z_n z_by z_buf) z_n := by rw [f_ST_verify, k2, xt_el0 (sw_doc2 h14), hbe]
  rw [hg]
  refine ⟨?_, fun _ => ?_, xv_up hI⟩
  · rw [f_MD_verify_thrownCode, if_neg k1, if_neg h14]
    repeat' split
    all_goals rfl
  · show (if f_ST_verify _ _ _ _ _ = 0 then (0 : Int64) else 1) = _
    rw [hs, f_MD_verify, if_neg k1, if_neg h14, f_KE_isSignature, f_KE_isBelowModulus]
    by_cases c1 : sig_ < 0
    · rw [if_pos c1, if_pos c1]
      rfl
    · rw [if_neg c1, if_neg c1]
      by_cases c2 : z_n ≤ sig_
      · rw [if_pos c2, if_pos c2]
        rfl
      · rw [if_neg c2, if_neg c2, if_neg (show ¬ (1 : Int32) = 0 by decide)]
        rw [Int64.lt_iff_toInt_lt, show (0 : Int64).toInt = 0 from rfl] at c1
        rw [f_KE_power, nu_pr (x := sig_.toInt.toNat) (k := 65537) (M := N) (by omega) rfl hn (by omega) (by omega)]
theorem sl_motion {t : Nat} {dealt : Int32} {epoch : Int64} {signing : Int64} {pp : Int64} {qq : Int64} {shares : Nat → Int64} {checks : Nat → Int64} {powers : Nat → Nat → Int64} {challenges : Nat → Nat → Int32} {answers : Nat → Nat → Int64} {z_n : Int64} {z_m : Int64} {z_d : Int64} {z_a : Int64} {z_b : Int64} {z_v : Int64} {z_ep : Int32} {z_su : Int32} {z_buf : Nat → Int32} {z_by : Int32} {z_mo : Int32} {z_st : Nat → Int32} {z_bl : Nat → Int64} {z_fi : Nat → Int32} {z_ob : Nat → Int32} {z_sg : Nat → Int64} {z_po : Nat → Int64} {z_pr : Nat → Int32} {z_an : Nat → Int64} {z_bk : Int32} {outf : Nat → Int64}  (hI : xv_I t dealt epoch signing pp qq shares checks powers challenges answers z_n z_m z_d z_a z_b z_v z_ep z_su z_by z_mo z_st z_bl z_fi z_ob z_po z_pr z_an z_bk) : f_MD_motion_thrownCode z_n z_by z_mo = xh_c xt_IS xt_NS (g_ST_motion z_mo dealt z_by) ∧ (xh_c xt_IS xt_NS (g_ST_motion z_mo dealt z_by) = 0 → (xt_el (g_ST_motion z_mo dealt z_by) outf (vp_updL outf (0 : Int32).toNatClampNeg (f_ST_motion z_mo dealt z_by).toInt64)) (0 : Int32).toNatClampNeg = (f_MD_motion z_n z_by z_mo).toInt64) ∧ xt_el (g_ST_motion z_mo dealt z_by) z_mo (f_ST_motion_motionCount z_mo dealt z_by) = f_MD_motion_motions z_n z_by z_mo ∧ xt_el (g_ST_motion z_mo dealt z_by) z_by (f_ST_motion_size z_mo dealt z_by) = f_MD_motion_bytes z_n z_by z_mo ∧ xt_el (g_ST_motion z_mo dealt z_by) (z_st (xl_ix z_mo)) (f_ST_motion_standing z_mo dealt z_n z_by z_buf) = (f_MD_motion_a_st z_n z_by z_mo z_st) (xl_ix z_mo) ∧ xt_el (g_ST_motion z_mo dealt z_by) (z_bl (xl_ix z_mo)) (f_ST_motion_block z_mo dealt z_n z_by z_buf) = (f_MD_motion_a_bl z_n z_by z_mo z_buf z_bl) (xl_ix z_mo) ∧ xt_el (g_ST_motion z_mo dealt z_by) (z_fi (xl_ix z_mo)) (f_ST_motion_partials z_mo dealt z_n z_by z_buf) = (f_MD_motion_a_fi z_n z_by z_mo z_fi) (xl_ix z_mo) ∧ xt_el (g_ST_motion z_mo dealt z_by) (z_ob (xl_ix z_mo)) (f_ST_motion_objections z_mo dealt z_n z_by z_buf) = (f_MD_motion_a_ob z_n z_by z_mo z_ob) (xl_ix z_mo) ∧ xt_el (g_ST_motion z_mo dealt z_by) (z_sg (xl_ix z_mo)) (f_ST_motion_signature z_mo dealt z_n z_by z_buf) = (f_MD_motion_a_si z_n z_by z_mo z_sg) (xl_ix z_mo) ∧ (∀ j, ¬ j = (xl_ix z_mo) → (f_MD_motion_a_st z_n z_by z_mo z_st) j = z_st j) ∧ (∀ j, ¬ j = (xl_ix z_mo) → (f_MD_motion_a_bl z_n z_by z_mo z_buf z_bl) j = z_bl j) ∧ (∀ j, ¬ j = (xl_ix z_mo) → (f_MD_motion_a_fi z_n z_by z_mo z_fi) j = z_fi j) ∧ (∀ j, ¬ j = (xl_ix z_mo) → (f_MD_motion_a_ob z_n z_by z_mo z_ob) j = z_ob j) ∧ (∀ j, ¬ j = (xl_ix z_mo) → (f_MD_motion_a_si z_n z_by z_mo z_sg) j = z_sg j) ∧ xv_I (t + 1) dealt epoch signing pp qq shares checks powers challenges answers z_n z_m z_d z_a z_b z_v z_ep z_su (f_MD_motion_bytes z_n z_by z_mo) (f_MD_motion_motions z_n z_by z_mo) (f_MD_motion_a_st z_n z_by z_mo z_st) (f_MD_motion_a_bl z_n z_by z_mo z_buf z_bl) (f_MD_motion_a_fi z_n z_by z_mo z_fi) (f_MD_motion_a_ob z_n z_by z_mo z_ob) z_po z_pr z_an z_bk := by
  have hbad : ∀ (k : Nat), g_ST_motion z_mo dealt z_by = some xt_IS → xt_el (some xt_IS) (0 : Nat) k = 0 := fun _ _ => rfl
  rcases sd_k hI with ⟨k1, k2, -⟩ | ⟨k1, k2, k3⟩
  · have hg : g_ST_motion z_mo dealt z_by = some xt_IS := by rw [g_ST_motion, k2, xt_el1 sw_doc0, sw_doc0]
    rw [hg, f_MD_motion_thrownCode, f_MD_motion_motions, f_MD_motion_bytes, f_MD_motion_a_bl, f_MD_motion_a_st, f_MD_motion_a_fi, f_MD_motion_a_ob, f_MD_motion_a_si, if_pos k1, if_pos k1, if_pos k1, if_pos k1, if_pos k1, if_pos k1, if_pos k1, if_pos k1]
    exact ⟨xh_e1.symm, fun z => absurd (xh_e1.symm.trans z) (by decide), rfl, rfl, rfl, rfl, rfl, rfl, rfl, fun _ _ => rfl, fun _ _ => rfl, fun _ _ => rfl, fun _ _ => rfl, fun _ _ => rfl, xv_up hI⟩
  by_cases h14 : z_by = 0
  · have hg : g_ST_motion z_mo dealt z_by = some xt_IS := by rw [g_ST_motion, k2, xt_el1 (sw_doc1 h14), sw_doc1 h14]
    rw [hg, f_MD_motion_thrownCode, f_MD_motion_motions, f_MD_motion_bytes, f_MD_motion_a_bl, f_MD_motion_a_st, f_MD_motion_a_fi, f_MD_motion_a_ob, f_MD_motion_a_si, if_neg k1, if_neg k1, if_neg k1, if_neg k1, if_neg k1, if_neg k1, if_neg k1, if_neg k1, if_pos h14, if_pos h14, if_pos h14, if_pos h14, if_pos h14, if_pos h14, if_pos h14, if_pos h14]
    exact ⟨xh_e1.symm, fun z => absurd (xh_e1.symm.trans z) (by decide), rfl, rfl, rfl, rfl, rfl, rfl, rfl, fun _ _ => rfl, fun _ _ => rfl, fun _ _ => rfl, fun _ _ => rfl, fun _ _ => rfl, xv_up hI⟩
  have hq := hI.2.1
  by_cases h12 : z_mo = 12
  · have h12' : ¬ z_mo < 12 := by rw [h12]; decide
    have hg : g_ST_motion z_mo dealt z_by = some xt_IS := by rw [g_ST_motion, k2, xt_el0 (sw_doc2 h14), if_neg h12']
    rw [hg, f_MD_motion_thrownCode, f_MD_motion_motions, f_MD_motion_bytes, f_MD_motion_a_bl, f_MD_motion_a_st, f_MD_motion_a_fi, f_MD_motion_a_ob, f_MD_motion_a_si, if_neg k1, if_neg k1, if_neg k1, if_neg k1, if_neg k1, if_neg k1, if_neg k1, if_neg k1, if_neg h14, if_neg h14, if_neg h14, if_neg h14, if_neg h14, if_neg h14, if_neg h14, if_neg h14, if_pos h12, if_pos h12, if_pos h12, if_pos h12, if_pos h12, if_pos h12, if_pos h12, if_pos h12]
    exact ⟨xh_e1.symm, fun z => absurd (xh_e1.symm.trans z) (by decide), rfl, rfl, rfl, rfl, rfl, rfl, rfl, fun _ _ => rfl, fun _ _ => rfl, fun _ _ => rfl, fun _ _ => rfl, fun _ _ => rfl, xv_up hI⟩
  have hne : z_mo.toInt ≠ 12 := xt_ne h12
  have hlt : z_mo < 12 := by
    rw [Int32.lt_iff_toInt_lt, show (12 : Int32).toInt = 12 from rfl]
    omega
  have hk := xl_ix_in (xm_mo h12 hq.1 hq.2)
  rw [hk]
  obtain ⟨N, hn, h4, hN⟩ := sk_nat k3
  obtain ⟨hbe, b2, bN⟩ := sw_block (z_by := z_by) (z_buf := z_buf) hn h4 hN hI.1.2
  have hg : g_ST_motion z_mo dealt z_by = none := by rw [g_ST_motion, k2, xt_el0 (sw_doc2 h14), if_pos hlt]
  rw [hg, f_MD_motion, f_MD_motion_thrownCode, f_MD_motion_motions, f_MD_motion_bytes, f_MD_motion_a_bl, f_MD_motion_a_st, f_MD_motion_a_fi, f_MD_motion_a_ob, f_MD_motion_a_si, if_neg k1, if_neg h14, if_neg h12, if_neg k1, if_neg k1, if_neg k1, if_neg k1, if_neg k1, if_neg k1, if_neg k1, if_neg k1, if_neg h14, if_neg h14, if_neg h14, if_neg h14, if_neg h14, if_neg h14, if_neg h14, if_neg h14, if_neg h12, if_neg h12, if_neg h12, if_neg h12, if_neg h12, if_neg h12, if_neg h12, if_neg h12]
  have hd := sw_doc2 h14
  have hup : (z_mo + 1).toInt = z_mo.toInt + 1 := xi_inc (by omega)
  have hkl : z_mo.toNatClampNeg = z_mo.toInt.toNat := rfl
  refine ⟨rfl, fun _ => ?_, ?_, ?_, ?_, ?_, ?_, ?_, ?_, fun j hj => sm_u2 _ _ hj, fun j hj => sm_v2 _ _ hj, fun j hj => sm_u2 _ _ hj, fun j hj => sm_u2 _ _ hj, fun j hj => sm_v2 _ _ hj, ?_⟩
  · show (f_ST_motion _ _ _).toInt64 = _
    rw [f_ST_motion, k2, xt_el0 hd, if_pos hlt]
  · show f_ST_motion_motionCount _ _ _ = _
    rw [f_ST_motion_motionCount, k2, xt_el0 hd, if_pos hlt]
  · show f_ST_motion_size _ _ _ = _
    rw [f_ST_motion_size, k2, xt_el0 hd, if_pos hlt]
    rfl
  · rw [sm_u1]
    show f_ST_motion_standing _ _ _ _ _ = _
    rw [f_ST_motion_standing, k2, xt_el0 hd, if_pos hlt]
    rfl
  · rw [sm_v1]
    show f_ST_motion_block _ _ _ _ _ = _
    rw [f_ST_motion_block, k2, xt_el0 hd, if_pos hlt, hbe]
    rfl
  · rw [sm_u1]
    show f_ST_motion_partials _ _ _ _ _ = _
    rw [f_ST_motion_partials, k2, xt_el0 hd, if_pos hlt]
    rfl
  · rw [sm_u1]
    show f_ST_motion_objections _ _ _ _ _ = _
    rw [f_ST_motion_objections, k2, xt_el0 hd, if_pos hlt]
    rfl
  · rw [sm_v1]
    show f_ST_motion_signature _ _ _ _ _ = _
    rw [f_ST_motion_signature, k2, xt_el0 hd, if_pos hlt]
    rfl
  · obtain ⟨a1, a2, a3, a4, a5, a6, a7, a8⟩ := xv_up hI
    refine ⟨⟨by decide, by decide⟩, ⟨by omega, by omega⟩, ⟨a3.1, ?_⟩, a4, a5, a6, fun k hkz => ?_, Or.inr ⟨k2, k3⟩⟩
    · rw [← a3.2, show (z_mo + 1).toInt.toNat = z_mo.toInt.toNat + 1 by omega, List.range_succ, List.filter_append, List.filter_cons_of_neg (by rw [hkl, sm_u1]; decide)]
      rw [List.filter_nil, List.append_nil]
      refine sc_same (fun k hk9 => ?_)
      rw [sm_u2 _ _ (by omega)]
    · by_cases h : k = z_mo.toNatClampNeg
      · subst h
        refine ⟨?_, ?_, ?_, ?_, fun _ => ?_, ?_, ?_⟩
        · rw [sm_u1]
          decide
        · rw [sm_u1]
          decide
        · rw [sm_u1]
          decide
        · rw [sm_u1]
          decide
        · rw [sm_u1]
          decide
        · rw [sm_v1]
          exact b2
        · rw [sm_v1, hn]
          exact bN
      · obtain ⟨c0, c1, d0, d1, w3, w4, w5⟩ := a7 k (by rw [hkl] at h; omega)
        exact ⟨by rw [sm_u2 _ _ h]; exact c0, by rw [sm_u2 _ _ h]; exact c1, by rw [sm_u2 _ _ h]; exact d0, by rw [sm_u2 _ _ h]; exact d1, fun z => by rw [sm_u2 _ _ h] at z ⊢; exact w3 z, by rw [sm_v2 _ _ h]; exact w4, by rw [sm_v2 _ _ h]; exact w5⟩
end SLC
