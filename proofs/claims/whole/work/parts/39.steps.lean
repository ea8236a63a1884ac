/-! the steps: state, suspend, put, motion, verify, partials read -/
section SLB
theorem sd_k {t : Nat} {dealt : Int32} {epoch : Int64} {signing : Int64} {pp : Int64} {qq : Int64} {shares : Nat → Int64} {checks : Nat → Int64} {powers : Nat → Nat → Int64} {challenges : Nat → Nat → Int32} {answers : Nat → Nat → Int64} {z_n : Int64} {z_m : Int64} {z_d : Int64} {z_a : Int64} {z_b : Int64} {z_v : Int64} {z_ep : Int32} {z_su : Int32} {z_by : Int32} {z_mo : Int32} {z_st : Nat → Int32} {z_bl : Nat → Int64} {z_fi : Nat → Int32} {z_ob : Nat → Int32} {z_po : Nat → Int64} {z_pr : Nat → Int32} {z_an : Nat → Int64} {z_bk : Int32} (hI : xv_I t dealt epoch signing pp qq shares checks powers challenges answers z_n z_m z_d z_a z_b z_v z_ep z_su z_by z_mo z_st z_bl z_fi z_ob z_po z_pr z_an z_bk) : (z_n = 0 ∧ dealt = 0 ∧ z_mo = 0) ∨ (¬ z_n = 0 ∧ dealt = 1 ∧ xv_key signing pp qq shares checks z_n z_m z_d z_a z_b z_v) := by
  rcases hI.2.2.2.2.2.2.2 with h | h
  · exact Or.inl h
  · exact Or.inr ⟨(xv_kz h.2).2.1, h⟩
theorem sd_rk0 : g_ST_requireKey 0 = some xt_IS := rfl
theorem sd_rk1 : g_ST_requireKey 1 = none := rfl
theorem sk_nat {signing pp qq : Int64} {shares checks : Nat → Int64} {z_n z_m z_d z_a z_b z_v : Int64} (h : xv_key signing pp qq shares checks z_n z_m z_d z_a z_b z_v) : ∃ N : Nat, z_n.toInt = N ∧ 400 ≤ N ∧ N ≤ 1073676289 := by
  obtain ⟨a, b, hpq, h1, -⟩ := h
  obtain ⟨-, -, p3, p4⟩ := xv_pos hpq
  exact ⟨_, h1, p3, p4⟩
theorem sx_6 {x : Int32} (h : vp_in x 6) : Int32.ofNat x.toNatClampNeg = x := by
  obtain ⟨k, hk, rfl⟩ := sm_6 h
  have h2 : (Int32.ofNat k).toInt = k := by
    rw [Int32.toInt_ofNat', show Int32.size = 4294967296 from rfl]
    exact Int.bmod_eq_of_le (by omega) (by omega)
  show Int32.ofNat (Int32.ofNat k).toInt.toNat = _
  rw [h2]
  rfl
theorem sl_state {t : Nat} {dealt : Int32} {epoch : Int64} {signing : Int64} {pp : Int64} {qq : Int64} {shares : Nat → Int64} {checks : Nat → Int64} {powers : Nat → Nat → Int64} {challenges : Nat → Nat → Int32} {answers : Nat → Nat → Int64} {z_n : Int64} {z_m : Int64} {z_d : Int64} {z_a : Int64} {z_b : Int64} {z_v : Int64} {z_ep : Int32} {z_su : Int32} {z_by : Int32} {z_mo : Int32} {z_st : Nat → Int32} {z_bl : Nat → Int64} {z_fi : Nat → Int32} {z_ob : Nat → Int32} {z_po : Nat → Int64} {z_pr : Nat → Int32} {z_an : Nat → Int64} {z_bk : Int32} {outf : Nat → Int64} {what : Int32} (hI : xv_I t dealt epoch signing pp qq shares checks powers challenges answers z_n z_m z_d z_a z_b z_v z_ep z_su z_by z_mo z_st z_bl z_fi z_ob z_po z_pr z_an z_bk) : f_MD_state_thrownCode what z_n = xh_c xt_IA xt_IS (g_ST_state what dealt) ∧ (xh_c xt_IA xt_IS (g_ST_state what dealt) = 0 → (xt_el (g_ST_state what dealt) outf (vp_updL outf (0 : Int32).toNatClampNeg (f_ST_state what z_mo z_su dealt epoch z_n checks z_by))) (0 : Int32).toNatClampNeg = (f_MD_state what z_n z_m z_d z_a z_b z_v z_ep z_su z_by z_mo)) ∧ xv_I (t + 1) dealt epoch signing pp qq shares checks powers challenges answers z_n z_m z_d z_a z_b z_v z_ep z_su z_by z_mo z_st z_bl z_fi z_ob z_po z_pr z_an z_bk := by
  by_cases h1 : what < 0
  · refine ⟨?_, fun z => ?_, xv_up hI⟩
    · rw [f_MD_state_thrownCode, if_pos h1, g_ST_state, if_pos h1]
      exact xh_e1.symm
    · rw [g_ST_state, if_pos h1, xh_e1] at z
      exact absurd z (by decide)
  by_cases h2 : what ≤ 10
  rotate_left
  · refine ⟨?_, fun z => ?_, xv_up hI⟩
    · rw [f_MD_state_thrownCode, if_neg h1, if_neg h2, g_ST_state, if_neg h1, if_neg h2]
      exact xh_e1.symm
    · rw [g_ST_state, if_neg h1, if_neg h2, xh_e1] at z
      exact absurd z (by decide)
  have hg : g_ST_state what dealt = none := by
    rw [g_ST_state, if_neg h1, if_pos h2]
    repeat' split
    all_goals rfl
  have ht : f_MD_state_thrownCode what z_n = 0 := by
    rw [f_MD_state_thrownCode, if_neg h1, if_pos h2]
    repeat' split
    all_goals rfl
  rw [hg, ht]
  refine ⟨rfl, fun _ => ?_, xv_up hI⟩
  show f_ST_state _ _ _ _ _ _ _ _ = _
  rw [f_MD_state, f_ST_state, if_neg h1, if_pos h2, if_neg h1, if_pos h2]
  by_cases h4 : what = 4
  · rw [if_pos h4, if_pos h4]
    rfl
  rw [if_neg h4, if_neg h4]
  rcases sd_k hI with ⟨k1, k2, -⟩ | ⟨k1, k2, k3⟩
  · rw [if_pos k1, if_pos k2]
  have hd : ¬ dealt = 0 := by rw [k2]; decide
  rw [if_neg k1, if_neg hd]
  by_cases e0 : what = (0 : Int32)
  · rw [if_pos e0, if_pos e0]
  rw [if_neg e0, if_neg e0]
  by_cases e1 : what = (1 : Int32)
  · rw [if_pos e1, if_pos e1]
    exact hI.2.2.2.2.1.1
  rw [if_neg e1, if_neg e1]
  by_cases e2 : what = (2 : Int32)
  · rw [if_pos e2, if_pos e2]
  rw [if_neg e2, if_neg e2]
  by_cases e3 : what = (3 : Int32)
  · rw [if_pos e3, if_pos e3]
  rw [if_neg e3, if_neg e3]
  have hv := xs_w5 h1 h2 h4 (xt_ne e0) (xt_ne e1) (xt_ne e2) (xt_ne e3)
  obtain ⟨a, b, -, -, -, -, -, -, -, -, -, -, -, -, -, -, -, -, -, hsc⟩ := k3
  have h5 := vp_in_iff.mp hv
  have h6 := (hsc (what - 5).toNatClampNeg (by show (what - 5).toInt.toNat < 6; omega)).2
  rw [sx_6 hv] at h6
  exact h6
theorem sl_partial {t : Nat} {dealt : Int32} {epoch : Int64} {signing : Int64} {pp : Int64} {qq : Int64} {shares : Nat → Int64} {checks : Nat → Int64} {powers : Nat → Nat → Int64} {challenges : Nat → Nat → Int32} {answers : Nat → Nat → Int64} {z_n : Int64} {z_m : Int64} {z_d : Int64} {z_a : Int64} {z_b : Int64} {z_v : Int64} {z_ep : Int32} {z_su : Int32} {z_by : Int32} {z_mo : Int32} {z_st : Nat → Int32} {z_bl : Nat → Int64} {z_fi : Nat → Int32} {z_ob : Nat → Int32} {z_po : Nat → Int64} {z_pr : Nat → Int32} {z_an : Nat → Int64} {z_bk : Int32} {outf : Nat → Int64} {motion : Int32} {trustee : Int32} {what : Int32} (hI : xv_I t dealt epoch signing pp qq shares checks powers challenges answers z_n z_m z_d z_a z_b z_v z_ep z_su z_by z_mo z_st z_bl z_fi z_ob z_po z_pr z_an z_bk) : f_MD_partial_thrownCode motion trustee what z_mo z_fi = xh_c xt_NS xt_IA (g_ST_partial motion trustee what z_mo (z_fi (xl_ix motion))) ∧ (xh_c xt_NS xt_IA (g_ST_partial motion trustee what z_mo (z_fi (xl_ix motion))) = 0 → (xt_el (g_ST_partial motion trustee what z_mo (z_fi (xl_ix motion))) outf (vp_updL outf (0 : Int32).toNatClampNeg (f_ST_partial motion trustee what z_mo (z_fi (xl_ix motion)) (powers (xl_ix motion)) (challenges (xl_ix motion)) (answers (xl_ix motion))))) (0 : Int32).toNatClampNeg = (f_MD_partial motion trustee what z_mo z_fi z_po z_pr z_an)) ∧ xv_I (t + 1) dealt epoch signing pp qq shares checks powers challenges answers z_n z_m z_d z_a z_b z_v z_ep z_su z_by z_mo z_st z_bl z_fi z_ob z_po z_pr z_an z_bk := by
  by_cases h6 : f_MD_isMotion motion z_mo = 0
  · have hg : g_ST_partial motion trustee what z_mo (z_fi (xl_ix motion)) = some xt_NS := by rw [g_ST_partial, xt_el1 (sm_at0 h6), sm_at0 h6]
    rw [hg]
    refine ⟨?_, fun z => ?_, xv_up hI⟩
    · rw [f_MD_partial_thrownCode, if_pos h6]
      exact xh_e1.symm
    · rw [xh_e1] at z
      exact absurd z (by decide)
  have hvM := xs_isM h6 (xv_mo hI)
  have hk := xl_ix_in hvM
  rw [hk]
  have hMr := xv_isr h6
  obtain ⟨f0, f1, o0, o1, hb3, bl2, bln⟩ := hI.2.2.2.2.2.2.1 motion.toNatClampNeg (by show motion.toInt.toNat < z_mo.toInt.toNat; omega)
  by_cases h13 : f_MD_isTrustee trustee = 0
  · have hg : g_ST_partial motion trustee what z_mo (z_fi motion.toNatClampNeg) = some xt_NS := by rw [g_ST_partial, xt_el0 (sm_at1 h6), xt_el1 (sm_tr0 h13), sm_tr0 h13]
    rw [hg]
    refine ⟨?_, fun z => ?_, xv_up hI⟩
    · rw [f_MD_partial_thrownCode, if_neg h6, if_pos h13]
      exact xh_e1.symm
    · rw [xh_e1] at z
      exact absurd z (by decide)
  have hvT := xs_isT h13
  have hbt := (sm_bit ⟨f0, f1⟩ hvT).2
  by_cases h26 : ((z_fi motion.toNatClampNeg >>> (trustee &&& 31)) &&& (1 : Int32)) = 0
  · have hg : g_ST_partial motion trustee what z_mo (z_fi motion.toNatClampNeg) = some xt_NS := by rw [g_ST_partial, xt_el0 (sm_at1 h6), xt_el0 (sm_tr1 h13), if_pos (hbt.mpr h26)]
    rw [hg]
    refine ⟨?_, fun z => ?_, xv_up hI⟩
    · rw [f_MD_partial_thrownCode, if_neg h6, if_neg h13, if_pos h26]
      exact xh_e1.symm
    · rw [xh_e1] at z
      exact absurd z (by decide)
  have h27 := fun z => h26 (hbt.mp z)
  have h1 := vp_in_iff.mp hvM
  have h2 := vp_in_iff.mp hvT
  have h3 := xs_6i hvM hvT
  have hpw := hI.2.2.2.2.2.1 motion.toNatClampNeg (by show motion.toInt.toNat < 12; omega) trustee.toNatClampNeg (by show trustee.toInt.toNat < 6; omega)
  have hix : 6 * motion.toNatClampNeg + trustee.toNatClampNeg = (((6 : Int32) * motion) + trustee).toNatClampNeg := by
    show 6 * motion.toInt.toNat + trustee.toInt.toNat = (((6 : Int32) * motion) + trustee).toInt.toNat
    omega
  rw [hix] at hpw
  by_cases e0 : what = (0 : Int32)
  · subst e0
    refine ⟨?_, fun _ => ?_, xv_up hI⟩
    · rw [f_MD_partial_thrownCode, if_neg h6, if_neg h13, if_neg h26, g_ST_partial, xt_el0 (sm_at1 h6), xt_el0 (sm_tr1 h13), if_neg h27]
      rfl
    · rw [f_MD_partial, if_neg h6, if_neg h13, if_neg h26, g_ST_partial, xt_el0 (sm_at1 h6), xt_el0 (sm_tr1 h13), if_neg h27, f_ST_partial, xt_el0 (sm_at1 h6), xt_el0 (sm_tr1 h13), if_neg h27]
      exact hpw.1
  by_cases e1 : what = (1 : Int32)
  · subst e1
    refine ⟨?_, fun _ => ?_, xv_up hI⟩
    · rw [f_MD_partial_thrownCode, if_neg h6, if_neg h13, if_neg h26, g_ST_partial, xt_el0 (sm_at1 h6), xt_el0 (sm_tr1 h13), if_neg h27]
      rfl
    · rw [f_MD_partial, if_neg h6, if_neg h13, if_neg h26, g_ST_partial, xt_el0 (sm_at1 h6), xt_el0 (sm_tr1 h13), if_neg h27, f_ST_partial, xt_el0 (sm_at1 h6), xt_el0 (sm_tr1 h13), if_neg h27]
      exact congrArg Int32.toInt64 hpw.2.1
  by_cases e2 : what = (2 : Int32)
  · subst e2
    refine ⟨?_, fun _ => ?_, xv_up hI⟩
    · rw [f_MD_partial_thrownCode, if_neg h6, if_neg h13, if_neg h26, g_ST_partial, xt_el0 (sm_at1 h6), xt_el0 (sm_tr1 h13), if_neg h27]
      rfl
    · rw [f_MD_partial, if_neg h6, if_neg h13, if_neg h26, g_ST_partial, xt_el0 (sm_at1 h6), xt_el0 (sm_tr1 h13), if_neg h27, f_ST_partial, xt_el0 (sm_at1 h6), xt_el0 (sm_tr1 h13), if_neg h27]
      exact hpw.2.2
  have hg : g_ST_partial motion trustee what z_mo (z_fi motion.toNatClampNeg) = some xt_IA := by rw [g_ST_partial, xt_el0 (sm_at1 h6), xt_el0 (sm_tr1 h13), if_neg h27, if_neg e0, if_neg e1, if_neg e2]
  rw [hg]
  refine ⟨?_, fun z => ?_, xv_up hI⟩
  · rw [xh_e2 (by decide), f_MD_partial_thrownCode, if_neg h6, if_neg h13, if_neg h26]
    by_cases hn : what < 0
    · rw [if_pos hn]
    · rw [if_neg hn, if_neg (tw_2 e0 e1 e2 hn)]
  · rw [xh_e2 (by decide)] at z
    exact absurd z (by decide)
theorem sl_suspend {t : Nat} {dealt : Int32} {epoch : Int64} {signing : Int64} {pp : Int64} {qq : Int64} {shares : Nat → Int64} {checks : Nat → Int64} {powers : Nat → Nat → Int64} {challenges : Nat → Nat → Int32} {answers : Nat → Nat → Int64} {z_n : Int64} {z_m : Int64} {z_d : Int64} {z_a : Int64} {z_b : Int64} {z_v : Int64} {z_ep : Int32} {z_su : Int32} {z_by : Int32} {z_mo : Int32} {z_st : Nat → Int32} {z_bl : Nat → Int64} {z_fi : Nat → Int32} {z_ob : Nat → Int32} {z_po : Nat → Int64} {z_pr : Nat → Int32} {z_an : Nat → Int64} {z_bk : Int32} {outf : Nat → Int64} {trustee : Int32} {on_ : Int32} (hI : xv_I t dealt epoch signing pp qq shares checks powers challenges answers z_n z_m z_d z_a z_b z_v z_ep z_su z_by z_mo z_st z_bl z_fi z_ob z_po z_pr z_an z_bk) (hon : on_ = 0 ∨ on_ = 1) : f_MD_suspend_thrownCode trustee on_ z_n z_su = xh_c xt_NS xt_IS (g_ST_suspend trustee on_ z_su dealt) ∧ (xh_c xt_NS xt_IS (g_ST_suspend trustee on_ z_su dealt) = 0 → (xt_el (g_ST_suspend trustee on_ z_su dealt) outf (vp_updL outf (0 : Int32).toNatClampNeg (if f_ST_suspend trustee on_ z_su dealt = 0 then (0 : Int64) else (1 : Int64)))) (0 : Int32).toNatClampNeg = (if f_MD_suspend trustee on_ z_n z_su = 0 then (0 : Int64) else (1 : Int64))) ∧ xt_el (g_ST_suspend trustee on_ z_su dealt) z_su (f_ST_suspend_suspended trustee on_ z_su dealt) = f_MD_suspend_suspended trustee on_ z_n z_su ∧ xv_I (t + 1) dealt epoch signing pp qq shares checks powers challenges answers z_n z_m z_d z_a z_b z_v z_ep (f_MD_suspend_suspended trustee on_ z_n z_su) z_by z_mo z_st z_bl z_fi z_ob z_po z_pr z_an z_bk := by
  by_cases h13 : f_MD_isTrustee trustee = 0
  · have hg : g_ST_suspend trustee on_ z_su dealt = some xt_NS := by rw [g_ST_suspend, xt_el1 (sm_tr0 h13), sm_tr0 h13]
    rw [hg, f_MD_suspend_thrownCode, f_MD_suspend_suspended, if_pos h13, if_pos h13]
    exact ⟨xh_e1.symm, fun z => absurd (xh_e1.symm.trans z) (by decide), rfl, xv_up hI⟩
  have hvT := xs_isT h13
  rcases sd_k hI with ⟨k1, k2, -⟩ | ⟨k1, k2, -⟩
  · have hg : g_ST_suspend trustee on_ z_su dealt = some xt_IS := by rw [g_ST_suspend, xt_el0 (sm_tr1 h13), k2, xt_el1 sd_rk0, sd_rk0]
    rw [hg, f_MD_suspend_thrownCode, f_MD_suspend_suspended, if_neg h13, if_neg h13, if_pos k1, if_pos k1]
    exact ⟨(xh_e2 (by decide)).symm, fun z => absurd ((xh_e2 (by decide)).symm.trans z) (by decide), rfl, xv_up hI⟩
  have hsu : 0 ≤ z_su.toInt ∧ z_su.toInt < 64 := hI.2.2.2.1
  have hbt := (sm_bit hsu hvT).1
  have hss := sm_sus hsu hvT
  have hg : g_ST_suspend trustee on_ z_su dealt = none := by
    rw [g_ST_suspend, xt_el0 (sm_tr1 h13), k2, xt_el0 sd_rk1]
    split <;> rfl
  rw [hg]
  have hup : ∀ v : Int32, 0 ≤ v.toInt ∧ v.toInt < 64 → xv_I (t + 1) dealt epoch signing pp qq shares checks powers challenges answers z_n z_m z_d z_a z_b z_v z_ep v z_by z_mo z_st z_bl z_fi z_ob z_po z_pr z_an z_bk := fun v hv => by
    obtain ⟨a1, a2, a3, a4, a5⟩ := xv_up hI
    exact ⟨a1, a2, a3, hv, a5⟩
  by_cases hb : ((z_su >>> (trustee &&& 31)) &&& (1 : Int32)) = 1
  · have hi := sm_in01 z_su trustee (fun z => hbt.mp z hb)
    rcases hon with rfl | rfl
    · have e1 : f_MD_suspend_thrownCode trustee 0 z_n z_su = 0 := by
        rw [f_MD_suspend_thrownCode, if_neg h13, if_neg k1, if_pos hb]
        rfl
      have e2 : f_MD_suspend_suspended trustee 0 z_n z_su = z_su &&& (((1 : Int32) <<< (trustee &&& 31)) ^^^ (-1 : Int32)) := by
        rw [f_MD_suspend_suspended, if_neg h13, if_neg k1, if_pos hb]
        rfl
      have e3 : f_MD_suspend trustee 0 z_n z_su = 1 := by
        rw [f_MD_suspend, if_neg h13, if_neg k1, if_pos hb]
        rfl
      have e4 : f_ST_suspend trustee 0 z_su dealt = 1 := by
        rw [f_ST_suspend, xt_el0 (sm_tr1 h13), k2, xt_el0 sd_rk1, hi]
        rfl
      have e5 : f_ST_suspend_suspended trustee 0 z_su dealt = z_su ^^^ ((1 : Int32) <<< (trustee &&& 31)) := by
        rw [f_ST_suspend_suspended, xt_el0 (sm_tr1 h13), k2, xt_el0 sd_rk1, hi]
        rfl
      rw [e1, e2]
      refine ⟨rfl, fun _ => ?_, ?_, ?_⟩
      · show (if f_ST_suspend _ _ _ _ = 0 then (0 : Int64) else 1) = _
        rw [e4, e3]
      · show f_ST_suspend_suspended _ _ _ _ = _
        rw [e5, (hss.1 hi).1]
      · rw [← (hss.1 hi).1]
        exact hup _ (hss.1 hi).2.2
    · have e1 : f_MD_suspend_thrownCode trustee 1 z_n z_su = 0 := by
        rw [f_MD_suspend_thrownCode, if_neg h13, if_neg k1, if_pos hb]
        rfl
      have e2 : f_MD_suspend_suspended trustee 1 z_n z_su = z_su ||| ((1 : Int32) <<< (trustee &&& 31)) := by
        rw [f_MD_suspend_suspended, if_neg h13, if_neg k1, if_pos hb]
        rfl
      have e3 : f_MD_suspend trustee 1 z_n z_su = 0 := by
        rw [f_MD_suspend, if_neg h13, if_neg k1, if_pos hb]
        rfl
      have e4 : f_ST_suspend trustee 1 z_su dealt = 0 := by
        rw [f_ST_suspend, xt_el0 (sm_tr1 h13), k2, xt_el0 sd_rk1, hi]
        rfl
      have e5 : f_ST_suspend_suspended trustee 1 z_su dealt = z_su := by
        rw [f_ST_suspend_suspended, xt_el0 (sm_tr1 h13), k2, xt_el0 sd_rk1, hi]
        rfl
      rw [e1, e2]
      refine ⟨rfl, fun _ => ?_, ?_, ?_⟩
      · show (if f_ST_suspend _ _ _ _ = 0 then (0 : Int64) else 1) = _
        rw [e4, e3]
      · show f_ST_suspend_suspended _ _ _ _ = _
        rw [e5, (hss.1 hi).2.1]
      · rw [(hss.1 hi).2.1]
        exact xv_up hI
  · have hi := hbt.mpr hb
    rcases hon with rfl | rfl
    · have e1 : f_MD_suspend_thrownCode trustee 0 z_n z_su = 0 := by
        rw [f_MD_suspend_thrownCode, if_neg h13, if_neg k1, if_neg hb]
        rfl
      have e2 : f_MD_suspend_suspended trustee 0 z_n z_su = z_su &&& (((1 : Int32) <<< (trustee &&& 31)) ^^^ (-1 : Int32)) := by
        rw [f_MD_suspend_suspended, if_neg h13, if_neg k1, if_neg hb]
        rfl
      have e3 : f_MD_suspend trustee 0 z_n z_su = 0 := by
        rw [f_MD_suspend, if_neg h13, if_neg k1, if_neg hb]
        rfl
      have e4 : f_ST_suspend trustee 0 z_su dealt = 0 := by
        rw [f_ST_suspend, xt_el0 (sm_tr1 h13), k2, xt_el0 sd_rk1, hi]
        rfl
      have e5 : f_ST_suspend_suspended trustee 0 z_su dealt = z_su := by
        rw [f_ST_suspend_suspended, xt_el0 (sm_tr1 h13), k2, xt_el0 sd_rk1, hi]
        rfl
      rw [e1, e2]
      refine ⟨rfl, fun _ => ?_, ?_, ?_⟩
      · show (if f_ST_suspend _ _ _ _ = 0 then (0 : Int64) else 1) = _
        rw [e4, e3]
      · show f_ST_suspend_suspended _ _ _ _ = _
        rw [e5, (hss.2 hi).2.1]
      · rw [(hss.2 hi).2.1]
        exact xv_up hI
    · have e1 : f_MD_suspend_thrownCode trustee 1 z_n z_su = 0 := by
        rw [f_MD_suspend_thrownCode, if_neg h13, if_neg k1, if_neg hb]
        rfl
      have e2 : f_MD_suspend_suspended trustee 1 z_n z_su = z_su ||| ((1 : Int32) <<< (trustee &&& 31)) := by
        rw [f_MD_suspend_suspended, if_neg h13, if_neg k1, if_neg hb]
        rfl
      have e3 : f_MD_suspend trustee 1 z_n z_su = 1 := by
        rw [f_MD_suspend, if_neg h13, if_neg k1, if_neg hb]
        rfl
      have e4 : f_ST_suspend trustee 1 z_su dealt = 1 := by
        rw [f_ST_suspend, xt_el0 (sm_tr1 h13), k2, xt_el0 sd_rk1, hi]
        rfl
      have e5 : f_ST_suspend_suspended trustee 1 z_su dealt = z_su ^^^ ((1 : Int32) <<< (trustee &&& 31)) := by
        rw [f_ST_suspend_suspended, xt_el0 (sm_tr1 h13), k2, xt_el0 sd_rk1, hi]
        rfl
      rw [e1, e2]
      refine ⟨rfl, fun _ => ?_, ?_, ?_⟩
      · show (if f_ST_suspend _ _ _ _ = 0 then (0 : Int64) else 1) = _
        rw [e4, e3]
      · show f_ST_suspend_suspended _ _ _ _ = _
        rw [e5, (hss.2 hi).1]
      · rw [← (hss.2 hi).1]
        exact hup _ (hss.2 hi).2.2
theorem sy_bv (x : BitVec 32) (c : Nat) (hc : c ≤ 24) : (x >>> c) &&& 255#32 = (x.sshiftRight c) &&& 255#32 := by
  apply BitVec.eq_of_getLsbD_eq
  intro j hj
  rw [BitVec.getLsbD_and, BitVec.getLsbD_and, BitVec.getLsbD_ushiftRight, BitVec.getLsbD_sshiftRight]
  by_cases h8 : j < 8
  · rw [if_pos (by omega), decide_eq_false (show ¬ 32 ≤ j by omega)]
    rfl
  · have h : ∀ j, j < 32 → ¬ j < 8 → (255#32).getLsbD j = false := by decide
    rw [h j hj h8, Bool.and_false, Bool.and_false]
theorem sy_byte {word i : Int32} (h0 : 0 ≤ i.toInt) (h3 : i.toInt ≤ 3) : (((word.toUInt32 >>> (((8 : Int32) * i).toUInt32 &&& Int32.toUInt32 31)).toInt32) &&& (255 : Int32)) = ((word >>> (((8 : Int32) * i) &&& 31)) &&& (255 : Int32)) := by
  obtain ⟨k, hk, rfl⟩ := xm_fin (x := i) (k := 4) h0 (by omega) (by omega)
  apply Int32.toBitVec_inj.mp
  rcases (show k = 0 ∨ k = 1 ∨ k = 2 ∨ k = 3 by omega) with rfl | rfl | rfl | rfl
  · exact sy_bv word.toBitVec 0 (by omega)
  · exact sy_bv word.toBitVec 8 (by omega)
  · exact sy_bv word.toBitVec 16 (by omega)
  · exact sy_bv word.toBitVec 24 (by omega)
theorem sy_put {word n_ z : Int32} {bs0 : Nat → Int32} : ∀ (n : Nat) (i sz : Int32) (bs : Nat → Int32), (-1 ≤ i.toInt ∧ i.toInt < (n : Int) - 1 ∧ 0 ≤ sz.toInt ∧ sz.toInt + i.toInt + 1 ≤ 24 ∧ i.toInt ≤ 3) → lf_BU_append_4_0 word n_ z bs0 n i sz bs = lf_MD_put_43_2 word n_ z bs0 n i sz bs ∧ lf_BU_append_4_1 word n_ z bs0 n i sz bs = lf_MD_put_43_3 word n_ z bs0 n i sz bs ∧ lf_MD_put_43_0 word n_ z bs0 n i sz bs = lf_MD_put_43_2 word n_ z bs0 n i sz bs ∧ (lf_MD_put_43_2 word n_ z bs0 n i sz bs).toInt = sz.toInt + i.toInt + 1 := by
  intro n
  induction n with
  | zero =>
    intro i sz bs h
    omega
  | succ n ih =>
    intro i sz bs h
    rw [lf_BU_append_4_0, lf_BU_append_4_1, lf_MD_put_43_0, lf_MD_put_43_2, lf_MD_put_43_3]
    by_cases h1 : i < 0
    · rw [if_pos h1, if_pos h1, if_pos h1, if_pos h1, if_pos h1]
      rw [Int32.lt_iff_toInt_lt, show (0 : Int32).toInt = 0 from rfl] at h1
      exact ⟨rfl, rfl, rfl, by omega⟩
    · rw [if_neg h1, if_neg h1, if_neg h1, if_neg h1, if_neg h1]
      rw [Int32.lt_iff_toInt_lt, show (0 : Int32).toInt = 0 from rfl] at h1
      have h2 : ¬ (24 : Int32) ≤ sz := by
        rw [Int32.le_iff_toInt_le, show (24 : Int32).toInt = 24 from rfl]
        omega
      have e1 : (i + (-1 : Int32)).toInt = i.toInt - 1 := xs_dec (by omega)
      have e2 : (sz + (1 : Int32)).toInt = sz.toInt + 1 := xi_inc (by omega)
      rw [if_neg h2, if_neg h2, sy_byte (by omega) h.2.2.2.2]
      have h3 := ih (i + (-1 : Int32)) (sz + (1 : Int32)) (upd bs sz.toNatClampNeg ((word >>> (((8 : Int32) * i) &&& 31)) &&& (255 : Int32))) (by omega)
      exact ⟨h3.1, h3.2.1, h3.2.2.1, by rw [h3.2.2.2]; omega⟩
theorem sl_put {t : Nat} {dealt : Int32} {epoch : Int64} {signing : Int64} {pp : Int64} {qq : Int64} {shares : Nat → Int64} {checks : Nat → Int64} {powers : Nat → Nat → Int64} {challenges : Nat → Nat → Int32} {answers : Nat → Nat → Int64} {z_n : Int64} {z_m : Int64} {z_d : Int64} {z_a : Int64} {z_b : Int64} {z_v : Int64} {z_ep : Int32} {z_su : Int32} {z_buf : Nat → Int32} {z_by : Int32} {z_mo : Int32} {z_st : Nat → Int32} {z_bl : Nat → Int64} {z_fi : Nat → Int32} {z_ob : Nat → Int32} {z_po : Nat → Int64} {z_pr : Nat → Int32} {z_an : Nat → Int64} {z_bk : Int32} {outf : Nat → Int64} {word : Int32} {n_ : Int32} (hI : xv_I t dealt epoch signing pp qq shares checks powers challenges answers z_n z_m z_d z_a z_b z_v z_ep z_su z_by z_mo z_st z_bl z_fi z_ob z_po z_pr z_an z_bk) : f_MD_put_thrownCode word n_ z_by z_buf = xh_c xt_IA xt_IS (g_ST_put n_ z_by) ∧ (xh_c xt_IA xt_IS (g_ST_put n_ z_by) = 0 → (xt_el (g_ST_put n_ z_by) outf (vp_updL outf (0 : Int32).toNatClampNeg (f_ST_put word n_ z_by z_buf).toInt64)) (0 : Int32).toNatClampNeg = (f_MD_put word n_ z_by z_buf).toInt64) ∧ xt_el (g_ST_put n_ z_by) z_by (f_ST_put_size word n_ z_by z_buf) = f_MD_put_bytes word n_ z_by z_buf ∧ xt_el (g_ST_put n_ z_by) z_buf (f_ST_put_BY word n_ z_by z_buf) = f_MD_put_a_buf word n_ z_by z_buf ∧ xv_I (t + 1) dealt epoch signing pp qq shares checks powers challenges answers z_n z_m z_d z_a z_b z_v z_ep z_su (f_MD_put_bytes word n_ z_by z_buf) z_mo z_st z_bl z_fi z_ob z_po z_pr z_an z_bk := by
  have hz := hI.1
  by_cases h3 : n_ < 1
  · have hg : g_ST_put n_ z_by = some xt_IA := by rw [g_ST_put, if_pos h3]
    rw [hg, f_MD_put_thrownCode, f_MD_put_bytes, f_MD_put_a_buf, if_pos h3, if_pos h3, if_pos h3]
    exact ⟨xh_e1.symm, fun z => absurd (xh_e1.symm.trans z) (by decide), rfl, rfl, xv_up hI⟩
  by_cases h8 : (4 : Int32) < n_
  · have hg : g_ST_put n_ z_by = some xt_IA := by rw [g_ST_put, if_neg h3, if_pos h8]
    rw [hg, f_MD_put_thrownCode, f_MD_put_bytes, f_MD_put_a_buf, if_neg h3, if_neg h3, if_neg h3, if_pos h8, if_pos h8, if_pos h8]
    exact ⟨xh_e1.symm, fun z => absurd (xh_e1.symm.trans z) (by decide), rfl, rfl, xv_up hI⟩
  have n1 := xs_n1 h3
  have n4 := xs_n4 h8
  have hrm : (f_BU_room z_by).toInt = 24 - z_by.toInt := by
    unfold f_BU_room
    rw [Int32.toInt_sub, show (24 : Int32).toInt = 24 from rfl]
    exact Int.bmod_eq_of_le (by omega) (by omega)
  have hsm : (z_by + n_).toInt = z_by.toInt + n_.toInt := by
    rw [Int32.toInt_add]
    exact Int.bmod_eq_of_le (by omega) (by omega)
  have hiff : n_ ≤ f_BU_room z_by ↔ z_by + n_ ≤ 24 := by
    rw [Int32.le_iff_toInt_le, Int32.le_iff_toInt_le, hrm, hsm, show (24 : Int32).toInt = 24 from rfl]
    omega
  by_cases h19 : z_by + n_ ≤ 24
  rotate_left
  · have hg : g_ST_put n_ z_by = some xt_IA := by rw [g_ST_put, if_neg h3, if_neg h8, if_neg (fun z => h19 (hiff.mp z))]
    rw [hg, f_MD_put_thrownCode, f_MD_put_bytes, f_MD_put_a_buf, if_neg h3, if_neg h3, if_neg h3, if_neg h8, if_neg h8, if_neg h8, if_neg h19, if_neg h19, if_neg h19]
    exact ⟨xh_e1.symm, fun z => absurd (xh_e1.symm.trans z) (by decide), rfl, rfl, xv_up hI⟩
  have hms := xm_start h3 h8 h19 hz.1 hz.2
  have hsb := xs_sub1 (x := n_) (by omega)
  obtain ⟨q1, q2, q3, q4⟩ := sy_put (word := word) (n_ := n_) (z := z_by) (bs0 := z_buf) 6 (n_ - (1 : Int32)) z_by z_buf (by omega)
  have hrr := hiff.mpr h19
  have hg : g_ST_put n_ z_by = none := by rw [g_ST_put, if_neg h3, if_neg h8, if_pos hrr]
  rw [hg, f_MD_put_thrownCode, f_MD_put_bytes, f_MD_put_a_buf, f_MD_put, if_neg h3, if_neg h3, if_neg h3, if_neg h3, if_neg h8, if_neg h8, if_neg h8, if_neg h8, if_pos h19, if_pos h19, if_pos h19, if_pos h19]
  refine ⟨rfl, fun _ => ?_, ?_, ?_, ?_⟩
  · show (f_ST_put _ _ _ _).toInt64 = _
    rw [f_ST_put, if_neg h3, if_neg h8, if_pos hrr, q3]
    exact congrArg Int32.toInt64 q1
  · show f_ST_put_size _ _ _ _ = _
    rw [f_ST_put_size, if_neg h3, if_neg h8, if_pos hrr]
    exact q1
  · show f_ST_put_BY _ _ _ _ = _
    rw [f_ST_put_BY, if_neg h3, if_neg h8, if_pos hrr]
    exact q2
  · obtain ⟨a1, a2⟩ := xv_up hI
    refine ⟨⟨?_, ?_⟩, a2⟩
    · rw [q4]
      omega
    · rw [q4]
      omega
end SLB
