/-! the steps: told, book, state, file, object, suspend, what is filed -/
section SLA
theorem xv_up {t : Nat} {dealt : Int32} {epoch : Int64} {signing : Int64} {pp : Int64} {qq : Int64} {shares : Nat → Int64} {checks : Nat → Int64} {powers : Nat → Nat → Int64} {challenges : Nat → Nat → Int32} {answers : Nat → Nat → Int64} {z_n : Int64} {z_m : Int64} {z_d : Int64} {z_a : Int64} {z_b : Int64} {z_v : Int64} {z_ep : Int32} {z_su : Int32} {z_by : Int32} {z_mo : Int32} {z_st : Nat → Int32} {z_bl : Nat → Int64} {z_fi : Nat → Int32} {z_ob : Nat → Int32} {z_po : Nat → Int64} {z_pr : Nat → Int32} {z_an : Nat → Int64} {z_bk : Int32} (hI : xv_I t dealt epoch signing pp qq shares checks powers challenges answers z_n z_m z_d z_a z_b z_v z_ep z_su z_by z_mo z_st z_bl z_fi z_ob z_po z_pr z_an z_bk) : xv_I (t + 1) dealt epoch signing pp qq shares checks powers challenges answers z_n z_m z_d z_a z_b z_v z_ep z_su z_by z_mo z_st z_bl z_fi z_ob z_po z_pr z_an z_bk := by
  obtain ⟨a1, a2, a3, a4, ⟨b1, b2, b3⟩, a6⟩ := hI
  exact ⟨a1, a2, a3, a4, ⟨b1, b2, by omega⟩, a6⟩
theorem sc_same {st st1 : Nat → Int32} {n : Nat} (h : ∀ k, k < n → (st1 k = 1 ↔ st k = 1)) : ((List.range n).filter (fun k => decide (st1 k = 1))).length = ((List.range n).filter (fun k => decide (st k = 1))).length := by
  congr 1
  refine List.filter_congr (fun k hk => ?_)
  exact decide_eq_decide.mpr (h k (List.mem_range.mp hk))
theorem sc_one {st st1 : Nat → Int32} {kk : Nat} (h0 : ¬ st kk = 1) (h1 : st1 kk = 1) (h : ∀ k, ¬ k = kk → (st1 k = 1 ↔ st k = 1)) : ∀ n, kk < n → ((List.range n).filter (fun k => decide (st1 k = 1))).length = ((List.range n).filter (fun k => decide (st k = 1))).length + 1 := by
  intro n
  induction n with
  | zero =>
    intro hk
    omega
  | succ n ih =>
    intro hk
    rw [List.range_succ, List.filter_append, List.filter_append, List.length_append, List.length_append]
    by_cases he : kk = n
    · subst he
      rw [sc_same (st := st) (st1 := st1) (fun k hk2 => h k (by omega))]
      rw [List.filter_cons_of_pos (by simp [h1]), List.filter_cons_of_neg (by simp [h0])]
      simp
    · rw [ih (by omega)]
      have h2 := h n (fun z => he z.symm)
      by_cases h3 : st n = 1
      · rw [List.filter_cons_of_pos (by simp [h2.mpr h3]), List.filter_cons_of_pos (by simp [h3])]
        simp
      · have h4 : ¬ st1 n = 1 := fun z => h3 (h2.mp z)
        rw [List.filter_cons_of_neg (by simp [h4]), List.filter_cons_of_neg (by simp [h3])]
        simp
theorem xh_n {E1 E2 : String} : xh_c E1 E2 none = 0 := rfl
theorem tw_4 {x : Int32} (h0 : ¬ x = 0) (h1 : ¬ x = 1) (h2 : ¬ x = 2) (h3 : ¬ x = 3) (h4 : ¬ x = 4) (hn : ¬ x < 0) : ¬ x ≤ 4 := by
  have e0 : x.toInt ≠ 0 := xt_ne h0
  have e1 : x.toInt ≠ 1 := xt_ne h1
  have e2 : x.toInt ≠ 2 := xt_ne h2
  have e3 : x.toInt ≠ 3 := xt_ne h3
  have e4 : x.toInt ≠ 4 := xt_ne h4
  rw [Int32.lt_iff_toInt_lt, show (0 : Int32).toInt = 0 from rfl] at hn
  rw [Int32.le_iff_toInt_le, show (4 : Int32).toInt = 4 from rfl]
  omega
theorem tw_2 {x : Int32} (h0 : ¬ x = 0) (h1 : ¬ x = 1) (h2 : ¬ x = 2) (hn : ¬ x < 0) : ¬ x ≤ 2 := by
  have e0 : x.toInt ≠ 0 := xt_ne h0
  have e1 : x.toInt ≠ 1 := xt_ne h1
  have e2 : x.toInt ≠ 2 := xt_ne h2
  rw [Int32.lt_iff_toInt_lt, show (0 : Int32).toInt = 0 from rfl] at hn
  rw [Int32.le_iff_toInt_le, show (2 : Int32).toInt = 2 from rfl]
  omega
theorem sl_told {t : Nat} {dealt : Int32} {epoch : Int64} {signing : Int64} {pp : Int64} {qq : Int64} {shares : Nat → Int64} {checks : Nat → Int64} {powers : Nat → Nat → Int64} {challenges : Nat → Nat → Int32} {answers : Nat → Nat → Int64} {z_n : Int64} {z_m : Int64} {z_d : Int64} {z_a : Int64} {z_b : Int64} {z_v : Int64} {z_ep : Int32} {z_su : Int32} {z_by : Int32} {z_mo : Int32} {z_st : Nat → Int32} {z_bl : Nat → Int64} {z_fi : Nat → Int32} {z_ob : Nat → Int32} {z_sg : Nat → Int64} {z_po : Nat → Int64} {z_pr : Nat → Int32} {z_an : Nat → Int64} {z_bk : Int32} {outf : Nat → Int64} {motion : Int32} {what : Int32} (hI : xv_I t dealt epoch signing pp qq shares checks powers challenges answers z_n z_m z_d z_a z_b z_v z_ep z_su z_by z_mo z_st z_bl z_fi z_ob z_po z_pr z_an z_bk) : f_MD_told_thrownCode motion what z_mo = xh_c xt_NS xt_IA (g_ST_told motion what z_mo) ∧ (xh_c xt_NS xt_IA (g_ST_told motion what z_mo) = 0 → (xt_el (g_ST_told motion what z_mo) outf (vp_updL outf (0 : Int32).toNatClampNeg (f_ST_told motion what z_mo (z_st (xl_ix motion)) (z_bl (xl_ix motion)) (z_fi (xl_ix motion)) (z_ob (xl_ix motion)) (z_sg (xl_ix motion))))) (0 : Int32).toNatClampNeg = (f_MD_told motion what z_mo z_st z_bl z_fi z_ob z_sg)) ∧ xv_I (t + 1) dealt epoch signing pp qq shares checks powers challenges answers z_n z_m z_d z_a z_b z_v z_ep z_su z_by z_mo z_st z_bl z_fi z_ob z_po z_pr z_an z_bk := by
  by_cases h6 : f_MD_isMotion motion z_mo = 0
  · have hg : g_ST_told motion what z_mo = some xt_NS := by rw [g_ST_told, xt_el1 (sm_at0 h6), sm_at0 h6]
    rw [hg]
    refine ⟨?_, fun z => ?_, xv_up hI⟩
    · rw [f_MD_told_thrownCode, if_pos h6]
      exact xh_e1.symm
    · rw [xh_e1] at z
      exact absurd z (by decide)
  · have hk := xl_ix_in (xs_isM h6 (xv_mo hI))
    rw [hk]
    by_cases e0 : what = (0 : Int32)
    · subst e0
      refine ⟨?_, fun _ => ?_, xv_up hI⟩
      · rw [f_MD_told_thrownCode, if_neg h6, g_ST_told, xt_el0 (sm_at1 h6)]
        rfl
      · rw [f_MD_told, if_neg h6, g_ST_told, xt_el0 (sm_at1 h6), f_ST_told, xt_el0 (sm_at1 h6)]
        rfl
    by_cases e1 : what = (1 : Int32)
    · subst e1
      refine ⟨?_, fun _ => ?_, xv_up hI⟩
      · rw [f_MD_told_thrownCode, if_neg h6, g_ST_told, xt_el0 (sm_at1 h6)]
        rfl
      · rw [f_MD_told, if_neg h6, g_ST_told, xt_el0 (sm_at1 h6), f_ST_told, xt_el0 (sm_at1 h6)]
        rfl
    by_cases e2 : what = (2 : Int32)
    · subst e2
      refine ⟨?_, fun _ => ?_, xv_up hI⟩
      · rw [f_MD_told_thrownCode, if_neg h6, g_ST_told, xt_el0 (sm_at1 h6)]
        rfl
      · rw [f_MD_told, if_neg h6, g_ST_told, xt_el0 (sm_at1 h6), f_ST_told, xt_el0 (sm_at1 h6)]
        rfl
    by_cases e3 : what = (3 : Int32)
    · subst e3
      refine ⟨?_, fun _ => ?_, xv_up hI⟩
      · rw [f_MD_told_thrownCode, if_neg h6, g_ST_told, xt_el0 (sm_at1 h6)]
        rfl
      · rw [f_MD_told, if_neg h6, g_ST_told, xt_el0 (sm_at1 h6), f_ST_told, xt_el0 (sm_at1 h6)]
        rfl
    by_cases e4 : what = (4 : Int32)
    · subst e4
      refine ⟨?_, fun _ => ?_, xv_up hI⟩
      · rw [f_MD_told_thrownCode, if_neg h6, g_ST_told, xt_el0 (sm_at1 h6)]
        rfl
      · rw [f_MD_told, if_neg h6, g_ST_told, xt_el0 (sm_at1 h6), f_ST_told, xt_el0 (sm_at1 h6)]
        rfl
    have hg : g_ST_told motion what z_mo = some xt_IA := by rw [g_ST_told, xt_el0 (sm_at1 h6), if_neg e0, if_neg e1, if_neg e2, if_neg e3, if_neg e4]
    rw [hg]
    refine ⟨?_, fun z => ?_, xv_up hI⟩
    · rw [xh_e2 (by decide), f_MD_told_thrownCode, if_neg h6]
      by_cases hn : what < 0
      · rw [if_pos hn]
      · rw [if_neg hn, if_neg (tw_4 e0 e1 e2 e3 e4 hn)]
    · rw [xh_e2 (by decide)] at z
      exact absurd z (by decide)
theorem sl_book {t : Nat} {dealt : Int32} {epoch : Int64} {signing : Int64} {pp : Int64} {qq : Int64} {shares : Nat → Int64} {checks : Nat → Int64} {powers : Nat → Nat → Int64} {challenges : Nat → Nat → Int32} {answers : Nat → Nat → Int64} {z_n : Int64} {z_m : Int64} {z_d : Int64} {z_a : Int64} {z_b : Int64} {z_v : Int64} {z_ep : Int32} {z_su : Int32} {z_by : Int32} {z_mo : Int32} {z_st : Nat → Int32} {z_bl : Nat → Int64} {z_fi : Nat → Int32} {z_ob : Nat → Int32} {z_po : Nat → Int64} {z_pr : Nat → Int32} {z_an : Nat → Int64} {z_bk : Int32} {z_bo : Nat → Int32} {outf : Nat → Int64} {n_ : Int32} (hI : xv_I t dealt epoch signing pp qq shares checks powers challenges answers z_n z_m z_d z_a z_b z_v z_ep z_su z_by z_mo z_st z_bl z_fi z_ob z_po z_pr z_an z_bk) : f_MD_book_thrownCode n_ z_bk = xh_c xt_IA xt_IS (g_ST_book n_ z_bk) ∧ (xh_c xt_IA xt_IS (g_ST_book n_ z_bk) = 0 → (xt_el (g_ST_book n_ z_bk) outf (vp_updL outf (0 : Int32).toNatClampNeg (f_ST_book n_ z_bk z_bo).toInt64)) (0 : Int32).toNatClampNeg = (f_MD_book n_ z_bk z_bo).toInt64) ∧ xv_I (t + 1) dealt epoch signing pp qq shares checks powers challenges answers z_n z_m z_d z_a z_b z_v z_ep z_su z_by z_mo z_st z_bl z_fi z_ob z_po z_pr z_an z_bk := by
  by_cases h : 0 ≤ n_
  · by_cases h2 : z_bk ≤ n_
    · refine ⟨?_, fun _ => ?_, xv_up hI⟩
      · rw [f_MD_book_thrownCode, if_pos h, if_pos h2, g_ST_book, if_pos h, if_pos h2]
        rfl
      · rw [f_MD_book, if_pos h, if_pos h2, g_ST_book, if_pos h, if_pos h2, f_ST_book, if_pos h, if_pos h2]
        rfl
    · refine ⟨?_, fun _ => ?_, xv_up hI⟩
      · rw [f_MD_book_thrownCode, if_pos h, if_neg h2, g_ST_book, if_pos h, if_neg h2]
        rfl
      · rw [f_MD_book, if_pos h, if_neg h2, g_ST_book, if_pos h, if_neg h2, f_ST_book, if_pos h, if_neg h2]
        rfl
  · refine ⟨?_, fun z => ?_, xv_up hI⟩
    · rw [f_MD_book_thrownCode, if_neg h, g_ST_book, if_neg h]
      exact xh_e1.symm
    · rw [g_ST_book, if_neg h, xh_e1] at z
      exact absurd z (by decide)
theorem sp_pw {f : Nat → Nat → Int64} {z : Nat → Int64} {m t : Int32} {p : Int64} (h : ∀ k, k < 12 → ∀ i, i < 6 → f k i = z (6 * k + i)) (hm : vp_in m 12) (ht : vp_in t 6) : ∀ k, k < 12 → ∀ i, i < 6 → xl_up f m.toNatClampNeg (vp_updL (f m.toNatClampNeg) t.toNatClampNeg p) k i = vp_updL z ((6 : Int32) * m + t).toNatClampNeg p (6 * k + i) := by
  intro k hk i hi
  have h1 := vp_in_iff.mp hm
  have h2 := vp_in_iff.mp ht
  have h3 := xs_6i hm ht
  have e1 : ((6 : Int32) * m + t).toNatClampNeg = 6 * m.toNatClampNeg + t.toNatClampNeg := by
    show ((6 : Int32) * m + t).toInt.toNat = 6 * m.toInt.toNat + t.toInt.toNat
    omega
  have b1 : t.toNatClampNeg < 6 := by
    show t.toInt.toNat < 6
    omega
  rw [e1]
  unfold xl_up vp_updL
  by_cases hkm : k = m.toNatClampNeg
  · rw [if_pos hkm]
    subst hkm
    by_cases hit : i = t.toNatClampNeg
    · show (if i = t.toNatClampNeg then p else _) = if _ then p else _
      rw [if_pos hit, if_pos (by omega)]
    · show (if i = t.toNatClampNeg then p else _) = if _ then p else _
      rw [if_neg hit, if_neg (by omega)]
      exact h _ hk i hi
  · rw [if_neg hkm, if_neg (by omega)]
    exact h k hk i hi
theorem sp_cg {f : Nat → Nat → Int32} {z : Nat → Int32} {m t : Int32} {p : Int32} (h : ∀ k, k < 12 → ∀ i, i < 6 → f k i = z (6 * k + i)) (hm : vp_in m 12) (ht : vp_in t 6) : ∀ k, k < 12 → ∀ i, i < 6 → xl_up f m.toNatClampNeg (upd (f m.toNatClampNeg) t.toNatClampNeg p) k i = upd z ((6 : Int32) * m + t).toNatClampNeg p (6 * k + i) := by
  intro k hk i hi
  have h1 := vp_in_iff.mp hm
  have h2 := vp_in_iff.mp ht
  have h3 := xs_6i hm ht
  have e1 : ((6 : Int32) * m + t).toNatClampNeg = 6 * m.toNatClampNeg + t.toNatClampNeg := by
    show ((6 : Int32) * m + t).toInt.toNat = 6 * m.toInt.toNat + t.toInt.toNat
    omega
  have b1 : t.toNatClampNeg < 6 := by
    show t.toInt.toNat < 6
    omega
  rw [e1]
  unfold xl_up upd
  by_cases hkm : k = m.toNatClampNeg
  · rw [if_pos hkm]
    subst hkm
    by_cases hit : i = t.toNatClampNeg
    · show (if i = t.toNatClampNeg then p else _) = if _ then p else _
      rw [if_pos hit, if_pos (by omega)]
    · show (if i = t.toNatClampNeg then p else _) = if _ then p else _
      rw [if_neg hit, if_neg (by omega)]
      exact h _ hk i hi
  · rw [if_neg hkm, if_neg (by omega)]
    exact h k hk i hi
theorem xl_id {α : Type} (f : Nat → α) (k : Nat) : xl_up f k (f k) = f := by
  funext j
  unfold xl_up
  by_cases h : j = k
  · rw [if_pos h, h]
  · rw [if_neg h]
theorem xv_fi {t : Nat} {dealt : Int32} {epoch : Int64} {signing : Int64} {pp : Int64} {qq : Int64} {shares : Nat → Int64} {checks : Nat → Int64} {powers : Nat → Nat → Int64} {challenges : Nat → Nat → Int32} {answers : Nat → Nat → Int64} {z_n : Int64} {z_m : Int64} {z_d : Int64} {z_a : Int64} {z_b : Int64} {z_v : Int64} {z_ep : Int32} {z_su : Int32} {z_by : Int32} {z_mo : Int32} {z_st : Nat → Int32} {z_bl : Nat → Int64} {z_fi : Nat → Int32} {z_ob : Nat → Int32} {z_po : Nat → Int64} {z_pr : Nat → Int32} {z_an : Nat → Int64} {z_bk : Int32} {m : Int32} {v : Int32} {pw1 : Nat → Nat → Int64} {cg1 : Nat → Nat → Int32} {an1 : Nat → Nat → Int64} {po1 : Nat → Int64} {pr1 : Nat → Int32} {an2 : Nat → Int64} (hI : xv_I t dealt epoch signing pp qq shares checks powers challenges answers z_n z_m z_d z_a z_b z_v z_ep z_su z_by z_mo z_st z_bl z_fi z_ob z_po z_pr z_an z_bk) (hv : 0 ≤ v.toInt ∧ v.toInt < 64) (hp : ∀ k, k < 12 → ∀ i, i < 6 → pw1 k i = po1 (6 * k + i) ∧ cg1 k i = pr1 (6 * k + i) ∧ an1 k i = an2 (6 * k + i)) : xv_I (t + 1) dealt epoch signing pp qq shares checks pw1 cg1 an1 z_n z_m z_d z_a z_b z_v z_ep z_su z_by z_mo z_st z_bl (upd z_fi m.toNatClampNeg v) z_ob po1 pr1 an2 z_bk := by
  obtain ⟨a1, a2, a3, a4, a5, a6, a7, a8⟩ := xv_up hI
  refine ⟨a1, a2, a3, a4, a5, hp, fun k hk => ?_, a8⟩
  obtain ⟨f0, f1, o0, o1, hb3, bl2, bln⟩ := a7 k hk
  by_cases h : k = m.toNatClampNeg
  · subst h
    exact ⟨by rw [sm_u1]; exact hv.1, by rw [sm_u1]; exact hv.2, o0, o1, hb3, bl2, bln⟩
  · exact ⟨by rw [sm_u2 _ _ h]; exact f0, by rw [sm_u2 _ _ h]; exact f1, o0, o1, hb3, bl2, bln⟩
theorem sl_file {t : Nat} {dealt : Int32} {epoch : Int64} {signing : Int64} {pp : Int64} {qq : Int64} {shares : Nat → Int64} {checks : Nat → Int64} {powers : Nat → Nat → Int64} {challenges : Nat → Nat → Int32} {answers : Nat → Nat → Int64} {z_n : Int64} {z_m : Int64} {z_d : Int64} {z_a : Int64} {z_b : Int64} {z_v : Int64} {z_ep : Int32} {z_su : Int32} {z_by : Int32} {z_mo : Int32} {z_st : Nat → Int32} {z_bl : Nat → Int64} {z_fi : Nat → Int32} {z_ob : Nat → Int32} {z_po : Nat → Int64} {z_pr : Nat → Int32} {z_an : Nat → Int64} {z_bk : Int32} {motion : Int32} {trustee : Int32} {power : Int64} {cc_ : Int32} {zz_ : Int64} (hI : xv_I t dealt epoch signing pp qq shares checks powers challenges answers z_n z_m z_d z_a z_b z_v z_ep z_su z_by z_mo z_st z_bl z_fi z_ob z_po z_pr z_an z_bk) : f_MD_file_thrownCode motion trustee z_mo z_st z_ob = xh_c xt_NS xt_IS (g_ST_file motion trustee z_mo (z_st (xl_ix motion)) (z_ob (xl_ix motion))) ∧ xt_el (g_ST_file motion trustee z_mo (z_st (xl_ix motion)) (z_ob (xl_ix motion))) (z_fi (xl_ix motion)) (f_ST_file_partials motion trustee z_mo (z_st (xl_ix motion)) (z_fi (xl_ix motion)) (z_ob (xl_ix motion))) = (f_MD_file_a_fi motion trustee z_mo z_st z_ob z_fi) (xl_ix motion) ∧ (∀ j, ¬ j = (xl_ix motion) → (f_MD_file_a_fi motion trustee z_mo z_st z_ob z_fi) j = z_fi j) ∧ xv_I (t + 1) dealt epoch signing pp qq shares checks (xl_up powers (xl_ix motion) (xt_el (g_ST_file motion trustee z_mo (z_st (xl_ix motion)) (z_ob (xl_ix motion))) (powers (xl_ix motion)) (f_ST_file_PW motion trustee power z_mo (z_st (xl_ix motion)) (z_ob (xl_ix motion)) (powers (xl_ix motion))))) (xl_up challenges (xl_ix motion) (xt_el (g_ST_file motion trustee z_mo (z_st (xl_ix motion)) (z_ob (xl_ix motion))) (challenges (xl_ix motion)) (f_ST_file_CG motion trustee cc_ z_mo (z_st (xl_ix motion)) (z_ob (xl_ix motion)) (challenges (xl_ix motion))))) (xl_up answers (xl_ix motion) (xt_el (g_ST_file motion trustee z_mo (z_st (xl_ix motion)) (z_ob (xl_ix motion))) (answers (xl_ix motion)) (f_ST_file_AN motion trustee zz_ z_mo (z_st (xl_ix motion)) (z_ob (xl_ix motion)) (answers (xl_ix motion))))) z_n z_m z_d z_a z_b z_v z_ep z_su z_by z_mo z_st z_bl (f_MD_file_a_fi motion trustee z_mo z_st z_ob z_fi) z_ob (f_MD_file_a_po motion trustee power z_mo z_st z_ob z_po) (f_MD_file_a_pr motion trustee cc_ z_mo z_st z_ob z_pr) (f_MD_file_a_an motion trustee zz_ z_mo z_st z_ob z_an) z_bk := by
  by_cases h6 : f_MD_isMotion motion z_mo = 0
  · have hg : g_ST_file motion trustee z_mo (z_st (xl_ix motion)) (z_ob (xl_ix motion)) = some xt_NS := by rw [g_ST_file, xt_el1 (sm_at0 h6), sm_at0 h6]
    have m0 : f_MD_file_thrownCode motion trustee z_mo z_st z_ob = 1 := by rw [f_MD_file_thrownCode, if_pos h6]
    have m_a_fi : f_MD_file_a_fi motion trustee z_mo z_st z_ob z_fi = z_fi := by rw [f_MD_file_a_fi, if_pos h6]
    have m_a_po : f_MD_file_a_po motion trustee power z_mo z_st z_ob z_po = z_po := by rw [f_MD_file_a_po, if_pos h6]
    have m_a_pr : f_MD_file_a_pr motion trustee cc_ z_mo z_st z_ob z_pr = z_pr := by rw [f_MD_file_a_pr, if_pos h6]
    have m_a_an : f_MD_file_a_an motion trustee zz_ z_mo z_st z_ob z_an = z_an := by rw [f_MD_file_a_an, if_pos h6]
    rw [hg, m0, m_a_fi, m_a_po, m_a_pr, m_a_an]
    refine ⟨xh_e1.symm, rfl, fun _ _ => rfl, ?_⟩
    show xv_I (t + 1) dealt epoch signing pp qq shares checks (xl_up powers (xl_ix motion) (powers (xl_ix motion))) (xl_up challenges (xl_ix motion) (challenges (xl_ix motion))) (xl_up answers (xl_ix motion) (answers (xl_ix motion))) z_n z_m z_d z_a z_b z_v z_ep z_su z_by z_mo z_st z_bl z_fi z_ob z_po z_pr z_an z_bk
    rw [xl_id, xl_id, xl_id]
    exact xv_up hI
  have hvM := xs_isM h6 (xv_mo hI)
  have hk := xl_ix_in hvM
  rw [hk]
  have hMr := xv_isr h6
  have hmt := hI.2.2.2.2.2.2.1 motion.toNatClampNeg (by show motion.toInt.toNat < z_mo.toInt.toNat; omega)
  obtain ⟨f0, f1, o0, o1, hb3, bl2, bln⟩ := hmt
  by_cases h13 : f_MD_isTrustee trustee = 0
  · have hg : g_ST_file motion trustee z_mo (z_st motion.toNatClampNeg) (z_ob motion.toNatClampNeg) = some xt_NS := by rw [g_ST_file, xt_el0 (sm_at1 h6), xt_el1 (sm_tr0 h13), sm_tr0 h13]
    have m0 : f_MD_file_thrownCode motion trustee z_mo z_st z_ob = 1 := by rw [f_MD_file_thrownCode, if_neg h6, if_pos h13]
    have m_a_fi : f_MD_file_a_fi motion trustee z_mo z_st z_ob z_fi = z_fi := by rw [f_MD_file_a_fi, if_neg h6, if_pos h13]
    have m_a_po : f_MD_file_a_po motion trustee power z_mo z_st z_ob z_po = z_po := by rw [f_MD_file_a_po, if_neg h6, if_pos h13]
    have m_a_pr : f_MD_file_a_pr motion trustee cc_ z_mo z_st z_ob z_pr = z_pr := by rw [f_MD_file_a_pr, if_neg h6, if_pos h13]
    have m_a_an : f_MD_file_a_an motion trustee zz_ z_mo z_st z_ob z_an = z_an := by rw [f_MD_file_a_an, if_neg h6, if_pos h13]
    rw [hg, m0, m_a_fi, m_a_po, m_a_pr, m_a_an]
    refine ⟨xh_e1.symm, rfl, fun _ _ => rfl, ?_⟩
    show xv_I (t + 1) dealt epoch signing pp qq shares checks (xl_up powers motion.toNatClampNeg (powers motion.toNatClampNeg)) (xl_up challenges motion.toNatClampNeg (challenges motion.toNatClampNeg)) (xl_up answers motion.toNatClampNeg (answers motion.toNatClampNeg)) z_n z_m z_d z_a z_b z_v z_ep z_su z_by z_mo z_st z_bl z_fi z_ob z_po z_pr z_an z_bk
    rw [xl_id, xl_id, xl_id]
    exact xv_up hI
  have hvT := xs_isT h13
  by_cases h26 : z_st motion.toNatClampNeg = 0
  rotate_left
  · have hg : g_ST_file motion trustee z_mo (z_st motion.toNatClampNeg) (z_ob motion.toNatClampNeg) = some xt_IS := by rw [g_ST_file, xt_el0 (sm_at1 h6), xt_el0 (sm_tr1 h13), xt_el1 (sm_op1 h26), sm_op1 h26]
    have m0 : f_MD_file_thrownCode motion trustee z_mo z_st z_ob = 2 := by rw [f_MD_file_thrownCode, if_neg h6, if_neg h13, if_neg h26]
    have m_a_fi : f_MD_file_a_fi motion trustee z_mo z_st z_ob z_fi = z_fi := by rw [f_MD_file_a_fi, if_neg h6, if_neg h13, if_neg h26]
    have m_a_po : f_MD_file_a_po motion trustee power z_mo z_st z_ob z_po = z_po := by rw [f_MD_file_a_po, if_neg h6, if_neg h13, if_neg h26]
    have m_a_pr : f_MD_file_a_pr motion trustee cc_ z_mo z_st z_ob z_pr = z_pr := by rw [f_MD_file_a_pr, if_neg h6, if_neg h13, if_neg h26]
    have m_a_an : f_MD_file_a_an motion trustee zz_ z_mo z_st z_ob z_an = z_an := by rw [f_MD_file_a_an, if_neg h6, if_neg h13, if_neg h26]
    rw [hg, m0, m_a_fi, m_a_po, m_a_pr, m_a_an]
    refine ⟨(xh_e2 (by decide)).symm, rfl, fun _ _ => rfl, ?_⟩
    show xv_I (t + 1) dealt epoch signing pp qq shares checks (xl_up powers motion.toNatClampNeg (powers motion.toNatClampNeg)) (xl_up challenges motion.toNatClampNeg (challenges motion.toNatClampNeg)) (xl_up answers motion.toNatClampNeg (answers motion.toNatClampNeg)) z_n z_m z_d z_a z_b z_v z_ep z_su z_by z_mo z_st z_bl z_fi z_ob z_po z_pr z_an z_bk
    rw [xl_id, xl_id, xl_id]
    exact xv_up hI
  have hbt := (sm_bit ⟨o0, o1⟩ hvT).1
  by_cases h40 : ((z_ob motion.toNatClampNeg >>> (trustee &&& 31)) &&& (1 : Int32)) = 1
  · have h41 : ¬ f_ST_isIn (z_ob motion.toNatClampNeg) trustee = 0 := fun z => hbt.mp z h40
    have hg : g_ST_file motion trustee z_mo (z_st motion.toNatClampNeg) (z_ob motion.toNatClampNeg) = some xt_IS := by rw [g_ST_file, xt_el0 (sm_at1 h6), xt_el0 (sm_tr1 h13), xt_el0 (sm_op0 h26), if_neg h41]
    have m0 : f_MD_file_thrownCode motion trustee z_mo z_st z_ob = 2 := by rw [f_MD_file_thrownCode, if_neg h6, if_neg h13, if_pos h26, if_pos h40]
    have m_a_fi : f_MD_file_a_fi motion trustee z_mo z_st z_ob z_fi = z_fi := by rw [f_MD_file_a_fi, if_neg h6, if_neg h13, if_pos h26, if_pos h40]
    have m_a_po : f_MD_file_a_po motion trustee power z_mo z_st z_ob z_po = z_po := by rw [f_MD_file_a_po, if_neg h6, if_neg h13, if_pos h26, if_pos h40]
    have m_a_pr : f_MD_file_a_pr motion trustee cc_ z_mo z_st z_ob z_pr = z_pr := by rw [f_MD_file_a_pr, if_neg h6, if_neg h13, if_pos h26, if_pos h40]
    have m_a_an : f_MD_file_a_an motion trustee zz_ z_mo z_st z_ob z_an = z_an := by rw [f_MD_file_a_an, if_neg h6, if_neg h13, if_pos h26, if_pos h40]
    rw [hg, m0, m_a_fi, m_a_po, m_a_pr, m_a_an]
    refine ⟨(xh_e2 (by decide)).symm, rfl, fun _ _ => rfl, ?_⟩
    show xv_I (t + 1) dealt epoch signing pp qq shares checks (xl_up powers motion.toNatClampNeg (powers motion.toNatClampNeg)) (xl_up challenges motion.toNatClampNeg (challenges motion.toNatClampNeg)) (xl_up answers motion.toNatClampNeg (answers motion.toNatClampNeg)) z_n z_m z_d z_a z_b z_v z_ep z_su z_by z_mo z_st z_bl z_fi z_ob z_po z_pr z_an z_bk
    rw [xl_id, xl_id, xl_id]
    exact xv_up hI
  have h41 : f_ST_isIn (z_ob motion.toNatClampNeg) trustee = 0 := hbt.mpr h40
  have hg : g_ST_file motion trustee z_mo (z_st motion.toNatClampNeg) (z_ob motion.toNatClampNeg) = none := by rw [g_ST_file, xt_el0 (sm_at1 h6), xt_el0 (sm_tr1 h13), xt_el0 (sm_op0 h26), if_pos h41]
  have q0 : f_MD_file_thrownCode motion trustee z_mo z_st z_ob = 0 := by rw [f_MD_file_thrownCode, if_neg h6, if_neg h13, if_pos h26, if_neg h40]
  rw [show f_MD_file_a_fi motion trustee z_mo z_st z_ob z_fi = _ from by rw [f_MD_file_a_fi, if_neg h6, if_neg h13, if_pos h26, if_neg h40]]
  rw [show f_MD_file_a_po motion trustee power z_mo z_st z_ob z_po = _ from by rw [f_MD_file_a_po, if_neg h6, if_neg h13, if_pos h26, if_neg h40]]
  rw [show f_MD_file_a_pr motion trustee cc_ z_mo z_st z_ob z_pr = _ from by rw [f_MD_file_a_pr, if_neg h6, if_neg h13, if_pos h26, if_neg h40]]
  rw [show f_MD_file_a_an motion trustee zz_ z_mo z_st z_ob z_an = _ from by rw [f_MD_file_a_an, if_neg h6, if_neg h13, if_pos h26, if_neg h40]]
  rw [hg, q0]
  refine ⟨rfl, ?_, fun j hj => sm_u2 _ _ hj, ?_⟩
  · rw [sm_u1]
    show f_ST_file_partials _ _ _ _ _ _ = _
    rw [f_ST_file_partials, xt_el0 (sm_at1 h6), xt_el0 (sm_tr1 h13), xt_el0 (sm_op0 h26), if_pos h41]
    rfl
  · rw [show f_ST_file_PW motion trustee power z_mo (z_st motion.toNatClampNeg) (z_ob motion.toNatClampNeg) (powers motion.toNatClampNeg) = _ from by rw [f_ST_file_PW, xt_el0 (sm_at1 h6), xt_el0 (sm_tr1 h13), xt_el0 (sm_op0 h26), if_pos h41], show f_ST_file_CG motion trustee cc_ z_mo (z_st motion.toNatClampNeg) (z_ob motion.toNatClampNeg) (challenges motion.toNatClampNeg) = _ from by rw [f_ST_file_CG, xt_el0 (sm_at1 h6), xt_el0 (sm_tr1 h13), xt_el0 (sm_op0 h26), if_pos h41], show f_ST_file_AN motion trustee zz_ z_mo (z_st motion.toNatClampNeg) (z_ob motion.toNatClampNeg) (answers motion.toNatClampNeg) = _ from by rw [f_ST_file_AN, xt_el0 (sm_at1 h6), xt_el0 (sm_tr1 h13), xt_el0 (sm_op0 h26), if_pos h41]]
    exact xv_fi hI (sm_or1 ⟨f0, f1⟩ hvT) (fun k hk i hi => ⟨sp_pw (fun k hk i hi => (hI.2.2.2.2.2.1 k hk i hi).1) hvM hvT k hk i hi, sp_cg (fun k hk i hi => (hI.2.2.2.2.2.1 k hk i hi).2.1) hvM hvT k hk i hi, sp_pw (fun k hk i hi => (hI.2.2.2.2.2.1 k hk i hi).2.2) hvM hvT k hk i hi⟩)
theorem sl_object {t : Nat} {dealt : Int32} {epoch : Int64} {signing : Int64} {pp : Int64} {qq : Int64} {shares : Nat → Int64} {checks : Nat → Int64} {powers : Nat → Nat → Int64} {challenges : Nat → Nat → Int32} {answers : Nat → Nat → Int64} {z_n : Int64} {z_m : Int64} {z_d : Int64} {z_a : Int64} {z_b : Int64} {z_v : Int64} {z_ep : Int32} {z_su : Int32} {z_by : Int32} {z_mo : Int32} {z_st : Nat → Int32} {z_bl : Nat → Int64} {z_fi : Nat → Int32} {z_ob : Nat → Int32} {z_po : Nat → Int64} {z_pr : Nat → Int32} {z_an : Nat → Int64} {z_bk : Int32} {motion : Int32} {trustee : Int32} (hI : xv_I t dealt epoch signing pp qq shares checks powers challenges answers z_n z_m z_d z_a z_b z_v z_ep z_su z_by z_mo z_st z_bl z_fi z_ob z_po z_pr z_an z_bk) : f_MD_object_thrownCode motion trustee z_mo z_st z_fi z_ob = xh_c xt_NS xt_IS (g_ST_object motion trustee z_mo (z_st (xl_ix motion)) (z_fi (xl_ix motion)) (z_ob (xl_ix motion))) ∧ xt_el (g_ST_object motion trustee z_mo (z_st (xl_ix motion)) (z_fi (xl_ix motion)) (z_ob (xl_ix motion))) (z_ob (xl_ix motion)) (f_ST_object_objections motion trustee z_mo (z_st (xl_ix motion)) (z_fi (xl_ix motion)) (z_ob (xl_ix motion))) = (f_MD_object_a_ob motion trustee z_mo z_st z_fi z_ob) (xl_ix motion) ∧ xt_el (g_ST_object motion trustee z_mo (z_st (xl_ix motion)) (z_fi (xl_ix motion)) (z_ob (xl_ix motion))) (z_st (xl_ix motion)) (f_ST_object_standing motion trustee z_mo (z_st (xl_ix motion)) (z_fi (xl_ix motion)) (z_ob (xl_ix motion))) = (f_MD_object_a_st motion trustee z_mo z_st z_fi z_ob) (xl_ix motion) ∧ (∀ j, ¬ j = (xl_ix motion) → (f_MD_object_a_st motion trustee z_mo z_st z_fi z_ob) j = z_st j) ∧ (∀ j, ¬ j = (xl_ix motion) → (f_MD_object_a_ob motion trustee z_mo z_st z_fi z_ob) j = z_ob j) ∧ xv_I (t + 1) dealt epoch signing pp qq shares checks powers challenges answers z_n z_m z_d z_a z_b z_v z_ep z_su z_by z_mo (f_MD_object_a_st motion trustee z_mo z_st z_fi z_ob) z_bl z_fi (f_MD_object_a_ob motion trustee z_mo z_st z_fi z_ob) z_po z_pr z_an z_bk := by
  by_cases h6 : f_MD_isMotion motion z_mo = 0
  · have hg : g_ST_object motion trustee z_mo (z_st (xl_ix motion)) (z_fi (xl_ix motion)) (z_ob (xl_ix motion)) = some xt_NS := by rw [g_ST_object, xt_el1 (sm_at0 h6), sm_at0 h6]
    have m0 : f_MD_object_thrownCode motion trustee z_mo z_st z_fi z_ob = 1 := by rw [f_MD_object_thrownCode, if_pos h6]
    have m_a_ob : f_MD_object_a_ob motion trustee z_mo z_st z_fi z_ob = z_ob := by rw [f_MD_object_a_ob, if_pos h6]
    have m_a_st : f_MD_object_a_st motion trustee z_mo z_st z_fi z_ob = z_st := by rw [f_MD_object_a_st, if_pos h6]
    rw [hg, m0, m_a_ob, m_a_st]
    exact ⟨xh_e1.symm, rfl, rfl, fun _ _ => rfl, fun _ _ => rfl, xv_up hI⟩
  have hvM := xs_isM h6 (xv_mo hI)
  have hk := xl_ix_in hvM
  rw [hk]
  have hMr := xv_isr h6
  have hmt := hI.2.2.2.2.2.2.1 motion.toNatClampNeg (by show motion.toInt.toNat < z_mo.toInt.toNat; omega)
  obtain ⟨f0, f1, o0, o1, hb3, bl2, bln⟩ := hmt
  by_cases h13 : f_MD_isTrustee trustee = 0
  · have hg : g_ST_object motion trustee z_mo (z_st motion.toNatClampNeg) (z_fi motion.toNatClampNeg) (z_ob motion.toNatClampNeg) = some xt_NS := by rw [g_ST_object, xt_el0 (sm_at1 h6), xt_el1 (sm_tr0 h13), sm_tr0 h13]
    have m0 : f_MD_object_thrownCode motion trustee z_mo z_st z_fi z_ob = 1 := by rw [f_MD_object_thrownCode, if_neg h6, if_pos h13]
    have m_a_ob : f_MD_object_a_ob motion trustee z_mo z_st z_fi z_ob = z_ob := by rw [f_MD_object_a_ob, if_neg h6, if_pos h13]
    have m_a_st : f_MD_object_a_st motion trustee z_mo z_st z_fi z_ob = z_st := by rw [f_MD_object_a_st, if_neg h6, if_pos h13]
    rw [hg, m0, m_a_ob, m_a_st]
    exact ⟨xh_e1.symm, rfl, rfl, fun _ _ => rfl, fun _ _ => rfl, xv_up hI⟩
  have hvT := xs_isT h13
  by_cases h26 : z_st motion.toNatClampNeg = 0
  rotate_left
  · have hg : g_ST_object motion trustee z_mo (z_st motion.toNatClampNeg) (z_fi motion.toNatClampNeg) (z_ob motion.toNatClampNeg) = some xt_IS := by rw [g_ST_object, xt_el0 (sm_at1 h6), xt_el0 (sm_tr1 h13), xt_el1 (sm_op1 h26), sm_op1 h26]
    have m0 : f_MD_object_thrownCode motion trustee z_mo z_st z_fi z_ob = 2 := by rw [f_MD_object_thrownCode, if_neg h6, if_neg h13, if_neg h26]
    have m_a_ob : f_MD_object_a_ob motion trustee z_mo z_st z_fi z_ob = z_ob := by rw [f_MD_object_a_ob, if_neg h6, if_neg h13, if_neg h26]
    have m_a_st : f_MD_object_a_st motion trustee z_mo z_st z_fi z_ob = z_st := by rw [f_MD_object_a_st, if_neg h6, if_neg h13, if_neg h26]
    rw [hg, m0, m_a_ob, m_a_st]
    exact ⟨(xh_e2 (by decide)).symm, rfl, rfl, fun _ _ => rfl, fun _ _ => rfl, xv_up hI⟩
  have hvo := sm_vo (m := motion) (fi := z_fi) (ob := z_ob) ⟨f0, f1⟩ ⟨o0, o1⟩ hvT
  by_cases h35 : f_MD_voice motion trustee z_fi z_ob = 0
  rotate_left
  · have h36 := fun z => h35 (hvo.mpr z)
    have hg : g_ST_object motion trustee z_mo (z_st motion.toNatClampNeg) (z_fi motion.toNatClampNeg) (z_ob motion.toNatClampNeg) = some xt_IS := by rw [g_ST_object, xt_el0 (sm_at1 h6), xt_el0 (sm_tr1 h13), xt_el0 (sm_op0 h26), xt_el1 (sm_nv1 h36), sm_nv1 h36]
    have m0 : f_MD_object_thrownCode motion trustee z_mo z_st z_fi z_ob = 2 := by rw [f_MD_object_thrownCode, if_neg h6, if_neg h13, if_pos h26, if_neg h35]
    have m_a_ob : f_MD_object_a_ob motion trustee z_mo z_st z_fi z_ob = z_ob := by rw [f_MD_object_a_ob, if_neg h6, if_neg h13, if_pos h26, if_neg h35]
    have m_a_st : f_MD_object_a_st motion trustee z_mo z_st z_fi z_ob = z_st := by rw [f_MD_object_a_st, if_neg h6, if_neg h13, if_pos h26, if_neg h35]
    rw [hg, m0, m_a_ob, m_a_st]
    exact ⟨(xh_e2 (by decide)).symm, rfl, rfl, fun _ _ => rfl, fun _ _ => rfl, xv_up hI⟩
  have h36 := hvo.mp h35
  have hob := sm_orb ⟨f0, f1⟩ ⟨o0, o1⟩ hvT h36
  have hb2 := hb3 h26
  have hnw := sm_or1 (x := z_ob motion.toNatClampNeg) ⟨o0, o1⟩ hvT
  have had := sm_add ⟨o0, o1⟩ hvT hob hb2
  have hcn := sm_cnt hnw
  have hg : g_ST_object motion trustee z_mo (z_st motion.toNatClampNeg) (z_fi motion.toNatClampNeg) (z_ob motion.toNatClampNeg) = none := by rw [g_ST_object, xt_el0 (sm_at1 h6), xt_el0 (sm_tr1 h13), xt_el0 (sm_op0 h26), xt_el0 (sm_nv0 h36)]
  have e1 : f_ST_object_objections motion trustee z_mo (z_st motion.toNatClampNeg) (z_fi motion.toNatClampNeg) (z_ob motion.toNatClampNeg) = z_ob motion.toNatClampNeg ||| ((1 : Int32) <<< (trustee &&& 31)) := by
    rw [f_ST_object_objections, xt_el0 (sm_at1 h6), xt_el0 (sm_tr1 h13), xt_el0 (sm_op0 h26), xt_el0 (sm_nv0 h36), f_MO_takeObjection_objections]
    split <;> rfl
  rw [hg]
  by_cases h80 : f_MD_bits (z_ob motion.toNatClampNeg ||| ((1 : Int32) <<< (trustee &&& 31))) = 3
  · have hu : f_MD_bits ((upd z_ob motion.toNatClampNeg ((z_ob motion.toNatClampNeg) ||| ((1 : Int32) <<< (trustee &&& 31)))) motion.toNatClampNeg) = 3 := by rw [sm_u1]; exact h80
    have q0 : f_MD_object_thrownCode motion trustee z_mo z_st z_fi z_ob = 0 := by rw [f_MD_object_thrownCode, if_neg h6, if_neg h13, if_pos h26, if_pos h35, if_pos hu]
    have q1 : f_MD_object_a_ob motion trustee z_mo z_st z_fi z_ob = upd z_ob motion.toNatClampNeg (z_ob motion.toNatClampNeg ||| ((1 : Int32) <<< (trustee &&& 31))) := by rw [f_MD_object_a_ob, if_neg h6, if_neg h13, if_pos h26, if_pos h35, if_pos hu]
    have q2 : f_MD_object_a_st motion trustee z_mo z_st z_fi z_ob = (upd z_st motion.toNatClampNeg (2 : Int32)) := by rw [f_MD_object_a_st, if_neg h6, if_neg h13, if_pos h26, if_pos h35, if_pos hu]
    rw [q0, q1, q2]
    have e2 : f_ST_object_standing motion trustee z_mo (z_st motion.toNatClampNeg) (z_fi motion.toNatClampNeg) (z_ob motion.toNatClampNeg) = 2 := by
      rw [f_ST_object_standing, xt_el0 (sm_at1 h6), xt_el0 (sm_tr1 h13), xt_el0 (sm_op0 h26), xt_el0 (sm_nv0 h36), f_MO_takeObjection_standing, hcn, if_neg (had.mp h80)]
    refine ⟨rfl, ?_, ?_, fun j hj => sm_u2 _ _ hj, fun j hj => sm_u2 _ _ hj, ?_⟩
    · rw [sm_u1]
      exact e1
    · rw [sm_u1]
      exact e2
    · obtain ⟨a1, a2, a3, a4, a5, a6, a7, a8⟩ := xv_up hI
      refine ⟨a1, a2, ⟨a3.1, ?_⟩, a4, a5, a6, fun k hk => ?_, a8⟩
      · rw [← a3.2]
        refine sc_same (fun k _ => ?_)
        by_cases h : k = motion.toNatClampNeg
        · subst h
          rw [sm_u1, h26]
          decide
        · rw [sm_u2 _ _ h]
      · obtain ⟨c0, c1, d0, d1, w3, w4, w5⟩ := a7 k hk
        by_cases h : k = motion.toNatClampNeg
        · subst h
          exact ⟨c0, c1, by rw [sm_u1]; exact hnw.1, by rw [sm_u1]; exact hnw.2, fun z => by rw [sm_u1] at z; exact absurd z (by decide), w4, w5⟩
        · exact ⟨c0, c1, by rw [sm_u2 _ _ h]; exact d0, by rw [sm_u2 _ _ h]; exact d1, fun z => by rw [sm_u2 _ _ h] at z ⊢; exact w3 z, w4, w5⟩
  · have hu : ¬ f_MD_bits ((upd z_ob motion.toNatClampNeg ((z_ob motion.toNatClampNeg) ||| ((1 : Int32) <<< (trustee &&& 31)))) motion.toNatClampNeg) = 3 := by rw [sm_u1]; exact h80
    have q0 : f_MD_object_thrownCode motion trustee z_mo z_st z_fi z_ob = 0 := by rw [f_MD_object_thrownCode, if_neg h6, if_neg h13, if_pos h26, if_pos h35, if_neg hu]
    have q1 : f_MD_object_a_ob motion trustee z_mo z_st z_fi z_ob = upd z_ob motion.toNatClampNeg (z_ob motion.toNatClampNeg ||| ((1 : Int32) <<< (trustee &&& 31))) := by rw [f_MD_object_a_ob, if_neg h6, if_neg h13, if_pos h26, if_pos h35, if_neg hu]
    have q2 : f_MD_object_a_st motion trustee z_mo z_st z_fi z_ob = z_st := by rw [f_MD_object_a_st, if_neg h6, if_neg h13, if_pos h26, if_pos h35, if_neg hu]
    rw [q0, q1, q2]
    have h81 : f_MD_bits (z_ob motion.toNatClampNeg ||| ((1 : Int32) <<< (trustee &&& 31))) < 3 := Decidable.byContradiction fun z => h80 (had.mpr z)
    have e2 : f_ST_object_standing motion trustee z_mo (z_st motion.toNatClampNeg) (z_fi motion.toNatClampNeg) (z_ob motion.toNatClampNeg) = z_st motion.toNatClampNeg := by
      rw [f_ST_object_standing, xt_el0 (sm_at1 h6), xt_el0 (sm_tr1 h13), xt_el0 (sm_op0 h26), xt_el0 (sm_nv0 h36), f_MO_takeObjection_standing, hcn, if_pos h81]
    refine ⟨rfl, ?_, e2, fun j hj => rfl, fun j hj => sm_u2 _ _ hj, ?_⟩
    · rw [sm_u1]
      exact e1
    · obtain ⟨a1, a2, a3, a4, a5, a6, a7, a8⟩ := xv_up hI
      refine ⟨a1, a2, a3, a4, a5, a6, fun k hk => ?_, a8⟩
      obtain ⟨c0, c1, d0, d1, w3, w4, w5⟩ := a7 k hk
      by_cases h : k = motion.toNatClampNeg
      · subst h
        exact ⟨c0, c1, by rw [sm_u1]; exact hnw.1, by rw [sm_u1]; exact hnw.2, fun _ => by rw [sm_u1]; exact h81, w4, w5⟩
      · exact ⟨c0, c1, by rw [sm_u2 _ _ h]; exact d0, by rw [sm_u2 _ _ h]; exact d1, fun z => by rw [sm_u2 _ _ h]; exact w3 z, w4, w5⟩
end SLA
