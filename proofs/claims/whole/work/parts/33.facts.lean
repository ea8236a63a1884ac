/-! what holds between class and reference: first conclusions -/
section XVF
theorem xv_by0 {t : Nat} {dealt : Int32} {epoch : Int64} {signing : Int64} {pp : Int64} {qq : Int64} {shares : Nat → Int64} {checks : Nat → Int64} {powers : Nat → Nat → Int64} {challenges : Nat → Nat → Int32} {answers : Nat → Nat → Int64} {z_n : Int64} {z_m : Int64} {z_d : Int64} {z_a : Int64} {z_b : Int64} {z_v : Int64} {z_ep : Int32} {z_su : Int32} {z_by : Int32} {z_mo : Int32} {z_st : Nat → Int32} {z_bl : Nat → Int64} {z_fi : Nat → Int32} {z_ob : Nat → Int32} {z_po : Nat → Int64} {z_pr : Nat → Int32} {z_an : Nat → Int64} {z_bk : Int32} (hI : xv_I t dealt epoch signing pp qq shares checks powers challenges answers z_n z_m z_d z_a z_b z_v z_ep z_su z_by z_mo z_st z_bl z_fi z_ob z_po z_pr z_an z_bk) : 0 ≤ z_by.toInt := hI.1.1
theorem xv_by {t : Nat} {dealt : Int32} {epoch : Int64} {signing : Int64} {pp : Int64} {qq : Int64} {shares : Nat → Int64} {checks : Nat → Int64} {powers : Nat → Nat → Int64} {challenges : Nat → Nat → Int32} {answers : Nat → Nat → Int64} {z_n : Int64} {z_m : Int64} {z_d : Int64} {z_a : Int64} {z_b : Int64} {z_v : Int64} {z_ep : Int32} {z_su : Int32} {z_by : Int32} {z_mo : Int32} {z_st : Nat → Int32} {z_bl : Nat → Int64} {z_fi : Nat → Int32} {z_ob : Nat → Int32} {z_po : Nat → Int64} {z_pr : Nat → Int32} {z_an : Nat → Int64} {z_bk : Int32} (hI : xv_I t dealt epoch signing pp qq shares checks powers challenges answers z_n z_m z_d z_a z_b z_v z_ep z_su z_by z_mo z_st z_bl z_fi z_ob z_po z_pr z_an z_bk) : z_by.toInt ≤ 24 := hI.1.2
theorem xv_mo0 {t : Nat} {dealt : Int32} {epoch : Int64} {signing : Int64} {pp : Int64} {qq : Int64} {shares : Nat → Int64} {checks : Nat → Int64} {powers : Nat → Nat → Int64} {challenges : Nat → Nat → Int32} {answers : Nat → Nat → Int64} {z_n : Int64} {z_m : Int64} {z_d : Int64} {z_a : Int64} {z_b : Int64} {z_v : Int64} {z_ep : Int32} {z_su : Int32} {z_by : Int32} {z_mo : Int32} {z_st : Nat → Int32} {z_bl : Nat → Int64} {z_fi : Nat → Int32} {z_ob : Nat → Int32} {z_po : Nat → Int64} {z_pr : Nat → Int32} {z_an : Nat → Int64} {z_bk : Int32} (hI : xv_I t dealt epoch signing pp qq shares checks powers challenges answers z_n z_m z_d z_a z_b z_v z_ep z_su z_by z_mo z_st z_bl z_fi z_ob z_po z_pr z_an z_bk) : 0 ≤ z_mo.toInt := hI.2.1.1
theorem xv_mo {t : Nat} {dealt : Int32} {epoch : Int64} {signing : Int64} {pp : Int64} {qq : Int64} {shares : Nat → Int64} {checks : Nat → Int64} {powers : Nat → Nat → Int64} {challenges : Nat → Nat → Int32} {answers : Nat → Nat → Int64} {z_n : Int64} {z_m : Int64} {z_d : Int64} {z_a : Int64} {z_b : Int64} {z_v : Int64} {z_ep : Int32} {z_su : Int32} {z_by : Int32} {z_mo : Int32} {z_st : Nat → Int32} {z_bl : Nat → Int64} {z_fi : Nat → Int32} {z_ob : Nat → Int32} {z_po : Nat → Int64} {z_pr : Nat → Int32} {z_an : Nat → Int64} {z_bk : Int32} (hI : xv_I t dealt epoch signing pp qq shares checks powers challenges answers z_n z_m z_d z_a z_b z_v z_ep z_su z_by z_mo z_st z_bl z_fi z_ob z_po z_pr z_an z_bk) : z_mo.toInt ≤ 12 := hI.2.1.2
theorem xv_bk0 {t : Nat} {dealt : Int32} {epoch : Int64} {signing : Int64} {pp : Int64} {qq : Int64} {shares : Nat → Int64} {checks : Nat → Int64} {powers : Nat → Nat → Int64} {challenges : Nat → Nat → Int32} {answers : Nat → Nat → Int64} {z_n : Int64} {z_m : Int64} {z_d : Int64} {z_a : Int64} {z_b : Int64} {z_v : Int64} {z_ep : Int32} {z_su : Int32} {z_by : Int32} {z_mo : Int32} {z_st : Nat → Int32} {z_bl : Nat → Int64} {z_fi : Nat → Int32} {z_ob : Nat → Int32} {z_po : Nat → Int64} {z_pr : Nat → Int32} {z_an : Nat → Int64} {z_bk : Int32} (hI : xv_I t dealt epoch signing pp qq shares checks powers challenges answers z_n z_m z_d z_a z_b z_v z_ep z_su z_by z_mo z_st z_bl z_fi z_ob z_po z_pr z_an z_bk) : 0 ≤ z_bk.toInt := hI.2.2.1.1
theorem xv_bk12 {t : Nat} {dealt : Int32} {epoch : Int64} {signing : Int64} {pp : Int64} {qq : Int64} {shares : Nat → Int64} {checks : Nat → Int64} {powers : Nat → Nat → Int64} {challenges : Nat → Nat → Int32} {answers : Nat → Nat → Int64} {z_n : Int64} {z_m : Int64} {z_d : Int64} {z_a : Int64} {z_b : Int64} {z_v : Int64} {z_ep : Int32} {z_su : Int32} {z_by : Int32} {z_mo : Int32} {z_st : Nat → Int32} {z_bl : Nat → Int64} {z_fi : Nat → Int32} {z_ob : Nat → Int32} {z_po : Nat → Int64} {z_pr : Nat → Int32} {z_an : Nat → Int64} {z_bk : Int32} (hI : xv_I t dealt epoch signing pp qq shares checks powers challenges answers z_n z_m z_d z_a z_b z_v z_ep z_su z_by z_mo z_st z_bl z_fi z_ob z_po z_pr z_an z_bk) : z_bk.toInt ≤ 12 := by
  have h1 := hI.2.2.1
  have h2 := List.length_filter_le (fun k => decide (z_st k = 1)) (List.range z_mo.toInt.toNat)
  rw [List.length_range] at h2
  have h3 := hI.2.1
  omega
theorem xv_pos {a b : Nat} (h : xv_pq a b) : 100 ≤ a * b ∧ a * b ≤ 16383 * 16383 ∧ 400 ≤ (2 * a + 1) * (2 * b + 1) ∧ (2 * a + 1) * (2 * b + 1) ≤ 32767 * 32767 := by
  obtain ⟨-, -, -, -, -, h1, h2, h3, h4⟩ := h
  have h5 : 20 * 20 ≤ (2 * a + 1) * (2 * b + 1) := Nat.mul_le_mul (by omega) (by omega)
  exact ⟨Nat.mul_le_mul h1 h3, Nat.mul_le_mul h2 h4, h5, Nat.mul_le_mul (by omega) (by omega)⟩
theorem xv_kn {t : Nat} {dealt : Int32} {epoch : Int64} {signing : Int64} {pp : Int64} {qq : Int64} {shares : Nat → Int64} {checks : Nat → Int64} {powers : Nat → Nat → Int64} {challenges : Nat → Nat → Int32} {answers : Nat → Nat → Int64} {z_n : Int64} {z_m : Int64} {z_d : Int64} {z_a : Int64} {z_b : Int64} {z_v : Int64} {z_ep : Int32} {z_su : Int32} {z_by : Int32} {z_mo : Int32} {z_st : Nat → Int32} {z_bl : Nat → Int64} {z_fi : Nat → Int32} {z_ob : Nat → Int32} {z_po : Nat → Int64} {z_pr : Nat → Int32} {z_an : Nat → Int64} {z_bk : Int32} (hI : xv_I t dealt epoch signing pp qq shares checks powers challenges answers z_n z_m z_d z_a z_b z_v z_ep z_su z_by z_mo z_st z_bl z_fi z_ob z_po z_pr z_an z_bk) (h : ¬ z_n = 0) : dealt = 1 ∧ xv_key signing pp qq shares checks z_n z_m z_d z_a z_b z_v := by
  rcases hI.2.2.2.2.2.2.2 with h1 | h1
  · exact absurd h1.1 h
  · exact h1
theorem xv_kz {signing pp qq : Int64} {shares checks : Nat → Int64} {z_n z_m z_d z_a z_b z_v : Int64} (h : xv_key signing pp qq shares checks z_n z_m z_d z_a z_b z_v) : ¬ z_m = 0 ∧ ¬ z_n = 0 ∧ ¬ z_n - (3 : Int64) = 0 ∧ ¬ (2 : Int64) * z_m = 0 := by
  obtain ⟨a, b, hpq, h1, h2, -⟩ := h
  obtain ⟨p1, p2, p3, p4⟩ := xv_pos hpq
  refine ⟨fun z => ?_, fun z => ?_, fun z => ?_, fun z => ?_⟩
  · rw [z, show (0 : Int64).toInt = 0 from rfl] at h2
    omega
  · rw [z, show (0 : Int64).toInt = 0 from rfl] at h1
    omega
  · have h3 : (z_n - (3 : Int64)).toInt = z_n.toInt - 3 := by
      rw [Int64.toInt_sub, show (3 : Int64).toInt = 3 from rfl]
      exact Int.bmod_eq_of_le (by omega) (by omega)
    rw [z, show (0 : Int64).toInt = 0 from rfl] at h3
    omega
  · have h3 : ((2 : Int64) * z_m).toInt = 2 * z_m.toInt := by
      rw [Int64.toInt_mul, show (2 : Int64).toInt = 2 from rfl]
      exact Int.bmod_eq_of_le (by omega) (by omega)
    rw [z, show (0 : Int64).toInt = 0 from rfl] at h3
    omega
theorem xv_nm {t : Nat} {dealt : Int32} {epoch : Int64} {signing : Int64} {pp : Int64} {qq : Int64} {shares : Nat → Int64} {checks : Nat → Int64} {powers : Nat → Nat → Int64} {challenges : Nat → Nat → Int32} {answers : Nat → Nat → Int64} {z_n : Int64} {z_m : Int64} {z_d : Int64} {z_a : Int64} {z_b : Int64} {z_v : Int64} {z_ep : Int32} {z_su : Int32} {z_by : Int32} {z_mo : Int32} {z_st : Nat → Int32} {z_bl : Nat → Int64} {z_fi : Nat → Int32} {z_ob : Nat → Int32} {z_po : Nat → Int64} {z_pr : Nat → Int32} {z_an : Nat → Int64} {z_bk : Int32} (hI : xv_I t dealt epoch signing pp qq shares checks powers challenges answers z_n z_m z_d z_a z_b z_v z_ep z_su z_by z_mo z_st z_bl z_fi z_ob z_po z_pr z_an z_bk) (h : ¬ z_n = 0) : ¬ z_m = 0 := (xv_kz (xv_kn hI h).2).1
theorem xv_n3 {t : Nat} {dealt : Int32} {epoch : Int64} {signing : Int64} {pp : Int64} {qq : Int64} {shares : Nat → Int64} {checks : Nat → Int64} {powers : Nat → Nat → Int64} {challenges : Nat → Nat → Int32} {answers : Nat → Nat → Int64} {z_n : Int64} {z_m : Int64} {z_d : Int64} {z_a : Int64} {z_b : Int64} {z_v : Int64} {z_ep : Int32} {z_su : Int32} {z_by : Int32} {z_mo : Int32} {z_st : Nat → Int32} {z_bl : Nat → Int64} {z_fi : Nat → Int32} {z_ob : Nat → Int32} {z_po : Nat → Int64} {z_pr : Nat → Int32} {z_an : Nat → Int64} {z_bk : Int32} (hI : xv_I t dealt epoch signing pp qq shares checks powers challenges answers z_n z_m z_d z_a z_b z_v z_ep z_su z_by z_mo z_st z_bl z_fi z_ob z_po z_pr z_an z_bk) (h : ¬ z_n = 0) : ¬ z_n - (3 : Int64) = 0 := (xv_kz (xv_kn hI h).2).2.2.1
theorem xv_isn {t : Nat} {dealt : Int32} {epoch : Int64} {signing : Int64} {pp : Int64} {qq : Int64} {shares : Nat → Int64} {checks : Nat → Int64} {powers : Nat → Nat → Int64} {challenges : Nat → Nat → Int32} {answers : Nat → Nat → Int64} {z_n : Int64} {z_m : Int64} {z_d : Int64} {z_a : Int64} {z_b : Int64} {z_v : Int64} {z_ep : Int32} {z_su : Int32} {z_by : Int32} {z_mo : Int32} {z_st : Nat → Int32} {z_bl : Nat → Int64} {z_fi : Nat → Int32} {z_ob : Nat → Int32} {z_po : Nat → Int64} {z_pr : Nat → Int32} {z_an : Nat → Int64} {z_bk : Int32} {motion : Int32} (hI : xv_I t dealt epoch signing pp qq shares checks powers challenges answers z_n z_m z_d z_a z_b z_v z_ep z_su z_by z_mo z_st z_bl z_fi z_ob z_po z_pr z_an z_bk) (h : ¬ f_MD_isMotion motion z_mo = 0) : ¬ z_n = 0 := by
  intro z
  rcases hI.2.2.2.2.2.2.2 with h1 | h1
  · rw [h1.2.2] at h
    unfold f_MD_isMotion at h
    split at h
    · exact h rfl
    · split at h
      · exact h rfl
      · rename_i h2 h3
        rw [Int32.lt_iff_toInt_lt] at h2
        rw [Int32.le_iff_toInt_le] at h3
        omega
  · exact (xv_kz h1.2).2.1 z
theorem xv_im {t : Nat} {dealt : Int32} {epoch : Int64} {signing : Int64} {pp : Int64} {qq : Int64} {shares : Nat → Int64} {checks : Nat → Int64} {powers : Nat → Nat → Int64} {challenges : Nat → Nat → Int32} {answers : Nat → Nat → Int64} {z_n : Int64} {z_m : Int64} {z_d : Int64} {z_a : Int64} {z_b : Int64} {z_v : Int64} {z_ep : Int32} {z_su : Int32} {z_by : Int32} {z_mo : Int32} {z_st : Nat → Int32} {z_bl : Nat → Int64} {z_fi : Nat → Int32} {z_ob : Nat → Int32} {z_po : Nat → Int64} {z_pr : Nat → Int32} {z_an : Nat → Int64} {z_bk : Int32} {motion : Int32} (hI : xv_I t dealt epoch signing pp qq shares checks powers challenges answers z_n z_m z_d z_a z_b z_v z_ep z_su z_by z_mo z_st z_bl z_fi z_ob z_po z_pr z_an z_bk) (h : ¬ f_MD_isMotion motion z_mo = 0) : ¬ z_m = 0 ∧ ¬ z_n = 0 := ⟨xv_nm hI (xv_isn hI h), xv_isn hI h⟩
theorem xv_2m {t : Nat} {dealt : Int32} {epoch : Int64} {signing : Int64} {pp : Int64} {qq : Int64} {shares : Nat → Int64} {checks : Nat → Int64} {powers : Nat → Nat → Int64} {challenges : Nat → Nat → Int32} {answers : Nat → Nat → Int64} {z_n : Int64} {z_m : Int64} {z_d : Int64} {z_a : Int64} {z_b : Int64} {z_v : Int64} {z_ep : Int32} {z_su : Int32} {z_by : Int32} {z_mo : Int32} {z_st : Nat → Int32} {z_bl : Nat → Int64} {z_fi : Nat → Int32} {z_ob : Nat → Int32} {z_po : Nat → Int64} {z_pr : Nat → Int32} {z_an : Nat → Int64} {z_bk : Int32} {motion : Int32} (hI : xv_I t dealt epoch signing pp qq shares checks powers challenges answers z_n z_m z_d z_a z_b z_v z_ep z_su z_by z_mo z_st z_bl z_fi z_ob z_po z_pr z_an z_bk) (h : ¬ f_MD_isMotion motion z_mo = 0) : ¬ (2 : Int64) * z_m = 0 := (xv_kz (xv_kn hI (xv_isn hI h)).2).2.2.2
theorem xv_isr {motion z_mo : Int32} (h : ¬ f_MD_isMotion motion z_mo = 0) : 0 ≤ motion.toInt ∧ motion.toInt < z_mo.toInt := by
  unfold f_MD_isMotion at h
  split at h
  · exact absurd rfl h
  · split at h
    · exact absurd rfl h
    · rename_i h2 h3
      rw [Int32.lt_iff_toInt_lt, show (0 : Int32).toInt = 0 from rfl] at h2
      rw [Int32.le_iff_toInt_le] at h3
      omega
theorem xv_bkj {t : Nat} {dealt : Int32} {epoch : Int64} {signing : Int64} {pp : Int64} {qq : Int64} {shares : Nat → Int64} {checks : Nat → Int64} {powers : Nat → Nat → Int64} {challenges : Nat → Nat → Int32} {answers : Nat → Nat → Int64} {z_n : Int64} {z_m : Int64} {z_d : Int64} {z_a : Int64} {z_b : Int64} {z_v : Int64} {z_ep : Int32} {z_su : Int32} {z_by : Int32} {z_mo : Int32} {z_st : Nat → Int32} {z_bl : Nat → Int64} {z_fi : Nat → Int32} {z_ob : Nat → Int32} {z_po : Nat → Int64} {z_pr : Nat → Int32} {z_an : Nat → Int64} {z_bk : Int32} {motion : Int32} (hI : xv_I t dealt epoch signing pp qq shares checks powers challenges answers z_n z_m z_d z_a z_b z_v z_ep z_su z_by z_mo z_st z_bl z_fi z_ob z_po z_pr z_an z_bk) (h : ¬ f_MD_isMotion motion z_mo = 0) (h0 : z_st motion.toNatClampNeg = 0) : vp_in z_bk 12 := by
  have h1 := hI.2.2.1
  have h4 := xv_isr h
  have h2 : ((List.range z_mo.toInt.toNat).filter (fun k => decide (z_st k = 1))).length < (List.range z_mo.toInt.toNat).length := by
    rw [List.length_filter_lt_length_iff_exists]
    refine ⟨motion.toInt.toNat, List.mem_range.mpr (by omega), ?_⟩
    have h5 : z_st motion.toInt.toNat = 0 := h0
    rw [h5]
    decide
  rw [List.length_range] at h2
  have h3 := hI.2.1
  exact vp_in_iff.mpr ⟨h1.1, by omega⟩
theorem xl_hM {t : Nat} {dealt : Int32} {epoch : Int64} {signing : Int64} {pp : Int64} {qq : Int64} {shares : Nat → Int64} {checks : Nat → Int64} {powers : Nat → Nat → Int64} {challenges : Nat → Nat → Int32} {answers : Nat → Nat → Int64} {z_n : Int64} {z_m : Int64} {z_d : Int64} {z_a : Int64} {z_b : Int64} {z_v : Int64} {z_ep : Int32} {z_su : Int32} {z_by : Int32} {z_mo : Int32} {z_st : Nat → Int32} {z_bl : Nat → Int64} {z_fi : Nat → Int32} {z_ob : Nat → Int32} {z_po : Nat → Int64} {z_pr : Nat → Int32} {z_an : Nat → Int64} {z_bk : Int32} {motion : Int32} {mot : Nat → Option Nat} {mo : Nat → Nat} {kk : Nat} (hI : xv_I t dealt epoch signing pp qq shares checks powers challenges answers z_n z_m z_d z_a z_b z_v z_ep z_su z_by z_mo z_st z_bl z_fi z_ob z_po z_pr z_an z_bk) (hmot : ∀ j, j < 12 → mot j = some (mo j)) (hkk : xl_ix motion = kk) : ¬ motion < 0 → motion < z_mo → mot motion.toNatClampNeg = some (mo kk) := by
  intro h1 h2
  have h3 := xs_min h1 h2 (xv_mo hI)
  have h4 := vp_in_iff.mp h3
  rw [← hkk, xl_ix_in h3]
  exact hmot _ (by show motion.toInt.toNat < 12; omega)
theorem xl_hMo {t : Nat} {dealt : Int32} {epoch : Int64} {signing : Int64} {pp : Int64} {qq : Int64} {shares : Nat → Int64} {checks : Nat → Int64} {powers : Nat → Nat → Int64} {challenges : Nat → Nat → Int32} {answers : Nat → Nat → Int64} {z_n : Int64} {z_m : Int64} {z_d : Int64} {z_a : Int64} {z_b : Int64} {z_v : Int64} {z_ep : Int32} {z_su : Int32} {z_by : Int32} {z_mo : Int32} {z_st : Nat → Int32} {z_bl : Nat → Int64} {z_fi : Nat → Int32} {z_ob : Nat → Int32} {z_po : Nat → Int64} {z_pr : Nat → Int32} {z_an : Nat → Int64} {z_bk : Int32} {mot : Nat → Option Nat} {mo : Nat → Nat} {kk : Nat} (hI : xv_I t dealt epoch signing pp qq shares checks powers challenges answers z_n z_m z_d z_a z_b z_v z_ep z_su z_by z_mo z_st z_bl z_fi z_ob z_po z_pr z_an z_bk) (hmot : ∀ j, j < 12 → mot j = some (mo j)) (hkk : xl_ix z_mo = kk) : z_mo < 12 → mot z_mo.toNatClampNeg = some (mo kk) := by
  intro h2
  have h3 := xs_min3 h2 (xv_mo0 hI)
  have h4 := vp_in_iff.mp h3
  rw [← hkk, xl_ix_in h3]
  exact hmot _ (by show z_mo.toInt.toNat < 12; omega)
theorem xl_in {i c : Int32} {L : Nat} (h0 : 0 ≤ i.toInt) (h8 : i.toInt + 8 ≤ L) (hL : L ≤ 4096) (hc : 0 ≤ c.toInt ∧ c.toInt < 8) : vp_in (i + c) L := by
  have h1 : (i + c).toInt = i.toInt + c.toInt := by
    rw [Int32.toInt_add]
    exact Int.bmod_eq_of_le (by omega) (by omega)
  exact vp_in_iff.mpr ⟨by omega, by omega⟩
theorem xl_fr {z : Nat} {fa : List Nat} {ma : Nat → List Nat} {kk : Nat} (hA : xl_A z fa ma) (hk : kk < 12) : ∀ q, q ∈ fa ++ ma kk → z ≤ q := fun q hq => by
  rcases List.mem_append.mp hq with h | h
  · exact hA.2.2.1 q h
  · exact hA.2.2.2 kk hk q h
end XVF
