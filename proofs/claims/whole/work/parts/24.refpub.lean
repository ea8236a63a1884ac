/-! the reference: its public methods -/
theorem xs_isM {m z : Int32} (h : ¬ f_MD_isMotion m z = 0) (hQ : z.toInt ≤ 12) : vp_in m 12 := by
  unfold f_MD_isMotion at h
  split at h
  · exact absurd rfl h
  · split at h
    · exact absurd rfl h
    · rename_i h1 h2
      rw [Int32.lt_iff_toInt_lt] at h1
      rw [Int32.le_iff_toInt_le] at h2
      rw [show (0 : Int32).toInt = 0 from rfl] at h1
      exact vp_in_iff.mpr ⟨by omega, by omega⟩
theorem xs_isT {m : Int32} (h : ¬ f_MD_isTrustee m = 0) : vp_in m 6 := by
  unfold f_MD_isTrustee at h
  split at h
  · exact absurd rfl h
  · split at h
    · exact absurd rfl h
    · rename_i h1 h2
      rw [Int32.lt_iff_toInt_lt] at h1
      rw [Int32.le_iff_toInt_le] at h2
      rw [show (0 : Int32).toInt = 0 from rfl] at h1
      rw [show (6 : Int32).toInt = 6 from rfl] at h2
      exact vp_in_iff.mpr ⟨by omega, by omega⟩
theorem xs_safeB {x : Int32} (h : ¬ f_MD_safe x = 0) : 20 ≤ x.toInt ∧ x.toInt ≤ 32767 := by
  unfold f_MD_safe at h
  split at h
  · exact absurd rfl h
  · split at h
    · exact absurd rfl h
    · rename_i h1 h2
      rw [Int32.lt_iff_toInt_lt] at h1 h2
      rw [show (20 : Int32).toInt = 20 from rfl] at h1
      rw [show (32767 : Int32).toInt = 32767 from rfl] at h2
      omega
theorem xs_safeM {x : Int32} (h : ¬ f_MD_safe x = 0) : ¬ x = 0 := by
  have h1 := xs_safeB h
  intro z
  rw [z] at h1
  exact absurd h1.1 (by decide)
theorem xs_half3 {x : Int32} (h : 20 ≤ x.toInt ∧ x.toInt ≤ 32767) : (x / (2 : Int32)).toInt64.toInt = x.toInt / 2 := by
  rw [Int32.toInt_toInt64, Int32.toInt_div_of_ne_right _ _ (by decide), show (2 : Int32).toInt = 2 from rfl, Int.tdiv_eq_ediv_of_nonneg (by omega)]
theorem xs_mB {x y : Int32} (hx : 20 ≤ x.toInt ∧ x.toInt ≤ 32767) (hy : 20 ≤ y.toInt ∧ y.toInt ≤ 32767) : ((x / (2 : Int32)).toInt64 * (y / (2 : Int32)).toInt64).toInt = (x.toInt / 2) * (y.toInt / 2) := by
  rw [Int64.toInt_mul, xs_half3 hx, xs_half3 hy]
  have h1 : 0 ≤ (x.toInt / 2) * (y.toInt / 2) := Int.mul_nonneg (by omega) (by omega)
  have h2 : (x.toInt / 2) * (y.toInt / 2) ≤ 16383 * 16383 := Int.mul_le_mul (by omega) (by omega) (by omega) (by omega)
  exact Int.bmod_eq_of_le (by omega) (by omega)
theorem xs_mM {x y : Int32} (h : ¬ f_MD_safe x = 0) (k : ¬ f_MD_safe y = 0) : ¬ (x / (2 : Int32)).toInt64 * (y / (2 : Int32)).toInt64 = 0 := by
  intro z
  have h1 := xs_mB (xs_safeB h) (xs_safeB k)
  rw [z, show (0 : Int64).toInt = 0 from rfl] at h1
  have h2 := xs_safeB h
  have h3 := xs_safeB k
  have h4 : 10 * 10 ≤ (x.toInt / 2) * (y.toInt / 2) := Int.mul_le_mul (by omega) (by omega) (by omega) (by omega)
  omega
theorem xs_nB {x y : Int32} (hx : 20 ≤ x.toInt ∧ x.toInt ≤ 32767) (hy : 20 ≤ y.toInt ∧ y.toInt ≤ 32767) : (x * y).toInt64.toInt = x.toInt * y.toInt := by
  have h1 : 0 ≤ x.toInt * y.toInt := Int.mul_nonneg (by omega) (by omega)
  have h2 : x.toInt * y.toInt ≤ 32767 * 32767 := Int.mul_le_mul (by omega) (by omega) (by omega) (by omega)
  rw [Int32.toInt_toInt64, xi_mul (by omega) (by omega)]
theorem xs_nM {x y : Int32} (h : ¬ f_MD_safe x = 0) (k : ¬ f_MD_safe y = 0) : ¬ (x * y).toInt64 = 0 := by
  intro z
  have h1 := xs_nB (xs_safeB h) (xs_safeB k)
  rw [z, show (0 : Int64).toInt = 0 from rfl] at h1
  have h2 := xs_safeB h
  have h3 := xs_safeB k
  have h4 : 20 * 20 ≤ x.toInt * y.toInt := Int.mul_le_mul (by omega) (by omega) (by omega) (by omega)
  omega
theorem xm_start {n z : Int32} (h1 : ¬ n < 1) (h4 : ¬ 4 < n) (h : z + n ≤ 24) (hz : 0 ≤ z.toInt) (hz2 : z.toInt ≤ 24) : -1 ≤ (n - (1 : Int32)).toInt ∧ (n - (1 : Int32)).toInt < ((6 : Nat) : Int) - 1 ∧ 0 ≤ z.toInt ∧ z.toInt + (n - (1 : Int32)).toInt + 1 ≤ 24 := by
  have h1 := xs_n1 h1
  have h4 := xs_n4 h4
  rw [Int32.le_iff_toInt_le, Int32.toInt_add, Int.bmod_eq_of_le (by omega) (by omega), show (24 : Int32).toInt = 24 from rfl] at h
  rw [xs_sub1 (by omega)]
  omega
theorem xm_down {i z : Int32} {n : Nat} (h : ¬ i < 0) (hmu : -1 ≤ i.toInt ∧ i.toInt < ((n + 1 : Nat) : Int) - 1 ∧ 0 ≤ z.toInt ∧ z.toInt + i.toInt + 1 ≤ 24) : -1 ≤ (i + (-1 : Int32)).toInt ∧ (i + (-1 : Int32)).toInt < (n : Int) - 1 ∧ 0 ≤ (z + (1 : Int32)).toInt ∧ (z + (1 : Int32)).toInt + (i + (-1 : Int32)).toInt + 1 ≤ 24 := by
  rw [Int32.lt_iff_toInt_lt] at h
  have e0 : (0 : Int32).toInt = 0 := by decide
  rw [xs_dec (by omega), xi_inc (by omega)]
  omega
theorem xm_in {i z : Int32} {n : Nat} (h : ¬ i < 0) (hmu : -1 ≤ i.toInt ∧ i.toInt < ((n + 1 : Nat) : Int) - 1 ∧ 0 ≤ z.toInt ∧ z.toInt + i.toInt + 1 ≤ 24) : vp_in z 24 := by
  rw [Int32.lt_iff_toInt_lt] at h
  have e0 : (0 : Int32).toInt = 0 := by decide
  exact vp_in_iff.mpr ⟨by omega, by omega⟩
theorem xm_mo {z : Int32} (h : ¬ z = 12) (h0 : 0 ≤ z.toInt) (h1 : z.toInt ≤ 12) : vp_in z 12 := by
  have e : z.toInt ≠ 12 := xt_ne h
  exact vp_in_iff.mpr ⟨by omega, by omega⟩
def f_MD_deal_thrownCode (p_ : Int32) (q_ : Int32) (na : Int32) (nb_ : Int32) (root_ : Int32) : Int32 := if (f_MD_safe p_) = 0 then (1 : Int32) else (if (f_MD_safe q_) = 0 then (1 : Int32) else (if p_ = q_ then (1 : Int32) else (if na < 0 then (1 : Int32) else (if nb_ < 0 then (1 : Int32) else (if root_ < (2 : Int32) then (1 : Int32) else (if ((p_ * q_) - (2 : Int32)) < root_ then (1 : Int32) else (if (root_ - root_ / p_ * p_) = 0 then (1 : Int32) else (if (root_ - root_ / q_ * q_) = 0 then (1 : Int32) else (0 : Int32)))))))))
def f_MD_deal_n (p_ : Int32) (q_ : Int32) (na : Int32) (nb_ : Int32) (root_ : Int32) (z_n : Int64) : Int64 := if (f_MD_safe p_) = 0 then z_n else (if (f_MD_safe q_) = 0 then z_n else (if p_ = q_ then z_n else (if na < 0 then z_n else (if nb_ < 0 then z_n else (if root_ < (2 : Int32) then z_n else (if ((p_ * q_) - (2 : Int32)) < root_ then z_n else (if (root_ - root_ / p_ * p_) = 0 then z_n else (if (root_ - root_ / q_ * q_) = 0 then z_n else ((p_ * q_).toInt64)))))))))
def f_MD_deal_m (p_ : Int32) (q_ : Int32) (na : Int32) (nb_ : Int32) (root_ : Int32) (z_m : Int64) : Int64 := if (f_MD_safe p_) = 0 then z_m else (if (f_MD_safe q_) = 0 then z_m else (if p_ = q_ then z_m else (if na < 0 then z_m else (if nb_ < 0 then z_m else (if root_ < (2 : Int32) then z_m else (if ((p_ * q_) - (2 : Int32)) < root_ then z_m else (if (root_ - root_ / p_ * p_) = 0 then z_m else (if (root_ - root_ / q_ * q_) = 0 then z_m else (((p_ / (2 : Int32)).toInt64) * ((q_ / (2 : Int32)).toInt64))))))))))
def f_MD_deal_d (p_ : Int32) (q_ : Int32) (na : Int32) (nb_ : Int32) (root_ : Int32) (z_d : Int64) : Int64 := if (f_MD_safe p_) = 0 then z_d else (if (f_MD_safe q_) = 0 then z_d else (if p_ = q_ then z_d else (if na < 0 then z_d else (if nb_ < 0 then z_d else (if root_ < (2 : Int32) then z_d else (if ((p_ * q_) - (2 : Int32)) < root_ then z_d else (if (root_ - root_ / p_ * p_) = 0 then z_d else (if (root_ - root_ / q_ * q_) = 0 then z_d else (f_MD_inverse (65537 : Int64) (((p_ / (2 : Int32)).toInt64) * ((q_ / (2 : Int32)).toInt64)))))))))))
def f_MD_deal_a (p_ : Int32) (q_ : Int32) (na : Int32) (nb_ : Int32) (root_ : Int32) (z_a : Int64) : Int64 := if (f_MD_safe p_) = 0 then z_a else (if (f_MD_safe q_) = 0 then z_a else (if p_ = q_ then z_a else (if na < 0 then z_a else (if nb_ < 0 then z_a else (if root_ < (2 : Int32) then z_a else (if ((p_ * q_) - (2 : Int32)) < root_ then z_a else (if (root_ - root_ / p_ * p_) = 0 then z_a else (if (root_ - root_ / q_ * q_) = 0 then z_a else (na.toInt64 - na.toInt64 / (((p_ / (2 : Int32)).toInt64) * ((q_ / (2 : Int32)).toInt64)) * (((p_ / (2 : Int32)).toInt64) * ((q_ / (2 : Int32)).toInt64)))))))))))
def f_MD_deal_b (p_ : Int32) (q_ : Int32) (na : Int32) (nb_ : Int32) (root_ : Int32) (z_b : Int64) : Int64 := if (f_MD_safe p_) = 0 then z_b else (if (f_MD_safe q_) = 0 then z_b else (if p_ = q_ then z_b else (if na < 0 then z_b else (if nb_ < 0 then z_b else (if root_ < (2 : Int32) then z_b else (if ((p_ * q_) - (2 : Int32)) < root_ then z_b else (if (root_ - root_ / p_ * p_) = 0 then z_b else (if (root_ - root_ / q_ * q_) = 0 then z_b else (nb_.toInt64 - nb_.toInt64 / (((p_ / (2 : Int32)).toInt64) * ((q_ / (2 : Int32)).toInt64)) * (((p_ / (2 : Int32)).toInt64) * ((q_ / (2 : Int32)).toInt64)))))))))))
def f_MD_deal_v (p_ : Int32) (q_ : Int32) (na : Int32) (nb_ : Int32) (root_ : Int32) (z_v : Int64) : Int64 := if (f_MD_safe p_) = 0 then z_v else (if (f_MD_safe q_) = 0 then z_v else (if p_ = q_ then z_v else (if na < 0 then z_v else (if nb_ < 0 then z_v else (if root_ < (2 : Int32) then z_v else (if ((p_ * q_) - (2 : Int32)) < root_ then z_v else (if (root_ - root_ / p_ * p_) = 0 then z_v else (if (root_ - root_ / q_ * q_) = 0 then z_v else ((root_.toInt64 * root_.toInt64) - (root_.toInt64 * root_.toInt64) / ((p_ * q_).toInt64) * ((p_ * q_).toInt64))))))))))
def f_MD_deal_epoch (p_ : Int32) (q_ : Int32) (na : Int32) (nb_ : Int32) (root_ : Int32) (z_ep : Int32) : Int32 := if (f_MD_safe p_) = 0 then z_ep else (if (f_MD_safe q_) = 0 then z_ep else (if p_ = q_ then z_ep else (if na < 0 then z_ep else (if nb_ < 0 then z_ep else (if root_ < (2 : Int32) then z_ep else (if ((p_ * q_) - (2 : Int32)) < root_ then z_ep else (if (root_ - root_ / p_ * p_) = 0 then z_ep else (if (root_ - root_ / q_ * q_) = 0 then z_ep else (0 : Int32)))))))))
def f_MD_deal_suspended (p_ : Int32) (q_ : Int32) (na : Int32) (nb_ : Int32) (root_ : Int32) (z_su : Int32) : Int32 := if (f_MD_safe p_) = 0 then z_su else (if (f_MD_safe q_) = 0 then z_su else (if p_ = q_ then z_su else (if na < 0 then z_su else (if nb_ < 0 then z_su else (if root_ < (2 : Int32) then z_su else (if ((p_ * q_) - (2 : Int32)) < root_ then z_su else (if (root_ - root_ / p_ * p_) = 0 then z_su else (if (root_ - root_ / q_ * q_) = 0 then z_su else (0 : Int32)))))))))
def f_MD_deal_motions (p_ : Int32) (q_ : Int32) (na : Int32) (nb_ : Int32) (root_ : Int32) (z_mo : Int32) : Int32 := if (f_MD_safe p_) = 0 then z_mo else (if (f_MD_safe q_) = 0 then z_mo else (if p_ = q_ then z_mo else (if na < 0 then z_mo else (if nb_ < 0 then z_mo else (if root_ < (2 : Int32) then z_mo else (if ((p_ * q_) - (2 : Int32)) < root_ then z_mo else (if (root_ - root_ / p_ * p_) = 0 then z_mo else (if (root_ - root_ / q_ * q_) = 0 then z_mo else (0 : Int32)))))))))
def f_MD_deal_booked (p_ : Int32) (q_ : Int32) (na : Int32) (nb_ : Int32) (root_ : Int32) (z_bk : Int32) : Int32 := if (f_MD_safe p_) = 0 then z_bk else (if (f_MD_safe q_) = 0 then z_bk else (if p_ = q_ then z_bk else (if na < 0 then z_bk else (if nb_ < 0 then z_bk else (if root_ < (2 : Int32) then z_bk else (if ((p_ * q_) - (2 : Int32)) < root_ then z_bk else (if (root_ - root_ / p_ * p_) = 0 then z_bk else (if (root_ - root_ / q_ * q_) = 0 then z_bk else (0 : Int32)))))))))
set_option maxHeartbeats 4000000 in
set_option maxRecDepth 100000 in
theorem ct_MD_deal (l : Launch) {G : xg_G} (hg : xg_F G) (H : Heap) (y_ : Nat) (p_ : Int32) (q_ : Int32) (na : Int32) (nb_ : Int32) (root_ : Int32) (z_th : Int32) (z_n : Int64) (z_m : Int64) (z_d : Int64) (z_a : Int64) (z_b : Int64) (z_v : Int64) (z_ep : Int32) (z_su : Int32) (a_buf : Nat) (z_by : Int32) (z_mo : Int32) (a_st : Nat) (a_bl : Nat) (a_fi : Nat) (a_ob : Nat) (a_si : Nat) (a_po : Nat) (a_pr : Nat) (a_an : Nat) (z_bk : Int32) (a_bo : Nat) (z_h : Int64) (hP : va_P G.2.1 cl_all [(y_, .inr (4, [.int z_th, .long z_n, .long z_m, .long z_d, .long z_a, .long z_b, .long z_v, .int z_ep, .int z_su, .ref a_buf, .int z_by, .int z_mo, .ref a_st, .ref a_bl, .ref a_fi, .ref a_ob, .ref a_si, .ref a_po, .ref a_pr, .ref a_an, .int z_bk, .ref a_bo, .long z_h]))] H) (hD0 : va_D (fun _ => True) [(y_, .inr (4, [.int z_th, .long z_n, .long z_m, .long z_d, .long z_a, .long z_b, .long z_v, .int z_ep, .int z_su, .ref a_buf, .int z_by, .int z_mo, .ref a_st, .ref a_bl, .ref a_fi, .ref a_ob, .ref a_si, .ref a_po, .ref a_pr, .ref a_an, .int z_bk, .ref a_bo, .long z_h]))])  : xc_Met l y_MD_deal (.code y_MD_deal b_MD_deal 7 none) ({ frames := 2, cells := 0, slots := 0, locals := 30 } : Room) (xg_Pc G [.ref y_, .int p_, .int q_, .int na, .int nb_, .int root_] H) (xw_post G (va_A [(y_, .inr (4, [.int z_th, .long z_n, .long z_m, .long z_d, .long z_a, .long z_b, .long z_v, .int z_ep, .int z_su, .ref a_buf, .int z_by, .int z_mo, .ref a_st, .ref a_bl, .ref a_fi, .ref a_ob, .ref a_si, .ref a_po, .ref a_pr, .ref a_an, .int z_bk, .ref a_bo, .long z_h]))] H.size) none [(y_, .inr (4, [.int (f_MD_deal_thrownCode p_ q_ na nb_ root_), .long (f_MD_deal_n p_ q_ na nb_ root_ z_n), .long (f_MD_deal_m p_ q_ na nb_ root_ z_m), .long (f_MD_deal_d p_ q_ na nb_ root_ z_d), .long (f_MD_deal_a p_ q_ na nb_ root_ z_a), .long (f_MD_deal_b p_ q_ na nb_ root_ z_b), .long (f_MD_deal_v p_ q_ na nb_ root_ z_v), .int (f_MD_deal_epoch p_ q_ na nb_ root_ z_ep), .int (f_MD_deal_suspended p_ q_ na nb_ root_ z_su), .ref a_buf, .int z_by, .int (f_MD_deal_motions p_ q_ na nb_ root_ z_mo), .ref a_st, .ref a_bl, .ref a_fi, .ref a_ob, .ref a_si, .ref a_po, .ref a_pr, .ref a_an, .int (f_MD_deal_booked p_ q_ na nb_ root_ z_bk), .ref a_bo, .long z_h]))]) (va_A [(y_, .inr (4, [.int z_th, .long z_n, .long z_m, .long z_d, .long z_a, .long z_b, .long z_v, .int z_ep, .int z_su, .ref a_buf, .int z_by, .int z_mo, .ref a_st, .ref a_bl, .ref a_fi, .ref a_ob, .ref a_si, .ref a_po, .ref a_pr, .ref a_an, .int z_bk, .ref a_bo, .long z_h]))] H.size) := by
  refine xc_ofW (by decide) ?_
  intro p e s m args below meth c s₁ B hml hE hv
  obtain ⟨rfl, rfl, hw⟩ := hv
  have hx := B.exec
  have hb := B.bytes
  have ht := B.returns
  have hl0 := B.notSynchronized
  have S : xc_Fix p m c b_MD_deal 7 s "SealTrustModel" := ⟨hx, hb, hml, findClass_of_methodNamed B.named⟩
  have hD := hD0.self (sz := s.heap.size)
  generalize hAe : va_A [(y_, .inr (4, [.int z_th, .long z_n, .long z_m, .long z_d, .long z_a, .long z_b, .long z_v, .int z_ep, .int z_su, .ref a_buf, .int z_by, .int z_mo, .ref a_st, .ref a_bl, .ref a_fi, .ref a_ob, .ref a_si, .ref a_po, .ref a_pr, .ref a_an, .int z_bk, .ref a_bo, .long z_h]))] s.heap.size = A at hD ⊢
  have hA : ∀ q : Nat, s.heap.size ≤ q → A q := fun q h => by rw [← hAe]; exact Or.inr h
  have hS : va_S A s.heap s.heap [] := va_S.rf
  have hl := lv_entry ([.ref y_, .int p_, .int q_, .int na, .int nb_, .int root_]) (n := 7) (Nat.le_of_ble_eq_true rfl)
  rw [lg_entry_eq]
  generalize (lg_sl ([.ref y_, .int p_, .int q_, .int na, .int nb_, .int root_]) ++ List.replicate (7 - (lg_sl ([.ref y_, .int p_, .int q_, .int na, .int nb_, .int root_])).length) Slot.unset).toArray = ls at hl ⊢
  have hl : lv_has ls 7 [(0, .ref y_), (1, .int p_), (2, .int q_), (3, .int na), (4, .int nb_), (5, .int root_)] := hl
  obtain ⟨r0, hr0⟩ : ∃ r, f_MD_deal_thrownCode p_ q_ na nb_ root_ = r := ⟨_, rfl⟩
  rw [hr0]
  unfold f_MD_deal_thrownCode at hr0
  obtain ⟨r1, hr1⟩ : ∃ r, f_MD_deal_n p_ q_ na nb_ root_ z_n = r := ⟨_, rfl⟩
  rw [hr1]
  unfold f_MD_deal_n at hr1
  obtain ⟨r2, hr2⟩ : ∃ r, f_MD_deal_m p_ q_ na nb_ root_ z_m = r := ⟨_, rfl⟩
  rw [hr2]
  unfold f_MD_deal_m at hr2
  obtain ⟨r3, hr3⟩ : ∃ r, f_MD_deal_d p_ q_ na nb_ root_ z_d = r := ⟨_, rfl⟩
  rw [hr3]
  unfold f_MD_deal_d at hr3
  obtain ⟨r4, hr4⟩ : ∃ r, f_MD_deal_a p_ q_ na nb_ root_ z_a = r := ⟨_, rfl⟩
  rw [hr4]
  unfold f_MD_deal_a at hr4
  obtain ⟨r5, hr5⟩ : ∃ r, f_MD_deal_b p_ q_ na nb_ root_ z_b = r := ⟨_, rfl⟩
  rw [hr5]
  unfold f_MD_deal_b at hr5
  obtain ⟨r6, hr6⟩ : ∃ r, f_MD_deal_v p_ q_ na nb_ root_ z_v = r := ⟨_, rfl⟩
  rw [hr6]
  unfold f_MD_deal_v at hr6
  obtain ⟨r7, hr7⟩ : ∃ r, f_MD_deal_epoch p_ q_ na nb_ root_ z_ep = r := ⟨_, rfl⟩
  rw [hr7]
  unfold f_MD_deal_epoch at hr7
  obtain ⟨r8, hr8⟩ : ∃ r, f_MD_deal_suspended p_ q_ na nb_ root_ z_su = r := ⟨_, rfl⟩
  rw [hr8]
  unfold f_MD_deal_suspended at hr8
  obtain ⟨r9, hr9⟩ : ∃ r, f_MD_deal_motions p_ q_ na nb_ root_ z_mo = r := ⟨_, rfl⟩
  rw [hr9]
  unfold f_MD_deal_motions at hr9
  obtain ⟨r10, hr10⟩ : ∃ r, f_MD_deal_booked p_ q_ na nb_ root_ z_bk = r := ⟨_, rfl⟩
  rw [hr10]
  unfold f_MD_deal_booked at hr10
  refine lv_iload_n hx hb d_MD_deal_0 rfl (lv_at hl 1 rfl) ?_
  refine xg_read (xg_runS (rest := []) (kw := 0) si_MD_134 hg hw S (ct_MD_safe l hg s.heap p_ ) ⟨by decide, by decide, by decide, by decide⟩ rfl hl.1 rfl (Nat.le_of_ble_eq_true rfl) d_MD_deal_1) ?_
  refine lv_if_eq hx hb d_MD_deal_4 (tgt := 32) (by decide) (fun h4 => ?_) (fun h4 => ?_)
  · rw [if_pos h4] at hr0
    rw [if_pos h4] at hr1
    rw [if_pos h4] at hr2
    rw [if_pos h4] at hr3
    rw [if_pos h4] at hr4
    rw [if_pos h4] at hr5
    rw [if_pos h4] at hr6
    rw [if_pos h4] at hr7
    rw [if_pos h4] at hr8
    rw [if_pos h4] at hr9
    rw [if_pos h4] at hr10
    refine lv_iconst (v := (0 : Int32)) hx hb d_MD_deal_32 (by decide) ?_
    refine lv_istore hx hb d_MD_deal_33 hl (by decide) rfl (fun ls hl => ?_)
    have hl : lv_has ls 7 [(6, .int (0 : Int32)), (0, .ref y_), (1, .int p_), (2, .int q_), (3, .int na), (4, .int nb_), (5, .int root_)] := hl
    refine lv_iload hx hb d_MD_deal_35 (lv_at hl 0 rfl) ?_
    refine lv_if_eq hx hb d_MD_deal_37 (tgt := 77) (by decide) (fun h37 => ?_) (fun h37 => ?_)
    · refine lv_aload_n hx hb d_MD_deal_77 rfl (lv_at hl 1 rfl) ?_
      refine lv_iload hx hb d_MD_deal_78 (lv_at hl 0 rfl) ?_
      refine lv_if_eq hx hb d_MD_deal_80 (tgt := 87) (by decide) (fun h80 => ?_) (fun h80 => ?_)
      · refine lv_iconst (v := (1 : Int32)) hx hb d_MD_deal_87 (by decide) ?_
        refine pf_MD_7 hg hw S hP hD hS 0 rfl rfl rfl (Nat.le_of_ble_eq_true rfl) d_MD_deal_88 (fun H1 L1 hP hD hS => ?_)
        have hP : va_P G.2.1 cl_all [(y_, .inr (4, [.int (1 : Int32), .long z_n, .long z_m, .long z_d, .long z_a, .long z_b, .long z_v, .int z_ep, .int z_su, .ref a_buf, .int z_by, .int z_mo, .ref a_st, .ref a_bl, .ref a_fi, .ref a_ob, .ref a_si, .ref a_po, .ref a_pr, .ref a_an, .int z_bk, .ref a_bo, .long z_h]))] H1 := hP
        have hD : va_D A [(y_, .inr (4, [.int (1 : Int32), .long z_n, .long z_m, .long z_d, .long z_a, .long z_b, .long z_v, .int z_ep, .int z_su, .ref a_buf, .int z_by, .int z_mo, .ref a_st, .ref a_bl, .ref a_fi, .ref a_ob, .ref a_si, .ref a_po, .ref a_pr, .ref a_an, .int z_bk, .ref a_bo, .long z_h]))] := hD
        refine lv_iload hx hb d_MD_deal_91 (lv_at hl 0 rfl) ?_
        refine lv_if_ne hx hb d_MD_deal_93 (tgt := 97) (by decide) (fun h93 => ?_) (fun h93 => ?_)
        · exact absurd h93 (by decide)
        · subst hr0
          subst hr1
          subst hr2
          subst hr3
          subst hr4
          subst hr5
          subst hr6
          subst hr7
          subst hr8
          subst hr9
          subst hr10
          exact xw_vret hx hb ht hl0 hP hD hS d_MD_deal_96
      · exact absurd h80 (by decide)
    · exact absurd h37 (by decide)
  · rw [if_neg h4] at hr0
    rw [if_neg h4] at hr1
    rw [if_neg h4] at hr2
    rw [if_neg h4] at hr3
    rw [if_neg h4] at hr4
    rw [if_neg h4] at hr5
    rw [if_neg h4] at hr6
    rw [if_neg h4] at hr7
    rw [if_neg h4] at hr8
    rw [if_neg h4] at hr9
    rw [if_neg h4] at hr10
    refine lv_iload_n hx hb d_MD_deal_7 rfl (lv_at hl 2 rfl) ?_
    refine xg_read (xg_runS (rest := []) (kw := 0) si_MD_134 hg hw S (ct_MD_safe l hg s.heap q_ ) ⟨by decide, by decide, by decide, by decide⟩ rfl hl.1 rfl (Nat.le_of_ble_eq_true rfl) d_MD_deal_8) ?_
    refine lv_if_eq hx hb d_MD_deal_11 (tgt := 32) (by decide) (fun h11 => ?_) (fun h11 => ?_)
    · rw [if_pos h11] at hr0
      rw [if_pos h11] at hr1
      rw [if_pos h11] at hr2
      rw [if_pos h11] at hr3
      rw [if_pos h11] at hr4
      rw [if_pos h11] at hr5
      rw [if_pos h11] at hr6
      rw [if_pos h11] at hr7
      rw [if_pos h11] at hr8
      rw [if_pos h11] at hr9
      rw [if_pos h11] at hr10
      refine lv_iconst (v := (0 : Int32)) hx hb d_MD_deal_32 (by decide) ?_
      refine lv_istore hx hb d_MD_deal_33 hl (by decide) rfl (fun ls hl => ?_)
      have hl : lv_has ls 7 [(6, .int (0 : Int32)), (0, .ref y_), (1, .int p_), (2, .int q_), (3, .int na), (4, .int nb_), (5, .int root_)] := hl
      refine lv_iload hx hb d_MD_deal_35 (lv_at hl 0 rfl) ?_
      refine lv_if_eq hx hb d_MD_deal_37 (tgt := 77) (by decide) (fun h37 => ?_) (fun h37 => ?_)
      · refine lv_aload_n hx hb d_MD_deal_77 rfl (lv_at hl 1 rfl) ?_
        refine lv_iload hx hb d_MD_deal_78 (lv_at hl 0 rfl) ?_
        refine lv_if_eq hx hb d_MD_deal_80 (tgt := 87) (by decide) (fun h80 => ?_) (fun h80 => ?_)
        · refine lv_iconst (v := (1 : Int32)) hx hb d_MD_deal_87 (by decide) ?_
          refine pf_MD_7 hg hw S hP hD hS 0 rfl rfl rfl (Nat.le_of_ble_eq_true rfl) d_MD_deal_88 (fun H2 L2 hP hD hS => ?_)
          have hP : va_P G.2.1 cl_all [(y_, .inr (4, [.int (1 : Int32), .long z_n, .long z_m, .long z_d, .long z_a, .long z_b, .long z_v, .int z_ep, .int z_su, .ref a_buf, .int z_by, .int z_mo, .ref a_st, .ref a_bl, .ref a_fi, .ref a_ob, .ref a_si, .ref a_po, .ref a_pr, .ref a_an, .int z_bk, .ref a_bo, .long z_h]))] H2 := hP
          have hD : va_D A [(y_, .inr (4, [.int (1 : Int32), .long z_n, .long z_m, .long z_d, .long z_a, .long z_b, .long z_v, .int z_ep, .int z_su, .ref a_buf, .int z_by, .int z_mo, .ref a_st, .ref a_bl, .ref a_fi, .ref a_ob, .ref a_si, .ref a_po, .ref a_pr, .ref a_an, .int z_bk, .ref a_bo, .long z_h]))] := hD
          refine lv_iload hx hb d_MD_deal_91 (lv_at hl 0 rfl) ?_
          refine lv_if_ne hx hb d_MD_deal_93 (tgt := 97) (by decide) (fun h93 => ?_) (fun h93 => ?_)
          · exact absurd h93 (by decide)
          · subst hr0
            subst hr1
            subst hr2
            subst hr3
            subst hr4
            subst hr5
            subst hr6
            subst hr7
            subst hr8
            subst hr9
            subst hr10
            exact xw_vret hx hb ht hl0 hP hD hS d_MD_deal_96
        · exact absurd h80 (by decide)
      · exact absurd h37 (by decide)
    · rw [if_neg h11] at hr0
      rw [if_neg h11] at hr1
      rw [if_neg h11] at hr2
      rw [if_neg h11] at hr3
      rw [if_neg h11] at hr4
      rw [if_neg h11] at hr5
      rw [if_neg h11] at hr6
      rw [if_neg h11] at hr7
      rw [if_neg h11] at hr8
      rw [if_neg h11] at hr9
      rw [if_neg h11] at hr10
      refine lv_iload_n hx hb d_MD_deal_14 rfl (lv_at hl 1 rfl) ?_
      refine lv_iload_n hx hb d_MD_deal_15 rfl (lv_at hl 2 rfl) ?_
      refine lv_icmp_eq hx hb d_MD_deal_16 (tgt := 32) (by decide) (fun h16 => ?_) (fun h16 => ?_)
      · rw [if_pos h16] at hr0
        rw [if_pos h16] at hr1
        rw [if_pos h16] at hr2
        rw [if_pos h16] at hr3
        rw [if_pos h16] at hr4
        rw [if_pos h16] at hr5
        rw [if_pos h16] at hr6
        rw [if_pos h16] at hr7
        rw [if_pos h16] at hr8
        rw [if_pos h16] at hr9
        rw [if_pos h16] at hr10
        refine lv_iconst (v := (0 : Int32)) hx hb d_MD_deal_32 (by decide) ?_
        refine lv_istore hx hb d_MD_deal_33 hl (by decide) rfl (fun ls hl => ?_)
        have hl : lv_has ls 7 [(6, .int (0 : Int32)), (0, .ref y_), (1, .int p_), (2, .int q_), (3, .int na), (4, .int nb_), (5, .int root_)] := hl
        refine lv_iload hx hb d_MD_deal_35 (lv_at hl 0 rfl) ?_
        refine lv_if_eq hx hb d_MD_deal_37 (tgt := 77) (by decide) (fun h37 => ?_) (fun h37 => ?_)
        · refine lv_aload_n hx hb d_MD_deal_77 rfl (lv_at hl 1 rfl) ?_
          refine lv_iload hx hb d_MD_deal_78 (lv_at hl 0 rfl) ?_
          refine lv_if_eq hx hb d_MD_deal_80 (tgt := 87) (by decide) (fun h80 => ?_) (fun h80 => ?_)
          · refine lv_iconst (v := (1 : Int32)) hx hb d_MD_deal_87 (by decide) ?_
            refine pf_MD_7 hg hw S hP hD hS 0 rfl rfl rfl (Nat.le_of_ble_eq_true rfl) d_MD_deal_88 (fun H3 L3 hP hD hS => ?_)
            have hP : va_P G.2.1 cl_all [(y_, .inr (4, [.int (1 : Int32), .long z_n, .long z_m, .long z_d, .long z_a, .long z_b, .long z_v, .int z_ep, .int z_su, .ref a_buf, .int z_by, .int z_mo, .ref a_st, .ref a_bl, .ref a_fi, .ref a_ob, .ref a_si, .ref a_po, .ref a_pr, .ref a_an, .int z_bk, .ref a_bo, .long z_h]))] H3 := hP
            have hD : va_D A [(y_, .inr (4, [.int (1 : Int32), .long z_n, .long z_m, .long z_d, .long z_a, .long z_b, .long z_v, .int z_ep, .int z_su, .ref a_buf, .int z_by, .int z_mo, .ref a_st, .ref a_bl, .ref a_fi, .ref a_ob, .ref a_si, .ref a_po, .ref a_pr, .ref a_an, .int z_bk, .ref a_bo, .long z_h]))] := hD
            refine lv_iload hx hb d_MD_deal_91 (lv_at hl 0 rfl) ?_
            refine lv_if_ne hx hb d_MD_deal_93 (tgt := 97) (by decide) (fun h93 => ?_) (fun h93 => ?_)
            · exact absurd h93 (by decide)
            · subst hr0
              subst hr1
              subst hr2
              subst hr3
              subst hr4
              subst hr5
              subst hr6
              subst hr7
              subst hr8
              subst hr9
              subst hr10
              exact xw_vret hx hb ht hl0 hP hD hS d_MD_deal_96
          · exact absurd h80 (by decide)
        · exact absurd h37 (by decide)
      · rw [if_neg h16] at hr0
        rw [if_neg h16] at hr1
        rw [if_neg h16] at hr2
        rw [if_neg h16] at hr3
        rw [if_neg h16] at hr4
        rw [if_neg h16] at hr5
        rw [if_neg h16] at hr6
        rw [if_neg h16] at hr7
        rw [if_neg h16] at hr8
        rw [if_neg h16] at hr9
        rw [if_neg h16] at hr10
        refine lv_iload_n hx hb d_MD_deal_19 rfl (lv_at hl 3 rfl) ?_
        refine lv_if_lt hx hb d_MD_deal_20 (tgt := 32) (by decide) (fun h20 => ?_) (fun h20 => ?_)
        · rw [if_pos h20] at hr0
          rw [if_pos h20] at hr1
          rw [if_pos h20] at hr2
          rw [if_pos h20] at hr3
          rw [if_pos h20] at hr4
          rw [if_pos h20] at hr5
          rw [if_pos h20] at hr6
          rw [if_pos h20] at hr7
          rw [if_pos h20] at hr8
          rw [if_pos h20] at hr9
          rw [if_pos h20] at hr10
          refine lv_iconst (v := (0 : Int32)) hx hb d_MD_deal_32 (by decide) ?_
          refine lv_istore hx hb d_MD_deal_33 hl (by decide) rfl (fun ls hl => ?_)
          have hl : lv_has ls 7 [(6, .int (0 : Int32)), (0, .ref y_), (1, .int p_), (2, .int q_), (3, .int na), (4, .int nb_), (5, .int root_)] := hl
          refine lv_iload hx hb d_MD_deal_35 (lv_at hl 0 rfl) ?_
          refine lv_if_eq hx hb d_MD_deal_37 (tgt := 77) (by decide) (fun h37 => ?_) (fun h37 => ?_)
          · refine lv_aload_n hx hb d_MD_deal_77 rfl (lv_at hl 1 rfl) ?_
            refine lv_iload hx hb d_MD_deal_78 (lv_at hl 0 rfl) ?_
            refine lv_if_eq hx hb d_MD_deal_80 (tgt := 87) (by decide) (fun h80 => ?_) (fun h80 => ?_)
            · refine lv_iconst (v := (1 : Int32)) hx hb d_MD_deal_87 (by decide) ?_
              refine pf_MD_7 hg hw S hP hD hS 0 rfl rfl rfl (Nat.le_of_ble_eq_true rfl) d_MD_deal_88 (fun H4 L4 hP hD hS => ?_)
              have hP : va_P G.2.1 cl_all [(y_, .inr (4, [.int (1 : Int32), .long z_n, .long z_m, .long z_d, .long z_a, .long z_b, .long z_v, .int z_ep, .int z_su, .ref a_buf, .int z_by, .int z_mo, .ref a_st, .ref a_bl, .ref a_fi, .ref a_ob, .ref a_si, .ref a_po, .ref a_pr, .ref a_an, .int z_bk, .ref a_bo, .long z_h]))] H4 := hP
              have hD : va_D A [(y_, .inr (4, [.int (1 : Int32), .long z_n, .long z_m, .long z_d, .long z_a, .long z_b, .long z_v, .int z_ep, .int z_su, .ref a_buf, .int z_by, .int z_mo, .ref a_st, .ref a_bl, .ref a_fi, .ref a_ob, .ref a_si, .ref a_po, .ref a_pr, .ref a_an, .int z_bk, .ref a_bo, .long z_h]))] := hD
              refine lv_iload hx hb d_MD_deal_91 (lv_at hl 0 rfl) ?_
              refine lv_if_ne hx hb d_MD_deal_93 (tgt := 97) (by decide) (fun h93 => ?_) (fun h93 => ?_)
              · exact absurd h93 (by decide)
              · subst hr0
                subst hr1
                subst hr2
                subst hr3
                subst hr4
                subst hr5
                subst hr6
                subst hr7
                subst hr8
                subst hr9
                subst hr10
                exact xw_vret hx hb ht hl0 hP hD hS d_MD_deal_96
            · exact absurd h80 (by decide)
          · exact absurd h37 (by decide)
        · rw [if_neg h20] at hr0
          rw [if_neg h20] at hr1
          rw [if_neg h20] at hr2
          rw [if_neg h20] at hr3
          rw [if_neg h20] at hr4
          rw [if_neg h20] at hr5
          rw [if_neg h20] at hr6
          rw [if_neg h20] at hr7
          rw [if_neg h20] at hr8
          rw [if_neg h20] at hr9
          rw [if_neg h20] at hr10
          refine lv_iload hx hb d_MD_deal_23 (lv_at hl 4 rfl) ?_
          refine lv_if_lt hx hb d_MD_deal_25 (tgt := 32) (by decide) (fun h25 => ?_) (fun h25 => ?_)
          · rw [if_pos h25] at hr0
            rw [if_pos h25] at hr1
            rw [if_pos h25] at hr2
            rw [if_pos h25] at hr3
            rw [if_pos h25] at hr4
            rw [if_pos h25] at hr5
            rw [if_pos h25] at hr6
            rw [if_pos h25] at hr7
            rw [if_pos h25] at hr8
            rw [if_pos h25] at hr9
            rw [if_pos h25] at hr10
            refine lv_iconst (v := (0 : Int32)) hx hb d_MD_deal_32 (by decide) ?_
            refine lv_istore hx hb d_MD_deal_33 hl (by decide) rfl (fun ls hl => ?_)
            have hl : lv_has ls 7 [(6, .int (0 : Int32)), (0, .ref y_), (1, .int p_), (2, .int q_), (3, .int na), (4, .int nb_), (5, .int root_)] := hl
            refine lv_iload hx hb d_MD_deal_35 (lv_at hl 0 rfl) ?_
            refine lv_if_eq hx hb d_MD_deal_37 (tgt := 77) (by decide) (fun h37 => ?_) (fun h37 => ?_)
            · refine lv_aload_n hx hb d_MD_deal_77 rfl (lv_at hl 1 rfl) ?_
              refine lv_iload hx hb d_MD_deal_78 (lv_at hl 0 rfl) ?_
              refine lv_if_eq hx hb d_MD_deal_80 (tgt := 87) (by decide) (fun h80 => ?_) (fun h80 => ?_)
              · refine lv_iconst (v := (1 : Int32)) hx hb d_MD_deal_87 (by decide) ?_
                refine pf_MD_7 hg hw S hP hD hS 0 rfl rfl rfl (Nat.le_of_ble_eq_true rfl) d_MD_deal_88 (fun H5 L5 hP hD hS => ?_)
                have hP : va_P G.2.1 cl_all [(y_, .inr (4, [.int (1 : Int32), .long z_n, .long z_m, .long z_d, .long z_a, .long z_b, .long z_v, .int z_ep, .int z_su, .ref a_buf, .int z_by, .int z_mo, .ref a_st, .ref a_bl, .ref a_fi, .ref a_ob, .ref a_si, .ref a_po, .ref a_pr, .ref a_an, .int z_bk, .ref a_bo, .long z_h]))] H5 := hP
                have hD : va_D A [(y_, .inr (4, [.int (1 : Int32), .long z_n, .long z_m, .long z_d, .long z_a, .long z_b, .long z_v, .int z_ep, .int z_su, .ref a_buf, .int z_by, .int z_mo, .ref a_st, .ref a_bl, .ref a_fi, .ref a_ob, .ref a_si, .ref a_po, .ref a_pr, .ref a_an, .int z_bk, .ref a_bo, .long z_h]))] := hD
                refine lv_iload hx hb d_MD_deal_91 (lv_at hl 0 rfl) ?_
                refine lv_if_ne hx hb d_MD_deal_93 (tgt := 97) (by decide) (fun h93 => ?_) (fun h93 => ?_)
                · exact absurd h93 (by decide)
                · subst hr0
                  subst hr1
                  subst hr2
                  subst hr3
                  subst hr4
                  subst hr5
                  subst hr6
                  subst hr7
                  subst hr8
                  subst hr9
                  subst hr10
                  exact xw_vret hx hb ht hl0 hP hD hS d_MD_deal_96
              · exact absurd h80 (by decide)
            · exact absurd h37 (by decide)
          · rw [if_neg h25] at hr0
            rw [if_neg h25] at hr1
            rw [if_neg h25] at hr2
            rw [if_neg h25] at hr3
            rw [if_neg h25] at hr4
            rw [if_neg h25] at hr5
            rw [if_neg h25] at hr6
            rw [if_neg h25] at hr7
            rw [if_neg h25] at hr8
            rw [if_neg h25] at hr9
            rw [if_neg h25] at hr10
            refine lv_iconst (v := (1 : Int32)) hx hb d_MD_deal_28 (by decide) ?_
            refine lv_goto hx hb d_MD_deal_29 (tgt := 33) (by decide) ?_
            refine lv_istore hx hb d_MD_deal_33 hl (by decide) rfl (fun ls hl => ?_)
            have hl : lv_has ls 7 [(6, .int (1 : Int32)), (0, .ref y_), (1, .int p_), (2, .int q_), (3, .int na), (4, .int nb_), (5, .int root_)] := hl
            refine lv_iload hx hb d_MD_deal_35 (lv_at hl 0 rfl) ?_
            refine lv_if_eq hx hb d_MD_deal_37 (tgt := 77) (by decide) (fun h37 => ?_) (fun h37 => ?_)
            · exact absurd h37 (by decide)
            · refine lv_iload hx hb d_MD_deal_40 (lv_at hl 6 rfl) ?_
              refine lv_iconst (v := (2 : Int32)) hx hb d_MD_deal_42 (by decide) ?_
              refine lv_icmp_lt hx hb d_MD_deal_43 (tgt := 74) (by decide) (fun h43 => ?_) (fun h43 => ?_)
              · rw [if_pos h43] at hr0
                rw [if_pos h43] at hr1
                rw [if_pos h43] at hr2
                rw [if_pos h43] at hr3
                rw [if_pos h43] at hr4
                rw [if_pos h43] at hr5
                rw [if_pos h43] at hr6
                rw [if_pos h43] at hr7
                rw [if_pos h43] at hr8
                rw [if_pos h43] at hr9
                rw [if_pos h43] at hr10
                refine lv_iconst (v := (0 : Int32)) hx hb d_MD_deal_74 (by decide) ?_
                refine lv_istore hx hb d_MD_deal_75 hl (by decide) rfl (fun ls hl => ?_)
                have hl : lv_has ls 7 [(6, .int (0 : Int32)), (0, .ref y_), (1, .int p_), (2, .int q_), (3, .int na), (4, .int nb_), (5, .int root_)] := hl
                refine lv_aload_n hx hb d_MD_deal_77 rfl (lv_at hl 1 rfl) ?_
                refine lv_iload hx hb d_MD_deal_78 (lv_at hl 0 rfl) ?_
                refine lv_if_eq hx hb d_MD_deal_80 (tgt := 87) (by decide) (fun h80 => ?_) (fun h80 => ?_)
                · refine lv_iconst (v := (1 : Int32)) hx hb d_MD_deal_87 (by decide) ?_
                  refine pf_MD_7 hg hw S hP hD hS 0 rfl rfl rfl (Nat.le_of_ble_eq_true rfl) d_MD_deal_88 (fun H6 L6 hP hD hS => ?_)
                  have hP : va_P G.2.1 cl_all [(y_, .inr (4, [.int (1 : Int32), .long z_n, .long z_m, .long z_d, .long z_a, .long z_b, .long z_v, .int z_ep, .int z_su, .ref a_buf, .int z_by, .int z_mo, .ref a_st, .ref a_bl, .ref a_fi, .ref a_ob, .ref a_si, .ref a_po, .ref a_pr, .ref a_an, .int z_bk, .ref a_bo, .long z_h]))] H6 := hP
                  have hD : va_D A [(y_, .inr (4, [.int (1 : Int32), .long z_n, .long z_m, .long z_d, .long z_a, .long z_b, .long z_v, .int z_ep, .int z_su, .ref a_buf, .int z_by, .int z_mo, .ref a_st, .ref a_bl, .ref a_fi, .ref a_ob, .ref a_si, .ref a_po, .ref a_pr, .ref a_an, .int z_bk, .ref a_bo, .long z_h]))] := hD
                  refine lv_iload hx hb d_MD_deal_91 (lv_at hl 0 rfl) ?_
                  refine lv_if_ne hx hb d_MD_deal_93 (tgt := 97) (by decide) (fun h93 => ?_) (fun h93 => ?_)
                  · exact absurd h93 (by decide)
                  · subst hr0
                    subst hr1
                    subst hr2
                    subst hr3
                    subst hr4
                    subst hr5
                    subst hr6
                    subst hr7
                    subst hr8
                    subst hr9
                    subst hr10
                    exact xw_vret hx hb ht hl0 hP hD hS d_MD_deal_96
                · exact absurd h80 (by decide)
              · rw [if_neg h43] at hr0
                rw [if_neg h43] at hr1
                rw [if_neg h43] at hr2
                rw [if_neg h43] at hr3
                rw [if_neg h43] at hr4
                rw [if_neg h43] at hr5
                rw [if_neg h43] at hr6
                rw [if_neg h43] at hr7
                rw [if_neg h43] at hr8
                rw [if_neg h43] at hr9
                rw [if_neg h43] at hr10
                refine lv_iload hx hb d_MD_deal_46 (lv_at hl 6 rfl) ?_
                refine lv_iload_n hx hb d_MD_deal_48 rfl (lv_at hl 2 rfl) ?_
                refine lv_iload_n hx hb d_MD_deal_49 rfl (lv_at hl 3 rfl) ?_
                refine lv_imul hx hb d_MD_deal_50 ?_
                refine lv_iconst (v := (2 : Int32)) hx hb d_MD_deal_51 (by decide) ?_
                refine lv_isub hx hb d_MD_deal_52 ?_
                refine lv_icmp_gt hx hb d_MD_deal_53 (tgt := 74) (by decide) (fun h53 => ?_) (fun h53 => ?_)
                · rw [if_pos h53] at hr0
                  rw [if_pos h53] at hr1
                  rw [if_pos h53] at hr2
                  rw [if_pos h53] at hr3
                  rw [if_pos h53] at hr4
                  rw [if_pos h53] at hr5
                  rw [if_pos h53] at hr6
                  rw [if_pos h53] at hr7
                  rw [if_pos h53] at hr8
                  rw [if_pos h53] at hr9
                  rw [if_pos h53] at hr10
                  refine lv_iconst (v := (0 : Int32)) hx hb d_MD_deal_74 (by decide) ?_
                  refine lv_istore hx hb d_MD_deal_75 hl (by decide) rfl (fun ls hl => ?_)
                  have hl : lv_has ls 7 [(6, .int (0 : Int32)), (0, .ref y_), (1, .int p_), (2, .int q_), (3, .int na), (4, .int nb_), (5, .int root_)] := hl
                  refine lv_aload_n hx hb d_MD_deal_77 rfl (lv_at hl 1 rfl) ?_
                  refine lv_iload hx hb d_MD_deal_78 (lv_at hl 0 rfl) ?_
                  refine lv_if_eq hx hb d_MD_deal_80 (tgt := 87) (by decide) (fun h80 => ?_) (fun h80 => ?_)
                  · refine lv_iconst (v := (1 : Int32)) hx hb d_MD_deal_87 (by decide) ?_
                    refine pf_MD_7 hg hw S hP hD hS 0 rfl rfl rfl (Nat.le_of_ble_eq_true rfl) d_MD_deal_88 (fun H7 L7 hP hD hS => ?_)
                    have hP : va_P G.2.1 cl_all [(y_, .inr (4, [.int (1 : Int32), .long z_n, .long z_m, .long z_d, .long z_a, .long z_b, .long z_v, .int z_ep, .int z_su, .ref a_buf, .int z_by, .int z_mo, .ref a_st, .ref a_bl, .ref a_fi, .ref a_ob, .ref a_si, .ref a_po, .ref a_pr, .ref a_an, .int z_bk, .ref a_bo, .long z_h]))] H7 := hP
                    have hD : va_D A [(y_, .inr (4, [.int (1 : Int32), .long z_n, .long z_m, .long z_d, .long z_a, .long z_b, .long z_v, .int z_ep, .int z_su, .ref a_buf, .int z_by, .int z_mo, .ref a_st, .ref a_bl, .ref a_fi, .ref a_ob, .ref a_si, .ref a_po, .ref a_pr, .ref a_an, .int z_bk, .ref a_bo, .long z_h]))] := hD
                    refine lv_iload hx hb d_MD_deal_91 (lv_at hl 0 rfl) ?_
                    refine lv_if_ne hx hb d_MD_deal_93 (tgt := 97) (by decide) (fun h93 => ?_) (fun h93 => ?_)
                    · exact absurd h93 (by decide)
                    · subst hr0
                      subst hr1
                      subst hr2
                      subst hr3
                      subst hr4
                      subst hr5
                      subst hr6
                      subst hr7
                      subst hr8
                      subst hr9
                      subst hr10
                      exact xw_vret hx hb ht hl0 hP hD hS d_MD_deal_96
                  · exact absurd h80 (by decide)
                · rw [if_neg h53] at hr0
                  rw [if_neg h53] at hr1
                  rw [if_neg h53] at hr2
                  rw [if_neg h53] at hr3
                  rw [if_neg h53] at hr4
                  rw [if_neg h53] at hr5
                  rw [if_neg h53] at hr6
                  rw [if_neg h53] at hr7
                  rw [if_neg h53] at hr8
                  rw [if_neg h53] at hr9
                  rw [if_neg h53] at hr10
                  refine lv_iload hx hb d_MD_deal_56 (lv_at hl 6 rfl) ?_
                  refine lv_iload_n hx hb d_MD_deal_58 rfl (lv_at hl 2 rfl) ?_
                  refine lv_irem hx hb d_MD_deal_59 (xs_safeM h4) ?_
                  refine lv_if_eq hx hb d_MD_deal_60 (tgt := 74) (by decide) (fun h60 => ?_) (fun h60 => ?_)
                  · rw [if_pos h60] at hr0
                    rw [if_pos h60] at hr1
                    rw [if_pos h60] at hr2
                    rw [if_pos h60] at hr3
                    rw [if_pos h60] at hr4
                    rw [if_pos h60] at hr5
                    rw [if_pos h60] at hr6
                    rw [if_pos h60] at hr7
                    rw [if_pos h60] at hr8
                    rw [if_pos h60] at hr9
                    rw [if_pos h60] at hr10
                    refine lv_iconst (v := (0 : Int32)) hx hb d_MD_deal_74 (by decide) ?_
                    refine lv_istore hx hb d_MD_deal_75 hl (by decide) rfl (fun ls hl => ?_)
                    have hl : lv_has ls 7 [(6, .int (0 : Int32)), (0, .ref y_), (1, .int p_), (2, .int q_), (3, .int na), (4, .int nb_), (5, .int root_)] := hl
                    refine lv_aload_n hx hb d_MD_deal_77 rfl (lv_at hl 1 rfl) ?_
                    refine lv_iload hx hb d_MD_deal_78 (lv_at hl 0 rfl) ?_
                    refine lv_if_eq hx hb d_MD_deal_80 (tgt := 87) (by decide) (fun h80 => ?_) (fun h80 => ?_)
                    · refine lv_iconst (v := (1 : Int32)) hx hb d_MD_deal_87 (by decide) ?_
                      refine pf_MD_7 hg hw S hP hD hS 0 rfl rfl rfl (Nat.le_of_ble_eq_true rfl) d_MD_deal_88 (fun H8 L8 hP hD hS => ?_)
                      have hP : va_P G.2.1 cl_all [(y_, .inr (4, [.int (1 : Int32), .long z_n, .long z_m, .long z_d, .long z_a, .long z_b, .long z_v, .int z_ep, .int z_su, .ref a_buf, .int z_by, .int z_mo, .ref a_st, .ref a_bl, .ref a_fi, .ref a_ob, .ref a_si, .ref a_po, .ref a_pr, .ref a_an, .int z_bk, .ref a_bo, .long z_h]))] H8 := hP
                      have hD : va_D A [(y_, .inr (4, [.int (1 : Int32), .long z_n, .long z_m, .long z_d, .long z_a, .long z_b, .long z_v, .int z_ep, .int z_su, .ref a_buf, .int z_by, .int z_mo, .ref a_st, .ref a_bl, .ref a_fi, .ref a_ob, .ref a_si, .ref a_po, .ref a_pr, .ref a_an, .int z_bk, .ref a_bo, .long z_h]))] := hD
                      refine lv_iload hx hb d_MD_deal_91 (lv_at hl 0 rfl) ?_
                      refine lv_if_ne hx hb d_MD_deal_93 (tgt := 97) (by decide) (fun h93 => ?_) (fun h93 => ?_)
                      · exact absurd h93 (by decide)
                      · subst hr0
                        subst hr1
                        subst hr2
                        subst hr3
                        subst hr4
                        subst hr5
                        subst hr6
                        subst hr7
                        subst hr8
                        subst hr9
                        subst hr10
                        exact xw_vret hx hb ht hl0 hP hD hS d_MD_deal_96
                    · exact absurd h80 (by decide)
                  · rw [if_neg h60] at hr0
                    rw [if_neg h60] at hr1
                    rw [if_neg h60] at hr2
                    rw [if_neg h60] at hr3
                    rw [if_neg h60] at hr4
                    rw [if_neg h60] at hr5
                    rw [if_neg h60] at hr6
                    rw [if_neg h60] at hr7
                    rw [if_neg h60] at hr8
                    rw [if_neg h60] at hr9
                    rw [if_neg h60] at hr10
                    refine lv_iload hx hb d_MD_deal_63 (lv_at hl 6 rfl) ?_
                    refine lv_iload_n hx hb d_MD_deal_65 rfl (lv_at hl 3 rfl) ?_
                    refine lv_irem hx hb d_MD_deal_66 (xs_safeM h11) ?_
                    refine lv_if_eq hx hb d_MD_deal_67 (tgt := 74) (by decide) (fun h67 => ?_) (fun h67 => ?_)
                    · rw [if_pos h67] at hr0
                      rw [if_pos h67] at hr1
                      rw [if_pos h67] at hr2
                      rw [if_pos h67] at hr3
                      rw [if_pos h67] at hr4
                      rw [if_pos h67] at hr5
                      rw [if_pos h67] at hr6
                      rw [if_pos h67] at hr7
                      rw [if_pos h67] at hr8
                      rw [if_pos h67] at hr9
                      rw [if_pos h67] at hr10
                      refine lv_iconst (v := (0 : Int32)) hx hb d_MD_deal_74 (by decide) ?_
                      refine lv_istore hx hb d_MD_deal_75 hl (by decide) rfl (fun ls hl => ?_)
                      have hl : lv_has ls 7 [(6, .int (0 : Int32)), (0, .ref y_), (1, .int p_), (2, .int q_), (3, .int na), (4, .int nb_), (5, .int root_)] := hl
                      refine lv_aload_n hx hb d_MD_deal_77 rfl (lv_at hl 1 rfl) ?_
                      refine lv_iload hx hb d_MD_deal_78 (lv_at hl 0 rfl) ?_
                      refine lv_if_eq hx hb d_MD_deal_80 (tgt := 87) (by decide) (fun h80 => ?_) (fun h80 => ?_)
                      · refine lv_iconst (v := (1 : Int32)) hx hb d_MD_deal_87 (by decide) ?_
                        refine pf_MD_7 hg hw S hP hD hS 0 rfl rfl rfl (Nat.le_of_ble_eq_true rfl) d_MD_deal_88 (fun H9 L9 hP hD hS => ?_)
                        have hP : va_P G.2.1 cl_all [(y_, .inr (4, [.int (1 : Int32), .long z_n, .long z_m, .long z_d, .long z_a, .long z_b, .long z_v, .int z_ep, .int z_su, .ref a_buf, .int z_by, .int z_mo, .ref a_st, .ref a_bl, .ref a_fi, .ref a_ob, .ref a_si, .ref a_po, .ref a_pr, .ref a_an, .int z_bk, .ref a_bo, .long z_h]))] H9 := hP
                        have hD : va_D A [(y_, .inr (4, [.int (1 : Int32), .long z_n, .long z_m, .long z_d, .long z_a, .long z_b, .long z_v, .int z_ep, .int z_su, .ref a_buf, .int z_by, .int z_mo, .ref a_st, .ref a_bl, .ref a_fi, .ref a_ob, .ref a_si, .ref a_po, .ref a_pr, .ref a_an, .int z_bk, .ref a_bo, .long z_h]))] := hD
                        refine lv_iload hx hb d_MD_deal_91 (lv_at hl 0 rfl) ?_
                        refine lv_if_ne hx hb d_MD_deal_93 (tgt := 97) (by decide) (fun h93 => ?_) (fun h93 => ?_)
                        · exact absurd h93 (by decide)
                        · subst hr0
                          subst hr1
                          subst hr2
                          subst hr3
                          subst hr4
                          subst hr5
                          subst hr6
                          subst hr7
                          subst hr8
                          subst hr9
                          subst hr10
                          exact xw_vret hx hb ht hl0 hP hD hS d_MD_deal_96
                      · exact absurd h80 (by decide)
                    · rw [if_neg h67] at hr0
                      rw [if_neg h67] at hr1
                      rw [if_neg h67] at hr2
                      rw [if_neg h67] at hr3
                      rw [if_neg h67] at hr4
                      rw [if_neg h67] at hr5
                      rw [if_neg h67] at hr6
                      rw [if_neg h67] at hr7
                      rw [if_neg h67] at hr8
                      rw [if_neg h67] at hr9
                      rw [if_neg h67] at hr10
                      refine lv_iconst (v := (1 : Int32)) hx hb d_MD_deal_70 (by decide) ?_
                      refine lv_goto hx hb d_MD_deal_71 (tgt := 75) (by decide) ?_
                      refine lv_istore hx hb d_MD_deal_75 hl (by decide) rfl (fun ls hl => ?_)
                      have hl : lv_has ls 7 [(6, .int (1 : Int32)), (0, .ref y_), (1, .int p_), (2, .int q_), (3, .int na), (4, .int nb_), (5, .int root_)] := hl
                      refine lv_aload_n hx hb d_MD_deal_77 rfl (lv_at hl 1 rfl) ?_
                      refine lv_iload hx hb d_MD_deal_78 (lv_at hl 0 rfl) ?_
                      refine lv_if_eq hx hb d_MD_deal_80 (tgt := 87) (by decide) (fun h80 => ?_) (fun h80 => ?_)
                      · exact absurd h80 (by decide)
                      · refine lv_iconst (v := (0 : Int32)) hx hb d_MD_deal_83 (by decide) ?_
                        refine lv_goto hx hb d_MD_deal_84 (tgt := 88) (by decide) ?_
                        refine pf_MD_7 hg hw S hP hD hS 0 rfl rfl rfl (Nat.le_of_ble_eq_true rfl) d_MD_deal_88 (fun H10 L10 hP hD hS => ?_)
                        have hP : va_P G.2.1 cl_all [(y_, .inr (4, [.int (0 : Int32), .long z_n, .long z_m, .long z_d, .long z_a, .long z_b, .long z_v, .int z_ep, .int z_su, .ref a_buf, .int z_by, .int z_mo, .ref a_st, .ref a_bl, .ref a_fi, .ref a_ob, .ref a_si, .ref a_po, .ref a_pr, .ref a_an, .int z_bk, .ref a_bo, .long z_h]))] H10 := hP
                        have hD : va_D A [(y_, .inr (4, [.int (0 : Int32), .long z_n, .long z_m, .long z_d, .long z_a, .long z_b, .long z_v, .int z_ep, .int z_su, .ref a_buf, .int z_by, .int z_mo, .ref a_st, .ref a_bl, .ref a_fi, .ref a_ob, .ref a_si, .ref a_po, .ref a_pr, .ref a_an, .int z_bk, .ref a_bo, .long z_h]))] := hD
                        refine lv_iload hx hb d_MD_deal_91 (lv_at hl 0 rfl) ?_
                        refine lv_if_ne hx hb d_MD_deal_93 (tgt := 97) (by decide) (fun h93 => ?_) (fun h93 => ?_)
                        · refine lv_aload_n hx hb d_MD_deal_97 rfl (lv_at hl 1 rfl) ?_
                          refine lv_iload_n hx hb d_MD_deal_98 rfl (lv_at hl 2 rfl) ?_
                          refine lv_iload_n hx hb d_MD_deal_99 rfl (lv_at hl 3 rfl) ?_
                          refine lv_imul hx hb d_MD_deal_100 ?_
                          refine lv_i2l hx hb d_MD_deal_101 rfl ?_
                          refine pf_MD_13 hg hw S hP hD hS 0 rfl rfl rfl (Nat.le_of_ble_eq_true rfl) d_MD_deal_102 (fun H11 L11 hP hD hS => ?_)
                          have hP : va_P G.2.1 cl_all [(y_, .inr (4, [.int (0 : Int32), .long ((p_ * q_).toInt64), .long z_m, .long z_d, .long z_a, .long z_b, .long z_v, .int z_ep, .int z_su, .ref a_buf, .int z_by, .int z_mo, .ref a_st, .ref a_bl, .ref a_fi, .ref a_ob, .ref a_si, .ref a_po, .ref a_pr, .ref a_an, .int z_bk, .ref a_bo, .long z_h]))] H11 := hP
                          have hD : va_D A [(y_, .inr (4, [.int (0 : Int32), .long ((p_ * q_).toInt64), .long z_m, .long z_d, .long z_a, .long z_b, .long z_v, .int z_ep, .int z_su, .ref a_buf, .int z_by, .int z_mo, .ref a_st, .ref a_bl, .ref a_fi, .ref a_ob, .ref a_si, .ref a_po, .ref a_pr, .ref a_an, .int z_bk, .ref a_bo, .long z_h]))] := hD
                          refine lv_aload_n hx hb d_MD_deal_105 rfl (lv_at hl 1 rfl) ?_
                          refine lv_iload_n hx hb d_MD_deal_106 rfl (lv_at hl 2 rfl) ?_
                          refine lv_iconst (v := (2 : Int32)) hx hb d_MD_deal_107 (by decide) ?_
                          refine lv_idiv hx hb d_MD_deal_108 (by decide) ?_
                          refine lv_i2l hx hb d_MD_deal_109 rfl ?_
                          refine lv_iload_n hx hb d_MD_deal_110 rfl (lv_at hl 3 rfl) ?_
                          refine lv_iconst (v := (2 : Int32)) hx hb d_MD_deal_111 (by decide) ?_
                          refine lv_idiv hx hb d_MD_deal_112 (by decide) ?_
                          refine lv_i2l hx hb d_MD_deal_113 rfl ?_
                          refine lv_lmul hx hb d_MD_deal_114 ?_
                          refine pf_MD_17 hg hw S hP hD hS 0 rfl rfl rfl (Nat.le_of_ble_eq_true rfl) d_MD_deal_115 (fun H12 L12 hP hD hS => ?_)
                          have hP : va_P G.2.1 cl_all [(y_, .inr (4, [.int (0 : Int32), .long ((p_ * q_).toInt64), .long (((p_ / (2 : Int32)).toInt64) * ((q_ / (2 : Int32)).toInt64)), .long z_d, .long z_a, .long z_b, .long z_v, .int z_ep, .int z_su, .ref a_buf, .int z_by, .int z_mo, .ref a_st, .ref a_bl, .ref a_fi, .ref a_ob, .ref a_si, .ref a_po, .ref a_pr, .ref a_an, .int z_bk, .ref a_bo, .long z_h]))] H12 := hP
                          have hD : va_D A [(y_, .inr (4, [.int (0 : Int32), .long ((p_ * q_).toInt64), .long (((p_ / (2 : Int32)).toInt64) * ((q_ / (2 : Int32)).toInt64)), .long z_d, .long z_a, .long z_b, .long z_v, .int z_ep, .int z_su, .ref a_buf, .int z_by, .int z_mo, .ref a_st, .ref a_bl, .ref a_fi, .ref a_ob, .ref a_si, .ref a_po, .ref a_pr, .ref a_an, .int z_bk, .ref a_bo, .long z_h]))] := hD
                          refine lv_aload_n hx hb d_MD_deal_118 rfl (lv_at hl 1 rfl) ?_
                          refine kc_MD_137 hg hw S d_MD_deal_119 ?_
                          refine lv_aload_n hx hb d_MD_deal_122 rfl (lv_at hl 1 rfl) ?_
                          refine gf_MD_17 hg hw S hP 0 rfl rfl d_MD_deal_123 ?_
                          refine xg_read (xg_runS (rest := [.ref y_]) (kw := 1) si_MD_131 hg hw S (ct_MD_inverse l hg H12 (65537 : Int64) (((p_ / (2 : Int32)).toInt64) * ((q_ / (2 : Int32)).toInt64)) (xs_mM h4 h11)) ⟨by decide, by decide, by decide, by decide⟩ rfl hl.1 rfl (Nat.le_of_ble_eq_true rfl) d_MD_deal_126) ?_
                          refine pf_MD_20 hg hw S hP hD hS 0 rfl rfl rfl (Nat.le_of_ble_eq_true rfl) d_MD_deal_129 (fun H13 L13 hP hD hS => ?_)
                          have hP : va_P G.2.1 cl_all [(y_, .inr (4, [.int (0 : Int32), .long ((p_ * q_).toInt64), .long (((p_ / (2 : Int32)).toInt64) * ((q_ / (2 : Int32)).toInt64)), .long (f_MD_inverse (65537 : Int64) (((p_ / (2 : Int32)).toInt64) * ((q_ / (2 : Int32)).toInt64))), .long z_a, .long z_b, .long z_v, .int z_ep, .int z_su, .ref a_buf, .int z_by, .int z_mo, .ref a_st, .ref a_bl, .ref a_fi, .ref a_ob, .ref a_si, .ref a_po, .ref a_pr, .ref a_an, .int z_bk, .ref a_bo, .long z_h]))] H13 := hP
                          have hD : va_D A [(y_, .inr (4, [.int (0 : Int32), .long ((p_ * q_).toInt64), .long (((p_ / (2 : Int32)).toInt64) * ((q_ / (2 : Int32)).toInt64)), .long (f_MD_inverse (65537 : Int64) (((p_ / (2 : Int32)).toInt64) * ((q_ / (2 : Int32)).toInt64))), .long z_a, .long z_b, .long z_v, .int z_ep, .int z_su, .ref a_buf, .int z_by, .int z_mo, .ref a_st, .ref a_bl, .ref a_fi, .ref a_ob, .ref a_si, .ref a_po, .ref a_pr, .ref a_an, .int z_bk, .ref a_bo, .long z_h]))] := hD
                          refine lv_aload_n hx hb d_MD_deal_132 rfl (lv_at hl 1 rfl) ?_
                          refine lv_iload_n hx hb d_MD_deal_133 rfl (lv_at hl 4 rfl) ?_
                          refine lv_i2l hx hb d_MD_deal_134 rfl ?_
                          refine lv_aload_n hx hb d_MD_deal_135 rfl (lv_at hl 1 rfl) ?_
                          refine gf_MD_17 hg hw S hP 0 rfl rfl d_MD_deal_136 ?_
                          refine lv_lrem hx hb d_MD_deal_139 (xs_mM h4 h11) ?_
                          refine pf_MD_23 hg hw S hP hD hS 0 rfl rfl rfl (Nat.le_of_ble_eq_true rfl) d_MD_deal_140 (fun H14 L14 hP hD hS => ?_)
                          have hP : va_P G.2.1 cl_all [(y_, .inr (4, [.int (0 : Int32), .long ((p_ * q_).toInt64), .long (((p_ / (2 : Int32)).toInt64) * ((q_ / (2 : Int32)).toInt64)), .long (f_MD_inverse (65537 : Int64) (((p_ / (2 : Int32)).toInt64) * ((q_ / (2 : Int32)).toInt64))), .long (na.toInt64 - na.toInt64 / (((p_ / (2 : Int32)).toInt64) * ((q_ / (2 : Int32)).toInt64)) * (((p_ / (2 : Int32)).toInt64) * ((q_ / (2 : Int32)).toInt64))), .long z_b, .long z_v, .int z_ep, .int z_su, .ref a_buf, .int z_by, .int z_mo, .ref a_st, .ref a_bl, .ref a_fi, .ref a_ob, .ref a_si, .ref a_po, .ref a_pr, .ref a_an, .int z_bk, .ref a_bo, .long z_h]))] H14 := hP
                          have hD : va_D A [(y_, .inr (4, [.int (0 : Int32), .long ((p_ * q_).toInt64), .long (((p_ / (2 : Int32)).toInt64) * ((q_ / (2 : Int32)).toInt64)), .long (f_MD_inverse (65537 : Int64) (((p_ / (2 : Int32)).toInt64) * ((q_ / (2 : Int32)).toInt64))), .long (na.toInt64 - na.toInt64 / (((p_ / (2 : Int32)).toInt64) * ((q_ / (2 : Int32)).toInt64)) * (((p_ / (2 : Int32)).toInt64) * ((q_ / (2 : Int32)).toInt64))), .long z_b, .long z_v, .int z_ep, .int z_su, .ref a_buf, .int z_by, .int z_mo, .ref a_st, .ref a_bl, .ref a_fi, .ref a_ob, .ref a_si, .ref a_po, .ref a_pr, .ref a_an, .int z_bk, .ref a_bo, .long z_h]))] := hD
                          refine lv_aload_n hx hb d_MD_deal_143 rfl (lv_at hl 1 rfl) ?_
                          refine lv_iload hx hb d_MD_deal_144 (lv_at hl 5 rfl) ?_
                          refine lv_i2l hx hb d_MD_deal_146 rfl ?_
                          refine lv_aload_n hx hb d_MD_deal_147 rfl (lv_at hl 1 rfl) ?_
                          refine gf_MD_17 hg hw S hP 0 rfl rfl d_MD_deal_148 ?_
                          refine lv_lrem hx hb d_MD_deal_151 (xs_mM h4 h11) ?_
                          refine pf_MD_26 hg hw S hP hD hS 0 rfl rfl rfl (Nat.le_of_ble_eq_true rfl) d_MD_deal_152 (fun H15 L15 hP hD hS => ?_)
                          have hP : va_P G.2.1 cl_all [(y_, .inr (4, [.int (0 : Int32), .long ((p_ * q_).toInt64), .long (((p_ / (2 : Int32)).toInt64) * ((q_ / (2 : Int32)).toInt64)), .long (f_MD_inverse (65537 : Int64) (((p_ / (2 : Int32)).toInt64) * ((q_ / (2 : Int32)).toInt64))), .long (na.toInt64 - na.toInt64 / (((p_ / (2 : Int32)).toInt64) * ((q_ / (2 : Int32)).toInt64)) * (((p_ / (2 : Int32)).toInt64) * ((q_ / (2 : Int32)).toInt64))), .long (nb_.toInt64 - nb_.toInt64 / (((p_ / (2 : Int32)).toInt64) * ((q_ / (2 : Int32)).toInt64)) * (((p_ / (2 : Int32)).toInt64) * ((q_ / (2 : Int32)).toInt64))), .long z_v, .int z_ep, .int z_su, .ref a_buf, .int z_by, .int z_mo, .ref a_st, .ref a_bl, .ref a_fi, .ref a_ob, .ref a_si, .ref a_po, .ref a_pr, .ref a_an, .int z_bk, .ref a_bo, .long z_h]))] H15 := hP
                          have hD : va_D A [(y_, .inr (4, [.int (0 : Int32), .long ((p_ * q_).toInt64), .long (((p_ / (2 : Int32)).toInt64) * ((q_ / (2 : Int32)).toInt64)), .long (f_MD_inverse (65537 : Int64) (((p_ / (2 : Int32)).toInt64) * ((q_ / (2 : Int32)).toInt64))), .long (na.toInt64 - na.toInt64 / (((p_ / (2 : Int32)).toInt64) * ((q_ / (2 : Int32)).toInt64)) * (((p_ / (2 : Int32)).toInt64) * ((q_ / (2 : Int32)).toInt64))), .long (nb_.toInt64 - nb_.toInt64 / (((p_ / (2 : Int32)).toInt64) * ((q_ / (2 : Int32)).toInt64)) * (((p_ / (2 : Int32)).toInt64) * ((q_ / (2 : Int32)).toInt64))), .long z_v, .int z_ep, .int z_su, .ref a_buf, .int z_by, .int z_mo, .ref a_st, .ref a_bl, .ref a_fi, .ref a_ob, .ref a_si, .ref a_po, .ref a_pr, .ref a_an, .int z_bk, .ref a_bo, .long z_h]))] := hD
                          refine lv_aload_n hx hb d_MD_deal_155 rfl (lv_at hl 1 rfl) ?_
                          refine lv_iload hx hb d_MD_deal_156 (lv_at hl 6 rfl) ?_
                          refine lv_i2l hx hb d_MD_deal_158 rfl ?_
                          refine lv_iload hx hb d_MD_deal_159 (lv_at hl 6 rfl) ?_
                          refine lv_i2l hx hb d_MD_deal_161 rfl ?_
                          refine lv_lmul hx hb d_MD_deal_162 ?_
                          refine lv_aload_n hx hb d_MD_deal_163 rfl (lv_at hl 1 rfl) ?_
                          refine gf_MD_13 hg hw S hP 0 rfl rfl d_MD_deal_164 ?_
                          refine lv_lrem hx hb d_MD_deal_167 (xs_nM h4 h11) ?_
                          refine pf_MD_29 hg hw S hP hD hS 0 rfl rfl rfl (Nat.le_of_ble_eq_true rfl) d_MD_deal_168 (fun H16 L16 hP hD hS => ?_)
                          have hP : va_P G.2.1 cl_all [(y_, .inr (4, [.int (0 : Int32), .long ((p_ * q_).toInt64), .long (((p_ / (2 : Int32)).toInt64) * ((q_ / (2 : Int32)).toInt64)), .long (f_MD_inverse (65537 : Int64) (((p_ / (2 : Int32)).toInt64) * ((q_ / (2 : Int32)).toInt64))), .long (na.toInt64 - na.toInt64 / (((p_ / (2 : Int32)).toInt64) * ((q_ / (2 : Int32)).toInt64)) * (((p_ / (2 : Int32)).toInt64) * ((q_ / (2 : Int32)).toInt64))), .long (nb_.toInt64 - nb_.toInt64 / (((p_ / (2 : Int32)).toInt64) * ((q_ / (2 : Int32)).toInt64)) * (((p_ / (2 : Int32)).toInt64) * ((q_ / (2 : Int32)).toInt64))), .long ((root_.toInt64 * root_.toInt64) - (root_.toInt64 * root_.toInt64) / ((p_ * q_).toInt64) * ((p_ * q_).toInt64)), .int z_ep, .int z_su, .ref a_buf, .int z_by, .int z_mo, .ref a_st, .ref a_bl, .ref a_fi, .ref a_ob, .ref a_si, .ref a_po, .ref a_pr, .ref a_an, .int z_bk, .ref a_bo, .long z_h]))] H16 := hP
                          have hD : va_D A [(y_, .inr (4, [.int (0 : Int32), .long ((p_ * q_).toInt64), .long (((p_ / (2 : Int32)).toInt64) * ((q_ / (2 : Int32)).toInt64)), .long (f_MD_inverse (65537 : Int64) (((p_ / (2 : Int32)).toInt64) * ((q_ / (2 : Int32)).toInt64))), .long (na.toInt64 - na.toInt64 / (((p_ / (2 : Int32)).toInt64) * ((q_ / (2 : Int32)).toInt64)) * (((p_ / (2 : Int32)).toInt64) * ((q_ / (2 : Int32)).toInt64))), .long (nb_.toInt64 - nb_.toInt64 / (((p_ / (2 : Int32)).toInt64) * ((q_ / (2 : Int32)).toInt64)) * (((p_ / (2 : Int32)).toInt64) * ((q_ / (2 : Int32)).toInt64))), .long ((root_.toInt64 * root_.toInt64) - (root_.toInt64 * root_.toInt64) / ((p_ * q_).toInt64) * ((p_ * q_).toInt64)), .int z_ep, .int z_su, .ref a_buf, .int z_by, .int z_mo, .ref a_st, .ref a_bl, .ref a_fi, .ref a_ob, .ref a_si, .ref a_po, .ref a_pr, .ref a_an, .int z_bk, .ref a_bo, .long z_h]))] := hD
                          refine lv_aload_n hx hb d_MD_deal_171 rfl (lv_at hl 1 rfl) ?_
                          refine lv_iconst (v := (0 : Int32)) hx hb d_MD_deal_172 (by decide) ?_
                          refine pf_MD_32 hg hw S hP hD hS 0 rfl rfl rfl (Nat.le_of_ble_eq_true rfl) d_MD_deal_173 (fun H17 L17 hP hD hS => ?_)
                          have hP : va_P G.2.1 cl_all [(y_, .inr (4, [.int (0 : Int32), .long ((p_ * q_).toInt64), .long (((p_ / (2 : Int32)).toInt64) * ((q_ / (2 : Int32)).toInt64)), .long (f_MD_inverse (65537 : Int64) (((p_ / (2 : Int32)).toInt64) * ((q_ / (2 : Int32)).toInt64))), .long (na.toInt64 - na.toInt64 / (((p_ / (2 : Int32)).toInt64) * ((q_ / (2 : Int32)).toInt64)) * (((p_ / (2 : Int32)).toInt64) * ((q_ / (2 : Int32)).toInt64))), .long (nb_.toInt64 - nb_.toInt64 / (((p_ / (2 : Int32)).toInt64) * ((q_ / (2 : Int32)).toInt64)) * (((p_ / (2 : Int32)).toInt64) * ((q_ / (2 : Int32)).toInt64))), .long ((root_.toInt64 * root_.toInt64) - (root_.toInt64 * root_.toInt64) / ((p_ * q_).toInt64) * ((p_ * q_).toInt64)), .int (0 : Int32), .int z_su, .ref a_buf, .int z_by, .int z_mo, .ref a_st, .ref a_bl, .ref a_fi, .ref a_ob, .ref a_si, .ref a_po, .ref a_pr, .ref a_an, .int z_bk, .ref a_bo, .long z_h]))] H17 := hP
                          have hD : va_D A [(y_, .inr (4, [.int (0 : Int32), .long ((p_ * q_).toInt64), .long (((p_ / (2 : Int32)).toInt64) * ((q_ / (2 : Int32)).toInt64)), .long (f_MD_inverse (65537 : Int64) (((p_ / (2 : Int32)).toInt64) * ((q_ / (2 : Int32)).toInt64))), .long (na.toInt64 - na.toInt64 / (((p_ / (2 : Int32)).toInt64) * ((q_ / (2 : Int32)).toInt64)) * (((p_ / (2 : Int32)).toInt64) * ((q_ / (2 : Int32)).toInt64))), .long (nb_.toInt64 - nb_.toInt64 / (((p_ / (2 : Int32)).toInt64) * ((q_ / (2 : Int32)).toInt64)) * (((p_ / (2 : Int32)).toInt64) * ((q_ / (2 : Int32)).toInt64))), .long ((root_.toInt64 * root_.toInt64) - (root_.toInt64 * root_.toInt64) / ((p_ * q_).toInt64) * ((p_ * q_).toInt64)), .int (0 : Int32), .int z_su, .ref a_buf, .int z_by, .int z_mo, .ref a_st, .ref a_bl, .ref a_fi, .ref a_ob, .ref a_si, .ref a_po, .ref a_pr, .ref a_an, .int z_bk, .ref a_bo, .long z_h]))] := hD
                          refine lv_aload_n hx hb d_MD_deal_176 rfl (lv_at hl 1 rfl) ?_
                          refine lv_iconst (v := (0 : Int32)) hx hb d_MD_deal_177 (by decide) ?_
                          refine pf_MD_35 hg hw S hP hD hS 0 rfl rfl rfl (Nat.le_of_ble_eq_true rfl) d_MD_deal_178 (fun H18 L18 hP hD hS => ?_)
                          have hP : va_P G.2.1 cl_all [(y_, .inr (4, [.int (0 : Int32), .long ((p_ * q_).toInt64), .long (((p_ / (2 : Int32)).toInt64) * ((q_ / (2 : Int32)).toInt64)), .long (f_MD_inverse (65537 : Int64) (((p_ / (2 : Int32)).toInt64) * ((q_ / (2 : Int32)).toInt64))), .long (na.toInt64 - na.toInt64 / (((p_ / (2 : Int32)).toInt64) * ((q_ / (2 : Int32)).toInt64)) * (((p_ / (2 : Int32)).toInt64) * ((q_ / (2 : Int32)).toInt64))), .long (nb_.toInt64 - nb_.toInt64 / (((p_ / (2 : Int32)).toInt64) * ((q_ / (2 : Int32)).toInt64)) * (((p_ / (2 : Int32)).toInt64) * ((q_ / (2 : Int32)).toInt64))), .long ((root_.toInt64 * root_.toInt64) - (root_.toInt64 * root_.toInt64) / ((p_ * q_).toInt64) * ((p_ * q_).toInt64)), .int (0 : Int32), .int (0 : Int32), .ref a_buf, .int z_by, .int z_mo, .ref a_st, .ref a_bl, .ref a_fi, .ref a_ob, .ref a_si, .ref a_po, .ref a_pr, .ref a_an, .int z_bk, .ref a_bo, .long z_h]))] H18 := hP
                          have hD : va_D A [(y_, .inr (4, [.int (0 : Int32), .long ((p_ * q_).toInt64), .long (((p_ / (2 : Int32)).toInt64) * ((q_ / (2 : Int32)).toInt64)), .long (f_MD_inverse (65537 : Int64) (((p_ / (2 : Int32)).toInt64) * ((q_ / (2 : Int32)).toInt64))), .long (na.toInt64 - na.toInt64 / (((p_ / (2 : Int32)).toInt64) * ((q_ / (2 : Int32)).toInt64)) * (((p_ / (2 : Int32)).toInt64) * ((q_ / (2 : Int32)).toInt64))), .long (nb_.toInt64 - nb_.toInt64 / (((p_ / (2 : Int32)).toInt64) * ((q_ / (2 : Int32)).toInt64)) * (((p_ / (2 : Int32)).toInt64) * ((q_ / (2 : Int32)).toInt64))), .long ((root_.toInt64 * root_.toInt64) - (root_.toInt64 * root_.toInt64) / ((p_ * q_).toInt64) * ((p_ * q_).toInt64)), .int (0 : Int32), .int (0 : Int32), .ref a_buf, .int z_by, .int z_mo, .ref a_st, .ref a_bl, .ref a_fi, .ref a_ob, .ref a_si, .ref a_po, .ref a_pr, .ref a_an, .int z_bk, .ref a_bo, .long z_h]))] := hD
                          refine lv_aload_n hx hb d_MD_deal_181 rfl (lv_at hl 1 rfl) ?_
                          refine lv_iconst (v := (0 : Int32)) hx hb d_MD_deal_182 (by decide) ?_
                          refine pf_MD_45 hg hw S hP hD hS 0 rfl rfl rfl (Nat.le_of_ble_eq_true rfl) d_MD_deal_183 (fun H19 L19 hP hD hS => ?_)
                          have hP : va_P G.2.1 cl_all [(y_, .inr (4, [.int (0 : Int32), .long ((p_ * q_).toInt64), .long (((p_ / (2 : Int32)).toInt64) * ((q_ / (2 : Int32)).toInt64)), .long (f_MD_inverse (65537 : Int64) (((p_ / (2 : Int32)).toInt64) * ((q_ / (2 : Int32)).toInt64))), .long (na.toInt64 - na.toInt64 / (((p_ / (2 : Int32)).toInt64) * ((q_ / (2 : Int32)).toInt64)) * (((p_ / (2 : Int32)).toInt64) * ((q_ / (2 : Int32)).toInt64))), .long (nb_.toInt64 - nb_.toInt64 / (((p_ / (2 : Int32)).toInt64) * ((q_ / (2 : Int32)).toInt64)) * (((p_ / (2 : Int32)).toInt64) * ((q_ / (2 : Int32)).toInt64))), .long ((root_.toInt64 * root_.toInt64) - (root_.toInt64 * root_.toInt64) / ((p_ * q_).toInt64) * ((p_ * q_).toInt64)), .int (0 : Int32), .int (0 : Int32), .ref a_buf, .int z_by, .int (0 : Int32), .ref a_st, .ref a_bl, .ref a_fi, .ref a_ob, .ref a_si, .ref a_po, .ref a_pr, .ref a_an, .int z_bk, .ref a_bo, .long z_h]))] H19 := hP
                          have hD : va_D A [(y_, .inr (4, [.int (0 : Int32), .long ((p_ * q_).toInt64), .long (((p_ / (2 : Int32)).toInt64) * ((q_ / (2 : Int32)).toInt64)), .long (f_MD_inverse (65537 : Int64) (((p_ / (2 : Int32)).toInt64) * ((q_ / (2 : Int32)).toInt64))), .long (na.toInt64 - na.toInt64 / (((p_ / (2 : Int32)).toInt64) * ((q_ / (2 : Int32)).toInt64)) * (((p_ / (2 : Int32)).toInt64) * ((q_ / (2 : Int32)).toInt64))), .long (nb_.toInt64 - nb_.toInt64 / (((p_ / (2 : Int32)).toInt64) * ((q_ / (2 : Int32)).toInt64)) * (((p_ / (2 : Int32)).toInt64) * ((q_ / (2 : Int32)).toInt64))), .long ((root_.toInt64 * root_.toInt64) - (root_.toInt64 * root_.toInt64) / ((p_ * q_).toInt64) * ((p_ * q_).toInt64)), .int (0 : Int32), .int (0 : Int32), .ref a_buf, .int z_by, .int (0 : Int32), .ref a_st, .ref a_bl, .ref a_fi, .ref a_ob, .ref a_si, .ref a_po, .ref a_pr, .ref a_an, .int z_bk, .ref a_bo, .long z_h]))] := hD
                          refine lv_aload_n hx hb d_MD_deal_186 rfl (lv_at hl 1 rfl) ?_
                          refine lv_iconst (v := (0 : Int32)) hx hb d_MD_deal_187 (by decide) ?_
                          refine pf_MD_73 hg hw S hP hD hS 0 rfl rfl rfl (Nat.le_of_ble_eq_true rfl) d_MD_deal_188 (fun H20 L20 hP hD hS => ?_)
                          have hP : va_P G.2.1 cl_all [(y_, .inr (4, [.int (0 : Int32), .long ((p_ * q_).toInt64), .long (((p_ / (2 : Int32)).toInt64) * ((q_ / (2 : Int32)).toInt64)), .long (f_MD_inverse (65537 : Int64) (((p_ / (2 : Int32)).toInt64) * ((q_ / (2 : Int32)).toInt64))), .long (na.toInt64 - na.toInt64 / (((p_ / (2 : Int32)).toInt64) * ((q_ / (2 : Int32)).toInt64)) * (((p_ / (2 : Int32)).toInt64) * ((q_ / (2 : Int32)).toInt64))), .long (nb_.toInt64 - nb_.toInt64 / (((p_ / (2 : Int32)).toInt64) * ((q_ / (2 : Int32)).toInt64)) * (((p_ / (2 : Int32)).toInt64) * ((q_ / (2 : Int32)).toInt64))), .long ((root_.toInt64 * root_.toInt64) - (root_.toInt64 * root_.toInt64) / ((p_ * q_).toInt64) * ((p_ * q_).toInt64)), .int (0 : Int32), .int (0 : Int32), .ref a_buf, .int z_by, .int (0 : Int32), .ref a_st, .ref a_bl, .ref a_fi, .ref a_ob, .ref a_si, .ref a_po, .ref a_pr, .ref a_an, .int (0 : Int32), .ref a_bo, .long z_h]))] H20 := hP
                          have hD : va_D A [(y_, .inr (4, [.int (0 : Int32), .long ((p_ * q_).toInt64), .long (((p_ / (2 : Int32)).toInt64) * ((q_ / (2 : Int32)).toInt64)), .long (f_MD_inverse (65537 : Int64) (((p_ / (2 : Int32)).toInt64) * ((q_ / (2 : Int32)).toInt64))), .long (na.toInt64 - na.toInt64 / (((p_ / (2 : Int32)).toInt64) * ((q_ / (2 : Int32)).toInt64)) * (((p_ / (2 : Int32)).toInt64) * ((q_ / (2 : Int32)).toInt64))), .long (nb_.toInt64 - nb_.toInt64 / (((p_ / (2 : Int32)).toInt64) * ((q_ / (2 : Int32)).toInt64)) * (((p_ / (2 : Int32)).toInt64) * ((q_ / (2 : Int32)).toInt64))), .long ((root_.toInt64 * root_.toInt64) - (root_.toInt64 * root_.toInt64) / ((p_ * q_).toInt64) * ((p_ * q_).toInt64)), .int (0 : Int32), .int (0 : Int32), .ref a_buf, .int z_by, .int (0 : Int32), .ref a_st, .ref a_bl, .ref a_fi, .ref a_ob, .ref a_si, .ref a_po, .ref a_pr, .ref a_an, .int (0 : Int32), .ref a_bo, .long z_h]))] := hD
                          subst hr0
                          subst hr1
                          subst hr2
                          subst hr3
                          subst hr4
                          subst hr5
                          subst hr6
                          subst hr7
                          subst hr8
                          subst hr9
                          subst hr10
                          exact xw_vret hx hb ht hl0 hP hD hS d_MD_deal_191
                        · exact absurd h93 (by decide)
def lf_MD_put_43_0 (word : Int32) (n_ : Int32) (z_by : Int32) (z_buf : Nat → Int32) : Nat → Int32 → Int32 → (Nat → Int32) → Int32
  | 0, _, _, _ => 0
  | n + 1, i, bv, bf => if i < 0 then bv else (lf_MD_put_43_0 word n_ z_by z_buf n (i + (-1 : Int32)) (bv + (1 : Int32)) (upd bf bv.toNatClampNeg ((word >>> (((8 : Int32) * i) &&& 31)) &&& (255 : Int32))))
def lf_MD_put_43_2 (word : Int32) (n_ : Int32) (z_by : Int32) (z_buf : Nat → Int32) : Nat → Int32 → Int32 → (Nat → Int32) → Int32
  | 0, _, _, _ => 0
  | n + 1, i, bv, bf => if i < 0 then bv else (lf_MD_put_43_2 word n_ z_by z_buf n (i + (-1 : Int32)) (bv + (1 : Int32)) (upd bf bv.toNatClampNeg ((word >>> (((8 : Int32) * i) &&& 31)) &&& (255 : Int32))))
def lf_MD_put_43_3 (word : Int32) (n_ : Int32) (z_by : Int32) (z_buf : Nat → Int32) : Nat → Int32 → Int32 → (Nat → Int32) → (Nat → Int32)
  | 0, _, _, _ => fun _ => 0
  | n + 1, i, bv, bf => if i < 0 then bf else (lf_MD_put_43_3 word n_ z_by z_buf n (i + (-1 : Int32)) (bv + (1 : Int32)) (upd bf bv.toNatClampNeg ((word >>> (((8 : Int32) * i) &&& 31)) &&& (255 : Int32))))
def f_MD_put (word : Int32) (n_ : Int32) (z_by : Int32) (z_buf : Nat → Int32) : Int32 := if n_ < (1 : Int32) then (0 : Int32) else (if (4 : Int32) < n_ then (0 : Int32) else (if (z_by + n_) ≤ (24 : Int32) then (lf_MD_put_43_0 word n_ z_by z_buf 6 (n_ - (1 : Int32)) z_by z_buf) else (0 : Int32)))
def f_MD_put_thrownCode (word : Int32) (n_ : Int32) (z_by : Int32) (z_buf : Nat → Int32) : Int32 := if n_ < (1 : Int32) then (1 : Int32) else (if (4 : Int32) < n_ then (1 : Int32) else (if (z_by + n_) ≤ (24 : Int32) then (0 : Int32) else (1 : Int32)))
def f_MD_put_bytes (word : Int32) (n_ : Int32) (z_by : Int32) (z_buf : Nat → Int32) : Int32 := if n_ < (1 : Int32) then z_by else (if (4 : Int32) < n_ then z_by else (if (z_by + n_) ≤ (24 : Int32) then (lf_MD_put_43_2 word n_ z_by z_buf 6 (n_ - (1 : Int32)) z_by z_buf) else z_by))
def f_MD_put_a_buf (word : Int32) (n_ : Int32) (z_by : Int32) (z_buf : Nat → Int32) : Nat → Int32 := if n_ < (1 : Int32) then z_buf else (if (4 : Int32) < n_ then z_buf else (if (z_by + n_) ≤ (24 : Int32) then (lf_MD_put_43_3 word n_ z_by z_buf 6 (n_ - (1 : Int32)) z_by z_buf) else z_buf))
set_option maxHeartbeats 4000000 in
set_option maxRecDepth 100000 in
theorem wl_MD_put_43 {p : Program} {l : Launch} {e : Env} {s : State} {m : MethodId} {args : Array Value} {below : List Frame} {meth : Method} {c : Code} {G : xg_G} {A : Nat → Prop} {y_ : Nat} {word : Int32} {n_ : Int32} {z_th : Int32} {z_n : Int64} {z_m : Int64} {z_d : Int64} {z_a : Int64} {z_b : Int64} {z_v : Int64} {z_ep : Int32} {z_su : Int32} {a_buf : Nat} {z_by : Int32} {z_mo : Int32} {a_st : Nat} {a_bl : Nat} {a_fi : Nat} {a_ob : Nat} {a_si : Nat} {a_po : Nat} {a_pr : Nat} {a_an : Nat} {z_bk : Int32} {a_bo : Nat} {z_h : Int64} {z_buf : Nat → Int32} (hg : xg_F G) (hw : G.1.WarmedH s.vm) (S : xc_Fix p m c b_MD_put 4 s "SealTrustModel") (hl0 : meth.locks = false) (ht : meth.sig.returnType = (some .int)) (hA : ∀ q, s.heap.size ≤ q → A q)  : ∀ (n : Nat) (i : Int32) (bv : Int32) (bf : Nat → Int32) (r0 : Int32) (r2 : Int32) (r3 : Nat → Int32) (ls : Array Slot) (H9 : Heap) (L9 : List Loc), lf_MD_put_43_0 word n_ z_by z_buf n i bv bf = r0 → lf_MD_put_43_2 word n_ z_by z_buf n i bv bf = r2 → lf_MD_put_43_3 word n_ z_by z_buf n i bv bf = r3 → (-1 ≤ i.toInt ∧ i.toInt < (n : Int) - 1 ∧ 0 ≤ bv.toInt ∧ bv.toInt + i.toInt + 1 ≤ 24) → lv_has ls 4 [(3, .int i), (0, .ref y_), (1, .int word), (2, .int n_)] → va_P G.2.1 cl_all [(y_, .inr (4, [.int (0 : Int32), .long z_n, .long z_m, .long z_d, .long z_a, .long z_b, .long z_v, .int z_ep, .int z_su, .ref a_buf, .int bv, .int z_mo, .ref a_st, .ref a_bl, .ref a_fi, .ref a_ob, .ref a_si, .ref a_po, .ref a_pr, .ref a_an, .int z_bk, .ref a_bo, .long z_h])), (a_buf, .inl (G.2.2.1, 24, .inl bf))] H9 → va_D A [(y_, .inr (4, [.int (0 : Int32), .long z_n, .long z_m, .long z_d, .long z_a, .long z_b, .long z_v, .int z_ep, .int z_su, .ref a_buf, .int bv, .int z_mo, .ref a_st, .ref a_bl, .ref a_fi, .ref a_ob, .ref a_si, .ref a_po, .ref a_pr, .ref a_an, .int z_bk, .ref a_bo, .long z_h])), (a_buf, .inl (G.2.2.1, 24, .inl bf))] → va_S A s.heap H9 L9 → W p l e ({ frames := 0, cells := 0, slots := 0, locals := 0 } : Room) s m args below meth c H9 L9 0 0 (xw_Z G below A (some (.int r0)) [(y_, .inr (4, [.int (0 : Int32), .long z_n, .long z_m, .long z_d, .long z_a, .long z_b, .long z_v, .int z_ep, .int z_su, .ref a_buf, .int r2, .int z_mo, .ref a_st, .ref a_bl, .ref a_fi, .ref a_ob, .ref a_si, .ref a_po, .ref a_pr, .ref a_an, .int z_bk, .ref a_bo, .long z_h])), (a_buf, .inl (G.2.2.1, 24, .inl r3))] args s 0 0) (F0 m 43 ls []) := by
  have hx := S.1
  have hb := S.2.1
  intro n
  induction n with
  | zero =>
    intro i bv bf r0 r2 r3 ls H9 L9 hr0 hr2 hr3 hmu
    omega
  | succ n ih =>
    intro i bv bf r0 r2 r3 ls H9 L9 hr0 hr2 hr3 hmu hl hP hD hS
    rw [lf_MD_put_43_0] at hr0
    rw [lf_MD_put_43_2] at hr2
    rw [lf_MD_put_43_3] at hr3
    refine lv_iload_n hx hb d_MD_put_43 rfl (lv_at hl 0 rfl) ?_
    refine lv_if_lt hx hb d_MD_put_44 (tgt := 82) (by decide) (fun h44 => ?_) (fun h44 => ?_)
    · rw [if_pos h44] at hr0
      rw [if_pos h44] at hr2
      rw [if_pos h44] at hr3
      refine lv_aload_n hx hb d_MD_put_82 rfl (lv_at hl 1 rfl) ?_
      refine gf_MD_42 hg hw S hP 0 rfl rfl d_MD_put_83 ?_
      subst hr0
      subst hr2
      subst hr3
      exact xw_iret hx hb ht hl0 hP hD hS d_MD_put_86
    · rw [if_neg h44] at hr0
      rw [if_neg h44] at hr2
      rw [if_neg h44] at hr3
      refine lv_aload_n hx hb d_MD_put_47 rfl (lv_at hl 1 rfl) ?_
      refine gf_MD_38 hg hw S hP 0 rfl rfl d_MD_put_48 ?_
      refine lv_aload_n hx hb d_MD_put_51 rfl (lv_at hl 1 rfl) ?_
      refine gf_MD_42 hg hw S hP 0 rfl rfl d_MD_put_52 ?_
      refine lv_iload_n hx hb d_MD_put_55 rfl (lv_at hl 2 rfl) ?_
      refine lv_bipush (v := (8 : Int32)) hx hb d_MD_put_56 (by decide) ?_
      refine lv_iload_n hx hb d_MD_put_58 rfl (lv_at hl 0 rfl) ?_
      refine lv_imul hx hb d_MD_put_59 ?_
      refine lv_ishr hx hb d_MD_put_60 ?_
      refine lv_sipush (v := (255 : Int32)) hx hb d_MD_put_61 (by decide) ?_
      refine lv_iand hx hb d_MD_put_64 ?_
      refine va_iast hx hb (xg_k hg hw) hP hD hS 1 0 rfl rfl (xm_in h44 hmu) d_MD_put_65 (fun H4 L4 hP hD hS => ?_)
      have hP : va_P G.2.1 cl_all [(y_, .inr (4, [.int (0 : Int32), .long z_n, .long z_m, .long z_d, .long z_a, .long z_b, .long z_v, .int z_ep, .int z_su, .ref a_buf, .int bv, .int z_mo, .ref a_st, .ref a_bl, .ref a_fi, .ref a_ob, .ref a_si, .ref a_po, .ref a_pr, .ref a_an, .int z_bk, .ref a_bo, .long z_h])), (a_buf, .inl (G.2.2.1, 24, .inl (upd bf bv.toNatClampNeg ((word >>> (((8 : Int32) * i) &&& 31)) &&& (255 : Int32)))))] H4 := hP
      have hD : va_D A [(y_, .inr (4, [.int (0 : Int32), .long z_n, .long z_m, .long z_d, .long z_a, .long z_b, .long z_v, .int z_ep, .int z_su, .ref a_buf, .int bv, .int z_mo, .ref a_st, .ref a_bl, .ref a_fi, .ref a_ob, .ref a_si, .ref a_po, .ref a_pr, .ref a_an, .int z_bk, .ref a_bo, .long z_h])), (a_buf, .inl (G.2.2.1, 24, .inl (upd bf bv.toNatClampNeg ((word >>> (((8 : Int32) * i) &&& 31)) &&& (255 : Int32)))))] := hD
      refine lv_aload_n hx hb d_MD_put_66 rfl (lv_at hl 1 rfl) ?_
      refine lv_dup hx hb d_MD_put_67 rfl ?_
      refine gf_MD_42 hg hw S hP 0 rfl rfl d_MD_put_68 ?_
      refine lv_iconst (v := (1 : Int32)) hx hb d_MD_put_71 (by decide) ?_
      refine lv_iadd hx hb d_MD_put_72 ?_
      refine pf_MD_42 hg hw S hP hD hS 0 rfl rfl rfl (Nat.le_of_ble_eq_true rfl) d_MD_put_73 (fun H5 L5 hP hD hS => ?_)
      have hP : va_P G.2.1 cl_all [(y_, .inr (4, [.int (0 : Int32), .long z_n, .long z_m, .long z_d, .long z_a, .long z_b, .long z_v, .int z_ep, .int z_su, .ref a_buf, .int (bv + (1 : Int32)), .int z_mo, .ref a_st, .ref a_bl, .ref a_fi, .ref a_ob, .ref a_si, .ref a_po, .ref a_pr, .ref a_an, .int z_bk, .ref a_bo, .long z_h])), (a_buf, .inl (G.2.2.1, 24, .inl (upd bf bv.toNatClampNeg ((word >>> (((8 : Int32) * i) &&& 31)) &&& (255 : Int32)))))] H5 := hP
      have hD : va_D A [(y_, .inr (4, [.int (0 : Int32), .long z_n, .long z_m, .long z_d, .long z_a, .long z_b, .long z_v, .int z_ep, .int z_su, .ref a_buf, .int (bv + (1 : Int32)), .int z_mo, .ref a_st, .ref a_bl, .ref a_fi, .ref a_ob, .ref a_si, .ref a_po, .ref a_pr, .ref a_an, .int z_bk, .ref a_bo, .long z_h])), (a_buf, .inl (G.2.2.1, 24, .inl (upd bf bv.toNatClampNeg ((word >>> (((8 : Int32) * i) &&& 31)) &&& (255 : Int32)))))] := hD
      refine lv_iinc (v := i + (-1 : Int32)) hx hb d_MD_put_76 hl (k := 0) rfl rfl (by decide) rfl (fun ls hl => ?_)
      have hl : lv_has ls 4 [(3, .int (i + (-1 : Int32))), (0, .ref y_), (1, .int word), (2, .int n_)] := hl
      refine lv_goto hx hb d_MD_put_79 (tgt := 43) (by decide) ?_
      exact ih (i + (-1 : Int32)) (bv + (1 : Int32)) (upd bf bv.toNatClampNeg ((word >>> (((8 : Int32) * i) &&& 31)) &&& (255 : Int32))) r0 r2 r3 ls H5 L5 hr0 hr2 hr3 (xm_down h44 hmu) (lv_sub hl [0, 1, 2, 3] rfl) hP hD hS
set_option maxHeartbeats 4000000 in
set_option maxRecDepth 100000 in
theorem ct_MD_put (l : Launch) {G : xg_G} (hg : xg_F G) (H : Heap) (y_ : Nat) (word : Int32) (n_ : Int32) (z_th : Int32) (z_n : Int64) (z_m : Int64) (z_d : Int64) (z_a : Int64) (z_b : Int64) (z_v : Int64) (z_ep : Int32) (z_su : Int32) (a_buf : Nat) (z_by : Int32) (z_mo : Int32) (a_st : Nat) (a_bl : Nat) (a_fi : Nat) (a_ob : Nat) (a_si : Nat) (a_po : Nat) (a_pr : Nat) (a_an : Nat) (z_bk : Int32) (a_bo : Nat) (z_h : Int64) (z_buf : Nat → Int32) (hP : va_P G.2.1 cl_all [(y_, .inr (4, [.int z_th, .long z_n, .long z_m, .long z_d, .long z_a, .long z_b, .long z_v, .int z_ep, .int z_su, .ref a_buf, .int z_by, .int z_mo, .ref a_st, .ref a_bl, .ref a_fi, .ref a_ob, .ref a_si, .ref a_po, .ref a_pr, .ref a_an, .int z_bk, .ref a_bo, .long z_h])), (a_buf, .inl (G.2.2.1, 24, .inl z_buf))] H) (hD0 : va_D (fun _ => True) [(y_, .inr (4, [.int z_th, .long z_n, .long z_m, .long z_d, .long z_a, .long z_b, .long z_v, .int z_ep, .int z_su, .ref a_buf, .int z_by, .int z_mo, .ref a_st, .ref a_bl, .ref a_fi, .ref a_ob, .ref a_si, .ref a_po, .ref a_pr, .ref a_an, .int z_bk, .ref a_bo, .long z_h])), (a_buf, .inl (G.2.2.1, 24, .inl z_buf))]) (hZ : 0 ≤ z_by.toInt) (hZ2 : z_by.toInt ≤ 24) : xc_Met l y_MD_put (.code y_MD_put b_MD_put 4 (some .int)) ({ frames := 0, cells := 0, slots := 0, locals := 0 } : Room) (xg_Pc G [.ref y_, .int word, .int n_] H) (xw_post G (va_A [(y_, .inr (4, [.int z_th, .long z_n, .long z_m, .long z_d, .long z_a, .long z_b, .long z_v, .int z_ep, .int z_su, .ref a_buf, .int z_by, .int z_mo, .ref a_st, .ref a_bl, .ref a_fi, .ref a_ob, .ref a_si, .ref a_po, .ref a_pr, .ref a_an, .int z_bk, .ref a_bo, .long z_h])), (a_buf, .inl (G.2.2.1, 24, .inl z_buf))] H.size) (some (.int (f_MD_put word n_ z_by z_buf))) [(y_, .inr (4, [.int (f_MD_put_thrownCode word n_ z_by z_buf), .long z_n, .long z_m, .long z_d, .long z_a, .long z_b, .long z_v, .int z_ep, .int z_su, .ref a_buf, .int (f_MD_put_bytes word n_ z_by z_buf), .int z_mo, .ref a_st, .ref a_bl, .ref a_fi, .ref a_ob, .ref a_si, .ref a_po, .ref a_pr, .ref a_an, .int z_bk, .ref a_bo, .long z_h])), (a_buf, .inl (G.2.2.1, 24, .inl (f_MD_put_a_buf word n_ z_by z_buf)))]) (va_A [(y_, .inr (4, [.int z_th, .long z_n, .long z_m, .long z_d, .long z_a, .long z_b, .long z_v, .int z_ep, .int z_su, .ref a_buf, .int z_by, .int z_mo, .ref a_st, .ref a_bl, .ref a_fi, .ref a_ob, .ref a_si, .ref a_po, .ref a_pr, .ref a_an, .int z_bk, .ref a_bo, .long z_h])), (a_buf, .inl (G.2.2.1, 24, .inl z_buf))] H.size) := by
  refine xc_ofW (by decide) ?_
  intro p e s m args below meth c s₁ B hml hE hv
  obtain ⟨rfl, rfl, hw⟩ := hv
  have hx := B.exec
  have hb := B.bytes
  have ht := B.returns
  have hl0 := B.notSynchronized
  have S : xc_Fix p m c b_MD_put 4 s "SealTrustModel" := ⟨hx, hb, hml, findClass_of_methodNamed B.named⟩
  have hD := hD0.self (sz := s.heap.size)
  generalize hAe : va_A [(y_, .inr (4, [.int z_th, .long z_n, .long z_m, .long z_d, .long z_a, .long z_b, .long z_v, .int z_ep, .int z_su, .ref a_buf, .int z_by, .int z_mo, .ref a_st, .ref a_bl, .ref a_fi, .ref a_ob, .ref a_si, .ref a_po, .ref a_pr, .ref a_an, .int z_bk, .ref a_bo, .long z_h])), (a_buf, .inl (G.2.2.1, 24, .inl z_buf))] s.heap.size = A at hD ⊢
  have hA : ∀ q : Nat, s.heap.size ≤ q → A q := fun q h => by rw [← hAe]; exact Or.inr h
  have hS : va_S A s.heap s.heap [] := va_S.rf
  have hl := lv_entry ([.ref y_, .int word, .int n_]) (n := 4) (Nat.le_of_ble_eq_true rfl)
  rw [lg_entry_eq]
  generalize (lg_sl ([.ref y_, .int word, .int n_]) ++ List.replicate (4 - (lg_sl ([.ref y_, .int word, .int n_])).length) Slot.unset).toArray = ls at hl ⊢
  have hl : lv_has ls 4 [(0, .ref y_), (1, .int word), (2, .int n_)] := hl
  obtain ⟨r0, hr0⟩ : ∃ r, f_MD_put word n_ z_by z_buf = r := ⟨_, rfl⟩
  rw [hr0]
  unfold f_MD_put at hr0
  obtain ⟨r1, hr1⟩ : ∃ r, f_MD_put_thrownCode word n_ z_by z_buf = r := ⟨_, rfl⟩
  rw [hr1]
  unfold f_MD_put_thrownCode at hr1
  obtain ⟨r2, hr2⟩ : ∃ r, f_MD_put_bytes word n_ z_by z_buf = r := ⟨_, rfl⟩
  rw [hr2]
  unfold f_MD_put_bytes at hr2
  obtain ⟨r3, hr3⟩ : ∃ r, f_MD_put_a_buf word n_ z_by z_buf = r := ⟨_, rfl⟩
  rw [hr3]
  unfold f_MD_put_a_buf at hr3
  refine lv_aload_n hx hb d_MD_put_0 rfl (lv_at hl 0 rfl) ?_
  refine lv_iload_n hx hb d_MD_put_1 rfl (lv_at hl 2 rfl) ?_
  refine lv_iconst (v := (1 : Int32)) hx hb d_MD_put_2 (by decide) ?_
  refine lv_icmp_lt hx hb d_MD_put_3 (tgt := 22) (by decide) (fun h3 => ?_) (fun h3 => ?_)
  · rw [if_pos h3] at hr0
    rw [if_pos h3] at hr1
    rw [if_pos h3] at hr2
    rw [if_pos h3] at hr3
    refine lv_iconst (v := (1 : Int32)) hx hb d_MD_put_22 (by decide) ?_
    refine lv_goto hx hb d_MD_put_23 (tgt := 27) (by decide) ?_
    refine pf_MD_7 hg hw S hP hD hS 0 rfl rfl rfl (Nat.le_of_ble_eq_true rfl) d_MD_put_27 (fun H1 L1 hP hD hS => ?_)
    have hP : va_P G.2.1 cl_all [(y_, .inr (4, [.int (1 : Int32), .long z_n, .long z_m, .long z_d, .long z_a, .long z_b, .long z_v, .int z_ep, .int z_su, .ref a_buf, .int z_by, .int z_mo, .ref a_st, .ref a_bl, .ref a_fi, .ref a_ob, .ref a_si, .ref a_po, .ref a_pr, .ref a_an, .int z_bk, .ref a_bo, .long z_h])), (a_buf, .inl (G.2.2.1, 24, .inl z_buf))] H1 := hP
    have hD : va_D A [(y_, .inr (4, [.int (1 : Int32), .long z_n, .long z_m, .long z_d, .long z_a, .long z_b, .long z_v, .int z_ep, .int z_su, .ref a_buf, .int z_by, .int z_mo, .ref a_st, .ref a_bl, .ref a_fi, .ref a_ob, .ref a_si, .ref a_po, .ref a_pr, .ref a_an, .int z_bk, .ref a_bo, .long z_h])), (a_buf, .inl (G.2.2.1, 24, .inl z_buf))] := hD
    refine lv_aload_n hx hb d_MD_put_30 rfl (lv_at hl 0 rfl) ?_
    refine gf_MD_7 hg hw S hP 0 rfl rfl d_MD_put_31 ?_
    refine lv_if_eq hx hb d_MD_put_34 (tgt := 39) (by decide) (fun h34 => ?_) (fun h34 => ?_)
    · exact absurd h34 (by decide)
    · refine lv_iconst (v := (0 : Int32)) hx hb d_MD_put_37 (by decide) ?_
      subst hr0
      subst hr1
      subst hr2
      subst hr3
      exact xw_iret hx hb ht hl0 hP hD hS d_MD_put_38
  · rw [if_neg h3] at hr0
    rw [if_neg h3] at hr1
    rw [if_neg h3] at hr2
    rw [if_neg h3] at hr3
    refine lv_iload_n hx hb d_MD_put_6 rfl (lv_at hl 2 rfl) ?_
    refine lv_iconst (v := (4 : Int32)) hx hb d_MD_put_7 (by decide) ?_
    refine lv_icmp_gt hx hb d_MD_put_8 (tgt := 22) (by decide) (fun h8 => ?_) (fun h8 => ?_)
    · rw [if_pos h8] at hr0
      rw [if_pos h8] at hr1
      rw [if_pos h8] at hr2
      rw [if_pos h8] at hr3
      refine lv_iconst (v := (1 : Int32)) hx hb d_MD_put_22 (by decide) ?_
      refine lv_goto hx hb d_MD_put_23 (tgt := 27) (by decide) ?_
      refine pf_MD_7 hg hw S hP hD hS 0 rfl rfl rfl (Nat.le_of_ble_eq_true rfl) d_MD_put_27 (fun H2 L2 hP hD hS => ?_)
      have hP : va_P G.2.1 cl_all [(y_, .inr (4, [.int (1 : Int32), .long z_n, .long z_m, .long z_d, .long z_a, .long z_b, .long z_v, .int z_ep, .int z_su, .ref a_buf, .int z_by, .int z_mo, .ref a_st, .ref a_bl, .ref a_fi, .ref a_ob, .ref a_si, .ref a_po, .ref a_pr, .ref a_an, .int z_bk, .ref a_bo, .long z_h])), (a_buf, .inl (G.2.2.1, 24, .inl z_buf))] H2 := hP
      have hD : va_D A [(y_, .inr (4, [.int (1 : Int32), .long z_n, .long z_m, .long z_d, .long z_a, .long z_b, .long z_v, .int z_ep, .int z_su, .ref a_buf, .int z_by, .int z_mo, .ref a_st, .ref a_bl, .ref a_fi, .ref a_ob, .ref a_si, .ref a_po, .ref a_pr, .ref a_an, .int z_bk, .ref a_bo, .long z_h])), (a_buf, .inl (G.2.2.1, 24, .inl z_buf))] := hD
      refine lv_aload_n hx hb d_MD_put_30 rfl (lv_at hl 0 rfl) ?_
      refine gf_MD_7 hg hw S hP 0 rfl rfl d_MD_put_31 ?_
      refine lv_if_eq hx hb d_MD_put_34 (tgt := 39) (by decide) (fun h34 => ?_) (fun h34 => ?_)
      · exact absurd h34 (by decide)
      · refine lv_iconst (v := (0 : Int32)) hx hb d_MD_put_37 (by decide) ?_
        subst hr0
        subst hr1
        subst hr2
        subst hr3
        exact xw_iret hx hb ht hl0 hP hD hS d_MD_put_38
    · rw [if_neg h8] at hr0
      rw [if_neg h8] at hr1
      rw [if_neg h8] at hr2
      rw [if_neg h8] at hr3
      refine lv_aload_n hx hb d_MD_put_11 rfl (lv_at hl 0 rfl) ?_
      refine gf_MD_42 hg hw S hP 0 rfl rfl d_MD_put_12 ?_
      refine lv_iload_n hx hb d_MD_put_15 rfl (lv_at hl 2 rfl) ?_
      refine lv_iadd hx hb d_MD_put_16 ?_
      refine lv_bipush (v := (24 : Int32)) hx hb d_MD_put_17 (by decide) ?_
      refine lv_icmp_le hx hb d_MD_put_19 (tgt := 26) (by decide) (fun h19 => ?_) (fun h19 => ?_)
      · rw [if_pos h19] at hr0
        rw [if_pos h19] at hr1
        rw [if_pos h19] at hr2
        rw [if_pos h19] at hr3
        refine lv_iconst (v := (0 : Int32)) hx hb d_MD_put_26 (by decide) ?_
        refine pf_MD_7 hg hw S hP hD hS 0 rfl rfl rfl (Nat.le_of_ble_eq_true rfl) d_MD_put_27 (fun H3 L3 hP hD hS => ?_)
        have hP : va_P G.2.1 cl_all [(y_, .inr (4, [.int (0 : Int32), .long z_n, .long z_m, .long z_d, .long z_a, .long z_b, .long z_v, .int z_ep, .int z_su, .ref a_buf, .int z_by, .int z_mo, .ref a_st, .ref a_bl, .ref a_fi, .ref a_ob, .ref a_si, .ref a_po, .ref a_pr, .ref a_an, .int z_bk, .ref a_bo, .long z_h])), (a_buf, .inl (G.2.2.1, 24, .inl z_buf))] H3 := hP
        have hD : va_D A [(y_, .inr (4, [.int (0 : Int32), .long z_n, .long z_m, .long z_d, .long z_a, .long z_b, .long z_v, .int z_ep, .int z_su, .ref a_buf, .int z_by, .int z_mo, .ref a_st, .ref a_bl, .ref a_fi, .ref a_ob, .ref a_si, .ref a_po, .ref a_pr, .ref a_an, .int z_bk, .ref a_bo, .long z_h])), (a_buf, .inl (G.2.2.1, 24, .inl z_buf))] := hD
        refine lv_aload_n hx hb d_MD_put_30 rfl (lv_at hl 0 rfl) ?_
        refine gf_MD_7 hg hw S hP 0 rfl rfl d_MD_put_31 ?_
        refine lv_if_eq hx hb d_MD_put_34 (tgt := 39) (by decide) (fun h34 => ?_) (fun h34 => ?_)
        · refine lv_iload_n hx hb d_MD_put_39 rfl (lv_at hl 2 rfl) ?_
          refine lv_iconst (v := (1 : Int32)) hx hb d_MD_put_40 (by decide) ?_
          refine lv_isub hx hb d_MD_put_41 ?_
          refine lv_istore_n hx hb d_MD_put_42 rfl hl (by decide) rfl (fun ls hl => ?_)
          have hl : lv_has ls 4 [(3, .int (n_ - (1 : Int32))), (0, .ref y_), (1, .int word), (2, .int n_)] := hl
          subst hr1
          exact wl_MD_put_43 (y_ := y_) (word := word) (n_ := n_) (z_th := z_th) (z_n := z_n) (z_m := z_m) (z_d := z_d) (z_a := z_a) (z_b := z_b) (z_v := z_v) (z_ep := z_ep) (z_su := z_su) (a_buf := a_buf) (z_by := z_by) (z_mo := z_mo) (a_st := a_st) (a_bl := a_bl) (a_fi := a_fi) (a_ob := a_ob) (a_si := a_si) (a_po := a_po) (a_pr := a_pr) (a_an := a_an) (z_bk := z_bk) (a_bo := a_bo) (z_h := z_h) (z_buf := z_buf) hg hw S hl0 ht hA  6 (n_ - (1 : Int32)) z_by z_buf r0 r2 r3 ls H3 L3 hr0 hr2 hr3 (xm_start h3 h8 h19 hZ hZ2) (lv_sub hl [0, 1, 2, 3] rfl) hP hD hS
        · exact absurd h34 (by decide)
      · rw [if_neg h19] at hr0
        rw [if_neg h19] at hr1
        rw [if_neg h19] at hr2
        rw [if_neg h19] at hr3
        refine lv_iconst (v := (1 : Int32)) hx hb d_MD_put_22 (by decide) ?_
        refine lv_goto hx hb d_MD_put_23 (tgt := 27) (by decide) ?_
        refine pf_MD_7 hg hw S hP hD hS 0 rfl rfl rfl (Nat.le_of_ble_eq_true rfl) d_MD_put_27 (fun H6 L6 hP hD hS => ?_)
        have hP : va_P G.2.1 cl_all [(y_, .inr (4, [.int (1 : Int32), .long z_n, .long z_m, .long z_d, .long z_a, .long z_b, .long z_v, .int z_ep, .int z_su, .ref a_buf, .int z_by, .int z_mo, .ref a_st, .ref a_bl, .ref a_fi, .ref a_ob, .ref a_si, .ref a_po, .ref a_pr, .ref a_an, .int z_bk, .ref a_bo, .long z_h])), (a_buf, .inl (G.2.2.1, 24, .inl z_buf))] H6 := hP
        have hD : va_D A [(y_, .inr (4, [.int (1 : Int32), .long z_n, .long z_m, .long z_d, .long z_a, .long z_b, .long z_v, .int z_ep, .int z_su, .ref a_buf, .int z_by, .int z_mo, .ref a_st, .ref a_bl, .ref a_fi, .ref a_ob, .ref a_si, .ref a_po, .ref a_pr, .ref a_an, .int z_bk, .ref a_bo, .long z_h])), (a_buf, .inl (G.2.2.1, 24, .inl z_buf))] := hD
        refine lv_aload_n hx hb d_MD_put_30 rfl (lv_at hl 0 rfl) ?_
        refine gf_MD_7 hg hw S hP 0 rfl rfl d_MD_put_31 ?_
        refine lv_if_eq hx hb d_MD_put_34 (tgt := 39) (by decide) (fun h34 => ?_) (fun h34 => ?_)
        · exact absurd h34 (by decide)
        · refine lv_iconst (v := (0 : Int32)) hx hb d_MD_put_37 (by decide) ?_
          subst hr0
          subst hr1
          subst hr2
          subst hr3
          exact xw_iret hx hb ht hl0 hP hD hS d_MD_put_38
def f_MD_motion (z_n : Int64) (z_by : Int32) (z_mo : Int32) : Int32 := if z_n = (0 : Int64) then (0 : Int32) else (if z_by = 0 then (0 : Int32) else (if z_mo = (12 : Int32) then (0 : Int32) else ((z_mo + (1 : Int32)) - (1 : Int32))))
def f_MD_motion_thrownCode (z_n : Int64) (z_by : Int32) (z_mo : Int32) : Int32 := if z_n = (0 : Int64) then (1 : Int32) else (if z_by = 0 then (1 : Int32) else (if z_mo = (12 : Int32) then (1 : Int32) else (0 : Int32)))
def f_MD_motion_h (z_n : Int64) (z_by : Int32) (z_mo : Int32) (z_h : Int64) (z_buf : Nat → Int32) : Int64 := if z_n = (0 : Int64) then z_h else (if z_by = 0 then z_h else (if z_mo = (12 : Int32) then z_h else (f_MD_blockOf_h z_n z_by z_buf)))
def f_MD_motion_bytes (z_n : Int64) (z_by : Int32) (z_mo : Int32) : Int32 := if z_n = (0 : Int64) then z_by else (if z_by = 0 then z_by else (if z_mo = (12 : Int32) then z_by else (0 : Int32)))
def f_MD_motion_motions (z_n : Int64) (z_by : Int32) (z_mo : Int32) : Int32 := if z_n = (0 : Int64) then z_mo else (if z_by = 0 then z_mo else (if z_mo = (12 : Int32) then z_mo else (z_mo + (1 : Int32))))
def f_MD_motion_a_bl (z_n : Int64) (z_by : Int32) (z_mo : Int32) (z_buf : Nat → Int32) (z_bl : Nat → Int64) : Nat → Int64 := if z_n = (0 : Int64) then z_bl else (if z_by = 0 then z_bl else (if z_mo = (12 : Int32) then z_bl else (vp_updL z_bl z_mo.toNatClampNeg (f_MD_blockOf z_n z_by z_buf))))
def f_MD_motion_a_st (z_n : Int64) (z_by : Int32) (z_mo : Int32) (z_st : Nat → Int32) : Nat → Int32 := if z_n = (0 : Int64) then z_st else (if z_by = 0 then z_st else (if z_mo = (12 : Int32) then z_st else (upd z_st z_mo.toNatClampNeg (0 : Int32))))
def f_MD_motion_a_fi (z_n : Int64) (z_by : Int32) (z_mo : Int32) (z_fi : Nat → Int32) : Nat → Int32 := if z_n = (0 : Int64) then z_fi else (if z_by = 0 then z_fi else (if z_mo = (12 : Int32) then z_fi else (upd z_fi z_mo.toNatClampNeg (0 : Int32))))
def f_MD_motion_a_ob (z_n : Int64) (z_by : Int32) (z_mo : Int32) (z_ob : Nat → Int32) : Nat → Int32 := if z_n = (0 : Int64) then z_ob else (if z_by = 0 then z_ob else (if z_mo = (12 : Int32) then z_ob else (upd z_ob z_mo.toNatClampNeg (0 : Int32))))
def f_MD_motion_a_si (z_n : Int64) (z_by : Int32) (z_mo : Int32) (z_sg : Nat → Int64) : Nat → Int64 := if z_n = (0 : Int64) then z_sg else (if z_by = 0 then z_sg else (if z_mo = (12 : Int32) then z_sg else (vp_updL z_sg z_mo.toNatClampNeg (0 : Int64))))
set_option maxHeartbeats 4000000 in
set_option maxRecDepth 100000 in
theorem ct_MD_motion (l : Launch) {G : xg_G} (hg : xg_F G) (H : Heap) (y_ : Nat) (z_th : Int32) (z_n : Int64) (z_m : Int64) (z_d : Int64) (z_a : Int64) (z_b : Int64) (z_v : Int64) (z_ep : Int32) (z_su : Int32) (a_buf : Nat) (z_by : Int32) (z_mo : Int32) (a_st : Nat) (a_bl : Nat) (a_fi : Nat) (a_ob : Nat) (a_si : Nat) (a_po : Nat) (a_pr : Nat) (a_an : Nat) (z_bk : Int32) (a_bo : Nat) (z_h : Int64) (z_buf : Nat → Int32) (z_bl : Nat → Int64) (z_st : Nat → Int32) (z_fi : Nat → Int32) (z_ob : Nat → Int32) (z_sg : Nat → Int64) (hP : va_P G.2.1 cl_all [(y_, .inr (4, [.int z_th, .long z_n, .long z_m, .long z_d, .long z_a, .long z_b, .long z_v, .int z_ep, .int z_su, .ref a_buf, .int z_by, .int z_mo, .ref a_st, .ref a_bl, .ref a_fi, .ref a_ob, .ref a_si, .ref a_po, .ref a_pr, .ref a_an, .int z_bk, .ref a_bo, .long z_h])), (a_buf, .inl (G.2.2.1, 24, .inl z_buf)), (a_bl, .inl (G.2.2.2.1, 12, .inr (.inl z_bl))), (a_st, .inl (G.2.2.1, 12, .inl z_st)), (a_fi, .inl (G.2.2.1, 12, .inl z_fi)), (a_ob, .inl (G.2.2.1, 12, .inl z_ob)), (a_si, .inl (G.2.2.2.1, 12, .inr (.inl z_sg)))] H) (hD0 : va_D (fun _ => True) [(y_, .inr (4, [.int z_th, .long z_n, .long z_m, .long z_d, .long z_a, .long z_b, .long z_v, .int z_ep, .int z_su, .ref a_buf, .int z_by, .int z_mo, .ref a_st, .ref a_bl, .ref a_fi, .ref a_ob, .ref a_si, .ref a_po, .ref a_pr, .ref a_an, .int z_bk, .ref a_bo, .long z_h])), (a_buf, .inl (G.2.2.1, 24, .inl z_buf)), (a_bl, .inl (G.2.2.2.1, 12, .inr (.inl z_bl))), (a_st, .inl (G.2.2.1, 12, .inl z_st)), (a_fi, .inl (G.2.2.1, 12, .inl z_fi)), (a_ob, .inl (G.2.2.1, 12, .inl z_ob)), (a_si, .inl (G.2.2.2.1, 12, .inr (.inl z_sg)))]) (hN : ¬ z_n = 0 → ¬ z_n - (3 : Int64) = 0) (hZ : z_by.toInt ≤ 24) (hQ0 : 0 ≤ z_mo.toInt) (hQ : z_mo.toInt ≤ 12) : xc_Met l y_MD_motion (.code y_MD_motion b_MD_motion 1 (some .int)) ({ frames := 2, cells := 0, slots := 0, locals := 29 } : Room) (xg_Pc G [.ref y_] H) (xw_post G (va_A [(y_, .inr (4, [.int z_th, .long z_n, .long z_m, .long z_d, .long z_a, .long z_b, .long z_v, .int z_ep, .int z_su, .ref a_buf, .int z_by, .int z_mo, .ref a_st, .ref a_bl, .ref a_fi, .ref a_ob, .ref a_si, .ref a_po, .ref a_pr, .ref a_an, .int z_bk, .ref a_bo, .long z_h])), (a_buf, .inl (G.2.2.1, 24, .inl z_buf)), (a_bl, .inl (G.2.2.2.1, 12, .inr (.inl z_bl))), (a_st, .inl (G.2.2.1, 12, .inl z_st)), (a_fi, .inl (G.2.2.1, 12, .inl z_fi)), (a_ob, .inl (G.2.2.1, 12, .inl z_ob)), (a_si, .inl (G.2.2.2.1, 12, .inr (.inl z_sg)))] H.size) (some (.int (f_MD_motion z_n z_by z_mo))) [(y_, .inr (4, [.int (f_MD_motion_thrownCode z_n z_by z_mo), .long z_n, .long z_m, .long z_d, .long z_a, .long z_b, .long z_v, .int z_ep, .int z_su, .ref a_buf, .int (f_MD_motion_bytes z_n z_by z_mo), .int (f_MD_motion_motions z_n z_by z_mo), .ref a_st, .ref a_bl, .ref a_fi, .ref a_ob, .ref a_si, .ref a_po, .ref a_pr, .ref a_an, .int z_bk, .ref a_bo, .long (f_MD_motion_h z_n z_by z_mo z_h z_buf)])), (a_buf, .inl (G.2.2.1, 24, .inl z_buf)), (a_bl, .inl (G.2.2.2.1, 12, .inr (.inl (f_MD_motion_a_bl z_n z_by z_mo z_buf z_bl)))), (a_st, .inl (G.2.2.1, 12, .inl (f_MD_motion_a_st z_n z_by z_mo z_st))), (a_fi, .inl (G.2.2.1, 12, .inl (f_MD_motion_a_fi z_n z_by z_mo z_fi))), (a_ob, .inl (G.2.2.1, 12, .inl (f_MD_motion_a_ob z_n z_by z_mo z_ob))), (a_si, .inl (G.2.2.2.1, 12, .inr (.inl (f_MD_motion_a_si z_n z_by z_mo z_sg))))]) (va_A [(y_, .inr (4, [.int z_th, .long z_n, .long z_m, .long z_d, .long z_a, .long z_b, .long z_v, .int z_ep, .int z_su, .ref a_buf, .int z_by, .int z_mo, .ref a_st, .ref a_bl, .ref a_fi, .ref a_ob, .ref a_si, .ref a_po, .ref a_pr, .ref a_an, .int z_bk, .ref a_bo, .long z_h])), (a_buf, .inl (G.2.2.1, 24, .inl z_buf)), (a_bl, .inl (G.2.2.2.1, 12, .inr (.inl z_bl))), (a_st, .inl (G.2.2.1, 12, .inl z_st)), (a_fi, .inl (G.2.2.1, 12, .inl z_fi)), (a_ob, .inl (G.2.2.1, 12, .inl z_ob)), (a_si, .inl (G.2.2.2.1, 12, .inr (.inl z_sg)))] H.size) := by
  refine xc_ofW (by decide) ?_
  intro p e s m args below meth c s₁ B hml hE hv
  obtain ⟨rfl, rfl, hw⟩ := hv
  have hx := B.exec
  have hb := B.bytes
  have ht := B.returns
  have hl0 := B.notSynchronized
  have S : xc_Fix p m c b_MD_motion 1 s "SealTrustModel" := ⟨hx, hb, hml, findClass_of_methodNamed B.named⟩
  have hD := hD0.self (sz := s.heap.size)
  generalize hAe : va_A [(y_, .inr (4, [.int z_th, .long z_n, .long z_m, .long z_d, .long z_a, .long z_b, .long z_v, .int z_ep, .int z_su, .ref a_buf, .int z_by, .int z_mo, .ref a_st, .ref a_bl, .ref a_fi, .ref a_ob, .ref a_si, .ref a_po, .ref a_pr, .ref a_an, .int z_bk, .ref a_bo, .long z_h])), (a_buf, .inl (G.2.2.1, 24, .inl z_buf)), (a_bl, .inl (G.2.2.2.1, 12, .inr (.inl z_bl))), (a_st, .inl (G.2.2.1, 12, .inl z_st)), (a_fi, .inl (G.2.2.1, 12, .inl z_fi)), (a_ob, .inl (G.2.2.1, 12, .inl z_ob)), (a_si, .inl (G.2.2.2.1, 12, .inr (.inl z_sg)))] s.heap.size = A at hD ⊢
  have hA : ∀ q : Nat, s.heap.size ≤ q → A q := fun q h => by rw [← hAe]; exact Or.inr h
  have hS : va_S A s.heap s.heap [] := va_S.rf
  have hl := lv_entry ([.ref y_]) (n := 1) (Nat.le_of_ble_eq_true rfl)
  rw [lg_entry_eq]
  generalize (lg_sl ([.ref y_]) ++ List.replicate (1 - (lg_sl ([.ref y_])).length) Slot.unset).toArray = ls at hl ⊢
  have hl : lv_has ls 1 [(0, .ref y_)] := hl
  obtain ⟨r0, hr0⟩ : ∃ r, f_MD_motion z_n z_by z_mo = r := ⟨_, rfl⟩
  rw [hr0]
  unfold f_MD_motion at hr0
  obtain ⟨r1, hr1⟩ : ∃ r, f_MD_motion_thrownCode z_n z_by z_mo = r := ⟨_, rfl⟩
  rw [hr1]
  unfold f_MD_motion_thrownCode at hr1
  obtain ⟨r2, hr2⟩ : ∃ r, f_MD_motion_h z_n z_by z_mo z_h z_buf = r := ⟨_, rfl⟩
  rw [hr2]
  unfold f_MD_motion_h at hr2
  obtain ⟨r3, hr3⟩ : ∃ r, f_MD_motion_bytes z_n z_by z_mo = r := ⟨_, rfl⟩
  rw [hr3]
  unfold f_MD_motion_bytes at hr3
  obtain ⟨r4, hr4⟩ : ∃ r, f_MD_motion_motions z_n z_by z_mo = r := ⟨_, rfl⟩
  rw [hr4]
  unfold f_MD_motion_motions at hr4
  obtain ⟨r5, hr5⟩ : ∃ r, f_MD_motion_a_bl z_n z_by z_mo z_buf z_bl = r := ⟨_, rfl⟩
  rw [hr5]
  unfold f_MD_motion_a_bl at hr5
  obtain ⟨r6, hr6⟩ : ∃ r, f_MD_motion_a_st z_n z_by z_mo z_st = r := ⟨_, rfl⟩
  rw [hr6]
  unfold f_MD_motion_a_st at hr6
  obtain ⟨r7, hr7⟩ : ∃ r, f_MD_motion_a_fi z_n z_by z_mo z_fi = r := ⟨_, rfl⟩
  rw [hr7]
  unfold f_MD_motion_a_fi at hr7
  obtain ⟨r8, hr8⟩ : ∃ r, f_MD_motion_a_ob z_n z_by z_mo z_ob = r := ⟨_, rfl⟩
  rw [hr8]
  unfold f_MD_motion_a_ob at hr8
  obtain ⟨r9, hr9⟩ : ∃ r, f_MD_motion_a_si z_n z_by z_mo z_sg = r := ⟨_, rfl⟩
  rw [hr9]
  unfold f_MD_motion_a_si at hr9
  refine lv_aload_n hx hb d_MD_motion_0 rfl (lv_at hl 0 rfl) ?_
  refine lv_aload_n hx hb d_MD_motion_1 rfl (lv_at hl 0 rfl) ?_
  refine gf_MD_13 hg hw S hP 0 rfl rfl d_MD_motion_2 ?_
  refine lv_lconst (v := (0 : Int64)) hx hb d_MD_motion_5 (by decide) ?_
  refine W.lcmp hx hb d_MD_motion_6 ?_
  refine lv_if_eq hx hb d_MD_motion_7 (tgt := 26) (by decide) (fun h7 => ?_) (fun h7 => ?_)
  · rw [lg_cmp_eq] at h7
    rw [if_pos h7] at hr0
    rw [if_pos h7] at hr1
    rw [if_pos h7] at hr2
    rw [if_pos h7] at hr3
    rw [if_pos h7] at hr4
    rw [if_pos h7] at hr5
    rw [if_pos h7] at hr6
    rw [if_pos h7] at hr7
    rw [if_pos h7] at hr8
    rw [if_pos h7] at hr9
    refine lv_iconst (v := (1 : Int32)) hx hb d_MD_motion_26 (by decide) ?_
    refine lv_goto hx hb d_MD_motion_27 (tgt := 31) (by decide) ?_
    refine pf_MD_7 hg hw S hP hD hS 0 rfl rfl rfl (Nat.le_of_ble_eq_true rfl) d_MD_motion_31 (fun H1 L1 hP hD hS => ?_)
    have hP : va_P G.2.1 cl_all [(y_, .inr (4, [.int (1 : Int32), .long z_n, .long z_m, .long z_d, .long z_a, .long z_b, .long z_v, .int z_ep, .int z_su, .ref a_buf, .int z_by, .int z_mo, .ref a_st, .ref a_bl, .ref a_fi, .ref a_ob, .ref a_si, .ref a_po, .ref a_pr, .ref a_an, .int z_bk, .ref a_bo, .long z_h])), (a_buf, .inl (G.2.2.1, 24, .inl z_buf)), (a_bl, .inl (G.2.2.2.1, 12, .inr (.inl z_bl))), (a_st, .inl (G.2.2.1, 12, .inl z_st)), (a_fi, .inl (G.2.2.1, 12, .inl z_fi)), (a_ob, .inl (G.2.2.1, 12, .inl z_ob)), (a_si, .inl (G.2.2.2.1, 12, .inr (.inl z_sg)))] H1 := hP
    have hD : va_D A [(y_, .inr (4, [.int (1 : Int32), .long z_n, .long z_m, .long z_d, .long z_a, .long z_b, .long z_v, .int z_ep, .int z_su, .ref a_buf, .int z_by, .int z_mo, .ref a_st, .ref a_bl, .ref a_fi, .ref a_ob, .ref a_si, .ref a_po, .ref a_pr, .ref a_an, .int z_bk, .ref a_bo, .long z_h])), (a_buf, .inl (G.2.2.1, 24, .inl z_buf)), (a_bl, .inl (G.2.2.2.1, 12, .inr (.inl z_bl))), (a_st, .inl (G.2.2.1, 12, .inl z_st)), (a_fi, .inl (G.2.2.1, 12, .inl z_fi)), (a_ob, .inl (G.2.2.1, 12, .inl z_ob)), (a_si, .inl (G.2.2.2.1, 12, .inr (.inl z_sg)))] := hD
    refine lv_aload_n hx hb d_MD_motion_34 rfl (lv_at hl 0 rfl) ?_
    refine gf_MD_7 hg hw S hP 0 rfl rfl d_MD_motion_35 ?_
    refine lv_if_eq hx hb d_MD_motion_38 (tgt := 43) (by decide) (fun h38 => ?_) (fun h38 => ?_)
    · exact absurd h38 (by decide)
    · refine lv_iconst (v := (0 : Int32)) hx hb d_MD_motion_41 (by decide) ?_
      subst hr0
      subst hr1
      subst hr2
      subst hr3
      subst hr4
      subst hr5
      subst hr6
      subst hr7
      subst hr8
      subst hr9
      exact xw_iret hx hb ht hl0 hP hD hS d_MD_motion_42
  · rw [lg_cmp_eq] at h7
    rw [if_neg h7] at hr0
    rw [if_neg h7] at hr1
    rw [if_neg h7] at hr2
    rw [if_neg h7] at hr3
    rw [if_neg h7] at hr4
    rw [if_neg h7] at hr5
    rw [if_neg h7] at hr6
    rw [if_neg h7] at hr7
    rw [if_neg h7] at hr8
    rw [if_neg h7] at hr9
    refine lv_aload_n hx hb d_MD_motion_10 rfl (lv_at hl 0 rfl) ?_
    refine gf_MD_42 hg hw S hP 0 rfl rfl d_MD_motion_11 ?_
    refine lv_if_eq hx hb d_MD_motion_14 (tgt := 26) (by decide) (fun h14 => ?_) (fun h14 => ?_)
    · rw [if_pos h14] at hr0
      rw [if_pos h14] at hr1
      rw [if_pos h14] at hr2
      rw [if_pos h14] at hr3
      rw [if_pos h14] at hr4
      rw [if_pos h14] at hr5
      rw [if_pos h14] at hr6
      rw [if_pos h14] at hr7
      rw [if_pos h14] at hr8
      rw [if_pos h14] at hr9
      refine lv_iconst (v := (1 : Int32)) hx hb d_MD_motion_26 (by decide) ?_
      refine lv_goto hx hb d_MD_motion_27 (tgt := 31) (by decide) ?_
      refine pf_MD_7 hg hw S hP hD hS 0 rfl rfl rfl (Nat.le_of_ble_eq_true rfl) d_MD_motion_31 (fun H2 L2 hP hD hS => ?_)
      have hP : va_P G.2.1 cl_all [(y_, .inr (4, [.int (1 : Int32), .long z_n, .long z_m, .long z_d, .long z_a, .long z_b, .long z_v, .int z_ep, .int z_su, .ref a_buf, .int z_by, .int z_mo, .ref a_st, .ref a_bl, .ref a_fi, .ref a_ob, .ref a_si, .ref a_po, .ref a_pr, .ref a_an, .int z_bk, .ref a_bo, .long z_h])), (a_buf, .inl (G.2.2.1, 24, .inl z_buf)), (a_bl, .inl (G.2.2.2.1, 12, .inr (.inl z_bl))), (a_st, .inl (G.2.2.1, 12, .inl z_st)), (a_fi, .inl (G.2.2.1, 12, .inl z_fi)), (a_ob, .inl (G.2.2.1, 12, .inl z_ob)), (a_si, .inl (G.2.2.2.1, 12, .inr (.inl z_sg)))] H2 := hP
      have hD : va_D A [(y_, .inr (4, [.int (1 : Int32), .long z_n, .long z_m, .long z_d, .long z_a, .long z_b, .long z_v, .int z_ep, .int z_su, .ref a_buf, .int z_by, .int z_mo, .ref a_st, .ref a_bl, .ref a_fi, .ref a_ob, .ref a_si, .ref a_po, .ref a_pr, .ref a_an, .int z_bk, .ref a_bo, .long z_h])), (a_buf, .inl (G.2.2.1, 24, .inl z_buf)), (a_bl, .inl (G.2.2.2.1, 12, .inr (.inl z_bl))), (a_st, .inl (G.2.2.1, 12, .inl z_st)), (a_fi, .inl (G.2.2.1, 12, .inl z_fi)), (a_ob, .inl (G.2.2.1, 12, .inl z_ob)), (a_si, .inl (G.2.2.2.1, 12, .inr (.inl z_sg)))] := hD
      refine lv_aload_n hx hb d_MD_motion_34 rfl (lv_at hl 0 rfl) ?_
      refine gf_MD_7 hg hw S hP 0 rfl rfl d_MD_motion_35 ?_
      refine lv_if_eq hx hb d_MD_motion_38 (tgt := 43) (by decide) (fun h38 => ?_) (fun h38 => ?_)
      · exact absurd h38 (by decide)
      · refine lv_iconst (v := (0 : Int32)) hx hb d_MD_motion_41 (by decide) ?_
        subst hr0
        subst hr1
        subst hr2
        subst hr3
        subst hr4
        subst hr5
        subst hr6
        subst hr7
        subst hr8
        subst hr9
        exact xw_iret hx hb ht hl0 hP hD hS d_MD_motion_42
    · rw [if_neg h14] at hr0
      rw [if_neg h14] at hr1
      rw [if_neg h14] at hr2
      rw [if_neg h14] at hr3
      rw [if_neg h14] at hr4
      rw [if_neg h14] at hr5
      rw [if_neg h14] at hr6
      rw [if_neg h14] at hr7
      rw [if_neg h14] at hr8
      rw [if_neg h14] at hr9
      refine lv_aload_n hx hb d_MD_motion_17 rfl (lv_at hl 0 rfl) ?_
      refine gf_MD_45 hg hw S hP 0 rfl rfl d_MD_motion_18 ?_
      refine lv_bipush (v := (12 : Int32)) hx hb d_MD_motion_21 (by decide) ?_
      refine lv_icmp_ne hx hb d_MD_motion_23 (tgt := 30) (by decide) (fun h23 => ?_) (fun h23 => ?_)
      · rw [if_neg h23] at hr0
        rw [if_neg h23] at hr1
        rw [if_neg h23] at hr2
        rw [if_neg h23] at hr3
        rw [if_neg h23] at hr4
        rw [if_neg h23] at hr5
        rw [if_neg h23] at hr6
        rw [if_neg h23] at hr7
        rw [if_neg h23] at hr8
        rw [if_neg h23] at hr9
        refine lv_iconst (v := (0 : Int32)) hx hb d_MD_motion_30 (by decide) ?_
        refine pf_MD_7 hg hw S hP hD hS 0 rfl rfl rfl (Nat.le_of_ble_eq_true rfl) d_MD_motion_31 (fun H3 L3 hP hD hS => ?_)
        have hP : va_P G.2.1 cl_all [(y_, .inr (4, [.int (0 : Int32), .long z_n, .long z_m, .long z_d, .long z_a, .long z_b, .long z_v, .int z_ep, .int z_su, .ref a_buf, .int z_by, .int z_mo, .ref a_st, .ref a_bl, .ref a_fi, .ref a_ob, .ref a_si, .ref a_po, .ref a_pr, .ref a_an, .int z_bk, .ref a_bo, .long z_h])), (a_buf, .inl (G.2.2.1, 24, .inl z_buf)), (a_bl, .inl (G.2.2.2.1, 12, .inr (.inl z_bl))), (a_st, .inl (G.2.2.1, 12, .inl z_st)), (a_fi, .inl (G.2.2.1, 12, .inl z_fi)), (a_ob, .inl (G.2.2.1, 12, .inl z_ob)), (a_si, .inl (G.2.2.2.1, 12, .inr (.inl z_sg)))] H3 := hP
        have hD : va_D A [(y_, .inr (4, [.int (0 : Int32), .long z_n, .long z_m, .long z_d, .long z_a, .long z_b, .long z_v, .int z_ep, .int z_su, .ref a_buf, .int z_by, .int z_mo, .ref a_st, .ref a_bl, .ref a_fi, .ref a_ob, .ref a_si, .ref a_po, .ref a_pr, .ref a_an, .int z_bk, .ref a_bo, .long z_h])), (a_buf, .inl (G.2.2.1, 24, .inl z_buf)), (a_bl, .inl (G.2.2.2.1, 12, .inr (.inl z_bl))), (a_st, .inl (G.2.2.1, 12, .inl z_st)), (a_fi, .inl (G.2.2.1, 12, .inl z_fi)), (a_ob, .inl (G.2.2.1, 12, .inl z_ob)), (a_si, .inl (G.2.2.2.1, 12, .inr (.inl z_sg)))] := hD
        refine lv_aload_n hx hb d_MD_motion_34 rfl (lv_at hl 0 rfl) ?_
        refine gf_MD_7 hg hw S hP 0 rfl rfl d_MD_motion_35 ?_
        refine lv_if_eq hx hb d_MD_motion_38 (tgt := 43) (by decide) (fun h38 => ?_) (fun h38 => ?_)
        · refine lv_aload_n hx hb d_MD_motion_43 rfl (lv_at hl 0 rfl) ?_
          refine gf_MD_51 hg hw S hP 0 rfl rfl d_MD_motion_44 ?_
          refine lv_aload_n hx hb d_MD_motion_47 rfl (lv_at hl 0 rfl) ?_
          refine gf_MD_45 hg hw S hP 0 rfl rfl d_MD_motion_48 ?_
          refine lv_aload_n hx hb d_MD_motion_51 rfl (lv_at hl 0 rfl) ?_
          refine xw_use (wc := [(y_, .inr (4, [.int (0 : Int32), .long z_n, .long z_m, .long z_d, .long z_a, .long z_b, .long z_v, .int z_ep, .int z_su, .ref a_buf, .int z_by, .int z_mo, .ref a_st, .ref a_bl, .ref a_fi, .ref a_ob, .ref a_si, .ref a_po, .ref a_pr, .ref a_an, .int z_bk, .ref a_bo, .long z_h])), (a_buf, .inl (G.2.2.1, 24, .inl z_buf))]) (wr := [(a_bl, .inl (G.2.2.2.1, 12, .inr (.inl z_bl))), (a_st, .inl (G.2.2.1, 12, .inl z_st)), (a_fi, .inl (G.2.2.1, 12, .inl z_fi)), (a_ob, .inl (G.2.2.1, 12, .inl z_ob)), (a_si, .inl (G.2.2.2.1, 12, .inr (.inl z_sg)))]) (xg_runV (rest := [.int z_mo, .ref a_bl]) (kw := 2) si_MD_139 hg hw S (va_recv (xg_k hg hw) hP (ci := 4) rfl (q0 := 0) rfl) (ct_MD_blockOf l hg H3 y_ (0 : Int32) z_n z_m z_d z_a z_b z_v z_ep z_su a_buf z_by z_mo a_st a_bl a_fi a_ob a_si a_po a_pr a_an z_bk a_bo z_h z_buf (hP.sub [0, 1] rfl) ((hD.sub [0, 1] (by decide) rfl).weaken (fun _ _ _ _ => trivial)) (hN h7) hZ) ⟨by decide, by decide, by decide, by decide⟩ rfl hl.1 rfl (Nat.le_of_ble_eq_true rfl) d_MD_motion_52) hP hD hS hA [0, 1] [2, 3, 4, 5, 6] rfl rfl (by decide) (by decide) (fun H4 L4 hP hD hS => ?_)
          have hP : va_P G.2.1 cl_all [(a_bl, .inl (G.2.2.2.1, 12, .inr (.inl z_bl))), (a_st, .inl (G.2.2.1, 12, .inl z_st)), (a_fi, .inl (G.2.2.1, 12, .inl z_fi)), (a_ob, .inl (G.2.2.1, 12, .inl z_ob)), (a_si, .inl (G.2.2.2.1, 12, .inr (.inl z_sg))), (y_, .inr (4, [.int (0 : Int32), .long z_n, .long z_m, .long z_d, .long z_a, .long z_b, .long z_v, .int z_ep, .int z_su, .ref a_buf, .int z_by, .int z_mo, .ref a_st, .ref a_bl, .ref a_fi, .ref a_ob, .ref a_si, .ref a_po, .ref a_pr, .ref a_an, .int z_bk, .ref a_bo, .long (f_MD_blockOf_h z_n z_by z_buf)])), (a_buf, .inl (G.2.2.1, 24, .inl z_buf))] H4 := hP
          have hD : va_D A [(a_bl, .inl (G.2.2.2.1, 12, .inr (.inl z_bl))), (a_st, .inl (G.2.2.1, 12, .inl z_st)), (a_fi, .inl (G.2.2.1, 12, .inl z_fi)), (a_ob, .inl (G.2.2.1, 12, .inl z_ob)), (a_si, .inl (G.2.2.2.1, 12, .inr (.inl z_sg))), (y_, .inr (4, [.int (0 : Int32), .long z_n, .long z_m, .long z_d, .long z_a, .long z_b, .long z_v, .int z_ep, .int z_su, .ref a_buf, .int z_by, .int z_mo, .ref a_st, .ref a_bl, .ref a_fi, .ref a_ob, .ref a_si, .ref a_po, .ref a_pr, .ref a_an, .int z_bk, .ref a_bo, .long (f_MD_blockOf_h z_n z_by z_buf)])), (a_buf, .inl (G.2.2.1, 24, .inl z_buf))] := hD
          refine va_last hx hb (xg_k hg hw) hP hD hS 0 1 rfl rfl (xm_mo h23 hQ0 hQ) d_MD_motion_55 (fun H5 L5 hP hD hS => ?_)
          have hP : va_P G.2.1 cl_all [(a_bl, .inl (G.2.2.2.1, 12, .inr (.inl (vp_updL z_bl z_mo.toNatClampNeg (f_MD_blockOf z_n z_by z_buf))))), (a_st, .inl (G.2.2.1, 12, .inl z_st)), (a_fi, .inl (G.2.2.1, 12, .inl z_fi)), (a_ob, .inl (G.2.2.1, 12, .inl z_ob)), (a_si, .inl (G.2.2.2.1, 12, .inr (.inl z_sg))), (y_, .inr (4, [.int (0 : Int32), .long z_n, .long z_m, .long z_d, .long z_a, .long z_b, .long z_v, .int z_ep, .int z_su, .ref a_buf, .int z_by, .int z_mo, .ref a_st, .ref a_bl, .ref a_fi, .ref a_ob, .ref a_si, .ref a_po, .ref a_pr, .ref a_an, .int z_bk, .ref a_bo, .long (f_MD_blockOf_h z_n z_by z_buf)])), (a_buf, .inl (G.2.2.1, 24, .inl z_buf))] H5 := hP
          have hD : va_D A [(a_bl, .inl (G.2.2.2.1, 12, .inr (.inl (vp_updL z_bl z_mo.toNatClampNeg (f_MD_blockOf z_n z_by z_buf))))), (a_st, .inl (G.2.2.1, 12, .inl z_st)), (a_fi, .inl (G.2.2.1, 12, .inl z_fi)), (a_ob, .inl (G.2.2.1, 12, .inl z_ob)), (a_si, .inl (G.2.2.2.1, 12, .inr (.inl z_sg))), (y_, .inr (4, [.int (0 : Int32), .long z_n, .long z_m, .long z_d, .long z_a, .long z_b, .long z_v, .int z_ep, .int z_su, .ref a_buf, .int z_by, .int z_mo, .ref a_st, .ref a_bl, .ref a_fi, .ref a_ob, .ref a_si, .ref a_po, .ref a_pr, .ref a_an, .int z_bk, .ref a_bo, .long (f_MD_blockOf_h z_n z_by z_buf)])), (a_buf, .inl (G.2.2.1, 24, .inl z_buf))] := hD
          refine lv_aload_n hx hb d_MD_motion_56 rfl (lv_at hl 0 rfl) ?_
          refine lv_iconst (v := (0 : Int32)) hx hb d_MD_motion_57 (by decide) ?_
          refine pf_MD_42 hg hw S hP hD hS 5 rfl rfl rfl (Nat.le_of_ble_eq_true rfl) d_MD_motion_58 (fun H6 L6 hP hD hS => ?_)
          have hP : va_P G.2.1 cl_all [(a_bl, .inl (G.2.2.2.1, 12, .inr (.inl (vp_updL z_bl z_mo.toNatClampNeg (f_MD_blockOf z_n z_by z_buf))))), (a_st, .inl (G.2.2.1, 12, .inl z_st)), (a_fi, .inl (G.2.2.1, 12, .inl z_fi)), (a_ob, .inl (G.2.2.1, 12, .inl z_ob)), (a_si, .inl (G.2.2.2.1, 12, .inr (.inl z_sg))), (y_, .inr (4, [.int (0 : Int32), .long z_n, .long z_m, .long z_d, .long z_a, .long z_b, .long z_v, .int z_ep, .int z_su, .ref a_buf, .int (0 : Int32), .int z_mo, .ref a_st, .ref a_bl, .ref a_fi, .ref a_ob, .ref a_si, .ref a_po, .ref a_pr, .ref a_an, .int z_bk, .ref a_bo, .long (f_MD_blockOf_h z_n z_by z_buf)])), (a_buf, .inl (G.2.2.1, 24, .inl z_buf))] H6 := hP
          have hD : va_D A [(a_bl, .inl (G.2.2.2.1, 12, .inr (.inl (vp_updL z_bl z_mo.toNatClampNeg (f_MD_blockOf z_n z_by z_buf))))), (a_st, .inl (G.2.2.1, 12, .inl z_st)), (a_fi, .inl (G.2.2.1, 12, .inl z_fi)), (a_ob, .inl (G.2.2.1, 12, .inl z_ob)), (a_si, .inl (G.2.2.2.1, 12, .inr (.inl z_sg))), (y_, .inr (4, [.int (0 : Int32), .long z_n, .long z_m, .long z_d, .long z_a, .long z_b, .long z_v, .int z_ep, .int z_su, .ref a_buf, .int (0 : Int32), .int z_mo, .ref a_st, .ref a_bl, .ref a_fi, .ref a_ob, .ref a_si, .ref a_po, .ref a_pr, .ref a_an, .int z_bk, .ref a_bo, .long (f_MD_blockOf_h z_n z_by z_buf)])), (a_buf, .inl (G.2.2.1, 24, .inl z_buf))] := hD
          refine lv_aload_n hx hb d_MD_motion_61 rfl (lv_at hl 0 rfl) ?_
          refine gf_MD_48 hg hw S hP 5 rfl rfl d_MD_motion_62 ?_
          refine lv_aload_n hx hb d_MD_motion_65 rfl (lv_at hl 0 rfl) ?_
          refine gf_MD_45 hg hw S hP 5 rfl rfl d_MD_motion_66 ?_
          refine lv_iconst (v := (0 : Int32)) hx hb d_MD_motion_69 (by decide) ?_
          refine va_iast hx hb (xg_k hg hw) hP hD hS 1 0 rfl rfl (xm_mo h23 hQ0 hQ) d_MD_motion_70 (fun H7 L7 hP hD hS => ?_)
          have hP : va_P G.2.1 cl_all [(a_bl, .inl (G.2.2.2.1, 12, .inr (.inl (vp_updL z_bl z_mo.toNatClampNeg (f_MD_blockOf z_n z_by z_buf))))), (a_st, .inl (G.2.2.1, 12, .inl (upd z_st z_mo.toNatClampNeg (0 : Int32)))), (a_fi, .inl (G.2.2.1, 12, .inl z_fi)), (a_ob, .inl (G.2.2.1, 12, .inl z_ob)), (a_si, .inl (G.2.2.2.1, 12, .inr (.inl z_sg))), (y_, .inr (4, [.int (0 : Int32), .long z_n, .long z_m, .long z_d, .long z_a, .long z_b, .long z_v, .int z_ep, .int z_su, .ref a_buf, .int (0 : Int32), .int z_mo, .ref a_st, .ref a_bl, .ref a_fi, .ref a_ob, .ref a_si, .ref a_po, .ref a_pr, .ref a_an, .int z_bk, .ref a_bo, .long (f_MD_blockOf_h z_n z_by z_buf)])), (a_buf, .inl (G.2.2.1, 24, .inl z_buf))] H7 := hP
          have hD : va_D A [(a_bl, .inl (G.2.2.2.1, 12, .inr (.inl (vp_updL z_bl z_mo.toNatClampNeg (f_MD_blockOf z_n z_by z_buf))))), (a_st, .inl (G.2.2.1, 12, .inl (upd z_st z_mo.toNatClampNeg (0 : Int32)))), (a_fi, .inl (G.2.2.1, 12, .inl z_fi)), (a_ob, .inl (G.2.2.1, 12, .inl z_ob)), (a_si, .inl (G.2.2.2.1, 12, .inr (.inl z_sg))), (y_, .inr (4, [.int (0 : Int32), .long z_n, .long z_m, .long z_d, .long z_a, .long z_b, .long z_v, .int z_ep, .int z_su, .ref a_buf, .int (0 : Int32), .int z_mo, .ref a_st, .ref a_bl, .ref a_fi, .ref a_ob, .ref a_si, .ref a_po, .ref a_pr, .ref a_an, .int z_bk, .ref a_bo, .long (f_MD_blockOf_h z_n z_by z_buf)])), (a_buf, .inl (G.2.2.1, 24, .inl z_buf))] := hD
          refine lv_aload_n hx hb d_MD_motion_71 rfl (lv_at hl 0 rfl) ?_
          refine gf_MD_55 hg hw S hP 5 rfl rfl d_MD_motion_72 ?_
          refine lv_aload_n hx hb d_MD_motion_75 rfl (lv_at hl 0 rfl) ?_
          refine gf_MD_45 hg hw S hP 5 rfl rfl d_MD_motion_76 ?_
          refine lv_iconst (v := (0 : Int32)) hx hb d_MD_motion_79 (by decide) ?_
          refine va_iast hx hb (xg_k hg hw) hP hD hS 2 0 rfl rfl (xm_mo h23 hQ0 hQ) d_MD_motion_80 (fun H8 L8 hP hD hS => ?_)
          have hP : va_P G.2.1 cl_all [(a_bl, .inl (G.2.2.2.1, 12, .inr (.inl (vp_updL z_bl z_mo.toNatClampNeg (f_MD_blockOf z_n z_by z_buf))))), (a_st, .inl (G.2.2.1, 12, .inl (upd z_st z_mo.toNatClampNeg (0 : Int32)))), (a_fi, .inl (G.2.2.1, 12, .inl (upd z_fi z_mo.toNatClampNeg (0 : Int32)))), (a_ob, .inl (G.2.2.1, 12, .inl z_ob)), (a_si, .inl (G.2.2.2.1, 12, .inr (.inl z_sg))), (y_, .inr (4, [.int (0 : Int32), .long z_n, .long z_m, .long z_d, .long z_a, .long z_b, .long z_v, .int z_ep, .int z_su, .ref a_buf, .int (0 : Int32), .int z_mo, .ref a_st, .ref a_bl, .ref a_fi, .ref a_ob, .ref a_si, .ref a_po, .ref a_pr, .ref a_an, .int z_bk, .ref a_bo, .long (f_MD_blockOf_h z_n z_by z_buf)])), (a_buf, .inl (G.2.2.1, 24, .inl z_buf))] H8 := hP
          have hD : va_D A [(a_bl, .inl (G.2.2.2.1, 12, .inr (.inl (vp_updL z_bl z_mo.toNatClampNeg (f_MD_blockOf z_n z_by z_buf))))), (a_st, .inl (G.2.2.1, 12, .inl (upd z_st z_mo.toNatClampNeg (0 : Int32)))), (a_fi, .inl (G.2.2.1, 12, .inl (upd z_fi z_mo.toNatClampNeg (0 : Int32)))), (a_ob, .inl (G.2.2.1, 12, .inl z_ob)), (a_si, .inl (G.2.2.2.1, 12, .inr (.inl z_sg))), (y_, .inr (4, [.int (0 : Int32), .long z_n, .long z_m, .long z_d, .long z_a, .long z_b, .long z_v, .int z_ep, .int z_su, .ref a_buf, .int (0 : Int32), .int z_mo, .ref a_st, .ref a_bl, .ref a_fi, .ref a_ob, .ref a_si, .ref a_po, .ref a_pr, .ref a_an, .int z_bk, .ref a_bo, .long (f_MD_blockOf_h z_n z_by z_buf)])), (a_buf, .inl (G.2.2.1, 24, .inl z_buf))] := hD
          refine lv_aload_n hx hb d_MD_motion_81 rfl (lv_at hl 0 rfl) ?_
          refine gf_MD_58 hg hw S hP 5 rfl rfl d_MD_motion_82 ?_
          refine lv_aload_n hx hb d_MD_motion_85 rfl (lv_at hl 0 rfl) ?_
          refine gf_MD_45 hg hw S hP 5 rfl rfl d_MD_motion_86 ?_
          refine lv_iconst (v := (0 : Int32)) hx hb d_MD_motion_89 (by decide) ?_
          refine va_iast hx hb (xg_k hg hw) hP hD hS 3 0 rfl rfl (xm_mo h23 hQ0 hQ) d_MD_motion_90 (fun H9 L9 hP hD hS => ?_)
          have hP : va_P G.2.1 cl_all [(a_bl, .inl (G.2.2.2.1, 12, .inr (.inl (vp_updL z_bl z_mo.toNatClampNeg (f_MD_blockOf z_n z_by z_buf))))), (a_st, .inl (G.2.2.1, 12, .inl (upd z_st z_mo.toNatClampNeg (0 : Int32)))), (a_fi, .inl (G.2.2.1, 12, .inl (upd z_fi z_mo.toNatClampNeg (0 : Int32)))), (a_ob, .inl (G.2.2.1, 12, .inl (upd z_ob z_mo.toNatClampNeg (0 : Int32)))), (a_si, .inl (G.2.2.2.1, 12, .inr (.inl z_sg))), (y_, .inr (4, [.int (0 : Int32), .long z_n, .long z_m, .long z_d, .long z_a, .long z_b, .long z_v, .int z_ep, .int z_su, .ref a_buf, .int (0 : Int32), .int z_mo, .ref a_st, .ref a_bl, .ref a_fi, .ref a_ob, .ref a_si, .ref a_po, .ref a_pr, .ref a_an, .int z_bk, .ref a_bo, .long (f_MD_blockOf_h z_n z_by z_buf)])), (a_buf, .inl (G.2.2.1, 24, .inl z_buf))] H9 := hP
          have hD : va_D A [(a_bl, .inl (G.2.2.2.1, 12, .inr (.inl (vp_updL z_bl z_mo.toNatClampNeg (f_MD_blockOf z_n z_by z_buf))))), (a_st, .inl (G.2.2.1, 12, .inl (upd z_st z_mo.toNatClampNeg (0 : Int32)))), (a_fi, .inl (G.2.2.1, 12, .inl (upd z_fi z_mo.toNatClampNeg (0 : Int32)))), (a_ob, .inl (G.2.2.1, 12, .inl (upd z_ob z_mo.toNatClampNeg (0 : Int32)))), (a_si, .inl (G.2.2.2.1, 12, .inr (.inl z_sg))), (y_, .inr (4, [.int (0 : Int32), .long z_n, .long z_m, .long z_d, .long z_a, .long z_b, .long z_v, .int z_ep, .int z_su, .ref a_buf, .int (0 : Int32), .int z_mo, .ref a_st, .ref a_bl, .ref a_fi, .ref a_ob, .ref a_si, .ref a_po, .ref a_pr, .ref a_an, .int z_bk, .ref a_bo, .long (f_MD_blockOf_h z_n z_by z_buf)])), (a_buf, .inl (G.2.2.1, 24, .inl z_buf))] := hD
          refine lv_aload_n hx hb d_MD_motion_91 rfl (lv_at hl 0 rfl) ?_
          refine gf_MD_61 hg hw S hP 5 rfl rfl d_MD_motion_92 ?_
          refine lv_aload_n hx hb d_MD_motion_95 rfl (lv_at hl 0 rfl) ?_
          refine gf_MD_45 hg hw S hP 5 rfl rfl d_MD_motion_96 ?_
          refine lv_lconst (v := (0 : Int64)) hx hb d_MD_motion_99 (by decide) ?_
          refine va_last hx hb (xg_k hg hw) hP hD hS 4 1 rfl rfl (xm_mo h23 hQ0 hQ) d_MD_motion_100 (fun H10 L10 hP hD hS => ?_)
          have hP : va_P G.2.1 cl_all [(a_bl, .inl (G.2.2.2.1, 12, .inr (.inl (vp_updL z_bl z_mo.toNatClampNeg (f_MD_blockOf z_n z_by z_buf))))), (a_st, .inl (G.2.2.1, 12, .inl (upd z_st z_mo.toNatClampNeg (0 : Int32)))), (a_fi, .inl (G.2.2.1, 12, .inl (upd z_fi z_mo.toNatClampNeg (0 : Int32)))), (a_ob, .inl (G.2.2.1, 12, .inl (upd z_ob z_mo.toNatClampNeg (0 : Int32)))), (a_si, .inl (G.2.2.2.1, 12, .inr (.inl (vp_updL z_sg z_mo.toNatClampNeg (0 : Int64))))), (y_, .inr (4, [.int (0 : Int32), .long z_n, .long z_m, .long z_d, .long z_a, .long z_b, .long z_v, .int z_ep, .int z_su, .ref a_buf, .int (0 : Int32), .int z_mo, .ref a_st, .ref a_bl, .ref a_fi, .ref a_ob, .ref a_si, .ref a_po, .ref a_pr, .ref a_an, .int z_bk, .ref a_bo, .long (f_MD_blockOf_h z_n z_by z_buf)])), (a_buf, .inl (G.2.2.1, 24, .inl z_buf))] H10 := hP
          have hD : va_D A [(a_bl, .inl (G.2.2.2.1, 12, .inr (.inl (vp_updL z_bl z_mo.toNatClampNeg (f_MD_blockOf z_n z_by z_buf))))), (a_st, .inl (G.2.2.1, 12, .inl (upd z_st z_mo.toNatClampNeg (0 : Int32)))), (a_fi, .inl (G.2.2.1, 12, .inl (upd z_fi z_mo.toNatClampNeg (0 : Int32)))), (a_ob, .inl (G.2.2.1, 12, .inl (upd z_ob z_mo.toNatClampNeg (0 : Int32)))), (a_si, .inl (G.2.2.2.1, 12, .inr (.inl (vp_updL z_sg z_mo.toNatClampNeg (0 : Int64))))), (y_, .inr (4, [.int (0 : Int32), .long z_n, .long z_m, .long z_d, .long z_a, .long z_b, .long z_v, .int z_ep, .int z_su, .ref a_buf, .int (0 : Int32), .int z_mo, .ref a_st, .ref a_bl, .ref a_fi, .ref a_ob, .ref a_si, .ref a_po, .ref a_pr, .ref a_an, .int z_bk, .ref a_bo, .long (f_MD_blockOf_h z_n z_by z_buf)])), (a_buf, .inl (G.2.2.1, 24, .inl z_buf))] := hD
          refine lv_aload_n hx hb d_MD_motion_101 rfl (lv_at hl 0 rfl) ?_
          refine lv_dup hx hb d_MD_motion_102 rfl ?_
          refine gf_MD_45 hg hw S hP 5 rfl rfl d_MD_motion_103 ?_
          refine lv_iconst (v := (1 : Int32)) hx hb d_MD_motion_106 (by decide) ?_
          refine lv_iadd hx hb d_MD_motion_107 ?_
          refine pf_MD_45 hg hw S hP hD hS 5 rfl rfl rfl (Nat.le_of_ble_eq_true rfl) d_MD_motion_108 (fun H11 L11 hP hD hS => ?_)
          have hP : va_P G.2.1 cl_all [(a_bl, .inl (G.2.2.2.1, 12, .inr (.inl (vp_updL z_bl z_mo.toNatClampNeg (f_MD_blockOf z_n z_by z_buf))))), (a_st, .inl (G.2.2.1, 12, .inl (upd z_st z_mo.toNatClampNeg (0 : Int32)))), (a_fi, .inl (G.2.2.1, 12, .inl (upd z_fi z_mo.toNatClampNeg (0 : Int32)))), (a_ob, .inl (G.2.2.1, 12, .inl (upd z_ob z_mo.toNatClampNeg (0 : Int32)))), (a_si, .inl (G.2.2.2.1, 12, .inr (.inl (vp_updL z_sg z_mo.toNatClampNeg (0 : Int64))))), (y_, .inr (4, [.int (0 : Int32), .long z_n, .long z_m, .long z_d, .long z_a, .long z_b, .long z_v, .int z_ep, .int z_su, .ref a_buf, .int (0 : Int32), .int (z_mo + (1 : Int32)), .ref a_st, .ref a_bl, .ref a_fi, .ref a_ob, .ref a_si, .ref a_po, .ref a_pr, .ref a_an, .int z_bk, .ref a_bo, .long (f_MD_blockOf_h z_n z_by z_buf)])), (a_buf, .inl (G.2.2.1, 24, .inl z_buf))] H11 := hP
          have hD : va_D A [(a_bl, .inl (G.2.2.2.1, 12, .inr (.inl (vp_updL z_bl z_mo.toNatClampNeg (f_MD_blockOf z_n z_by z_buf))))), (a_st, .inl (G.2.2.1, 12, .inl (upd z_st z_mo.toNatClampNeg (0 : Int32)))), (a_fi, .inl (G.2.2.1, 12, .inl (upd z_fi z_mo.toNatClampNeg (0 : Int32)))), (a_ob, .inl (G.2.2.1, 12, .inl (upd z_ob z_mo.toNatClampNeg (0 : Int32)))), (a_si, .inl (G.2.2.2.1, 12, .inr (.inl (vp_updL z_sg z_mo.toNatClampNeg (0 : Int64))))), (y_, .inr (4, [.int (0 : Int32), .long z_n, .long z_m, .long z_d, .long z_a, .long z_b, .long z_v, .int z_ep, .int z_su, .ref a_buf, .int (0 : Int32), .int (z_mo + (1 : Int32)), .ref a_st, .ref a_bl, .ref a_fi, .ref a_ob, .ref a_si, .ref a_po, .ref a_pr, .ref a_an, .int z_bk, .ref a_bo, .long (f_MD_blockOf_h z_n z_by z_buf)])), (a_buf, .inl (G.2.2.1, 24, .inl z_buf))] := hD
          refine lv_aload_n hx hb d_MD_motion_111 rfl (lv_at hl 0 rfl) ?_
          refine gf_MD_45 hg hw S hP 5 rfl rfl d_MD_motion_112 ?_
          refine lv_iconst (v := (1 : Int32)) hx hb d_MD_motion_115 (by decide) ?_
          refine lv_isub hx hb d_MD_motion_116 ?_
          subst hr0
          subst hr1
          subst hr2
          subst hr3
          subst hr4
          subst hr5
          subst hr6
          subst hr7
          subst hr8
          subst hr9
          have hP := hP.sub (ws' := [(y_, .inr (4, [.int (0 : Int32), .long z_n, .long z_m, .long z_d, .long z_a, .long z_b, .long z_v, .int z_ep, .int z_su, .ref a_buf, .int (0 : Int32), .int (z_mo + (1 : Int32)), .ref a_st, .ref a_bl, .ref a_fi, .ref a_ob, .ref a_si, .ref a_po, .ref a_pr, .ref a_an, .int z_bk, .ref a_bo, .long (f_MD_blockOf_h z_n z_by z_buf)])), (a_buf, .inl (G.2.2.1, 24, .inl z_buf)), (a_bl, .inl (G.2.2.2.1, 12, .inr (.inl (vp_updL z_bl z_mo.toNatClampNeg (f_MD_blockOf z_n z_by z_buf))))), (a_st, .inl (G.2.2.1, 12, .inl (upd z_st z_mo.toNatClampNeg (0 : Int32)))), (a_fi, .inl (G.2.2.1, 12, .inl (upd z_fi z_mo.toNatClampNeg (0 : Int32)))), (a_ob, .inl (G.2.2.1, 12, .inl (upd z_ob z_mo.toNatClampNeg (0 : Int32)))), (a_si, .inl (G.2.2.2.1, 12, .inr (.inl (vp_updL z_sg z_mo.toNatClampNeg (0 : Int64)))))]) [5, 6, 0, 1, 2, 3, 4] rfl
          have hD := hD.sub (ws' := [(y_, .inr (4, [.int (0 : Int32), .long z_n, .long z_m, .long z_d, .long z_a, .long z_b, .long z_v, .int z_ep, .int z_su, .ref a_buf, .int (0 : Int32), .int (z_mo + (1 : Int32)), .ref a_st, .ref a_bl, .ref a_fi, .ref a_ob, .ref a_si, .ref a_po, .ref a_pr, .ref a_an, .int z_bk, .ref a_bo, .long (f_MD_blockOf_h z_n z_by z_buf)])), (a_buf, .inl (G.2.2.1, 24, .inl z_buf)), (a_bl, .inl (G.2.2.2.1, 12, .inr (.inl (vp_updL z_bl z_mo.toNatClampNeg (f_MD_blockOf z_n z_by z_buf))))), (a_st, .inl (G.2.2.1, 12, .inl (upd z_st z_mo.toNatClampNeg (0 : Int32)))), (a_fi, .inl (G.2.2.1, 12, .inl (upd z_fi z_mo.toNatClampNeg (0 : Int32)))), (a_ob, .inl (G.2.2.1, 12, .inl (upd z_ob z_mo.toNatClampNeg (0 : Int32)))), (a_si, .inl (G.2.2.2.1, 12, .inr (.inl (vp_updL z_sg z_mo.toNatClampNeg (0 : Int64)))))]) [5, 6, 0, 1, 2, 3, 4] (by decide) rfl
          exact xw_iret hx hb ht hl0 hP hD hS d_MD_motion_117
        · exact absurd h38 (by decide)
      · rw [if_pos h23] at hr0
        rw [if_pos h23] at hr1
        rw [if_pos h23] at hr2
        rw [if_pos h23] at hr3
        rw [if_pos h23] at hr4
        rw [if_pos h23] at hr5
        rw [if_pos h23] at hr6
        rw [if_pos h23] at hr7
        rw [if_pos h23] at hr8
        rw [if_pos h23] at hr9
        refine lv_iconst (v := (1 : Int32)) hx hb d_MD_motion_26 (by decide) ?_
        refine lv_goto hx hb d_MD_motion_27 (tgt := 31) (by decide) ?_
        refine pf_MD_7 hg hw S hP hD hS 0 rfl rfl rfl (Nat.le_of_ble_eq_true rfl) d_MD_motion_31 (fun H12 L12 hP hD hS => ?_)
        have hP : va_P G.2.1 cl_all [(y_, .inr (4, [.int (1 : Int32), .long z_n, .long z_m, .long z_d, .long z_a, .long z_b, .long z_v, .int z_ep, .int z_su, .ref a_buf, .int z_by, .int z_mo, .ref a_st, .ref a_bl, .ref a_fi, .ref a_ob, .ref a_si, .ref a_po, .ref a_pr, .ref a_an, .int z_bk, .ref a_bo, .long z_h])), (a_buf, .inl (G.2.2.1, 24, .inl z_buf)), (a_bl, .inl (G.2.2.2.1, 12, .inr (.inl z_bl))), (a_st, .inl (G.2.2.1, 12, .inl z_st)), (a_fi, .inl (G.2.2.1, 12, .inl z_fi)), (a_ob, .inl (G.2.2.1, 12, .inl z_ob)), (a_si, .inl (G.2.2.2.1, 12, .inr (.inl z_sg)))] H12 := hP
        have hD : va_D A [(y_, .inr (4, [.int (1 : Int32), .long z_n, .long z_m, .long z_d, .long z_a, .long z_b, .long z_v, .int z_ep, .int z_su, .ref a_buf, .int z_by, .int z_mo, .ref a_st, .ref a_bl, .ref a_fi, .ref a_ob, .ref a_si, .ref a_po, .ref a_pr, .ref a_an, .int z_bk, .ref a_bo, .long z_h])), (a_buf, .inl (G.2.2.1, 24, .inl z_buf)), (a_bl, .inl (G.2.2.2.1, 12, .inr (.inl z_bl))), (a_st, .inl (G.2.2.1, 12, .inl z_st)), (a_fi, .inl (G.2.2.1, 12, .inl z_fi)), (a_ob, .inl (G.2.2.1, 12, .inl z_ob)), (a_si, .inl (G.2.2.2.1, 12, .inr (.inl z_sg)))] := hD
        refine lv_aload_n hx hb d_MD_motion_34 rfl (lv_at hl 0 rfl) ?_
        refine gf_MD_7 hg hw S hP 0 rfl rfl d_MD_motion_35 ?_
        refine lv_if_eq hx hb d_MD_motion_38 (tgt := 43) (by decide) (fun h38 => ?_) (fun h38 => ?_)
        · exact absurd h38 (by decide)
        · refine lv_iconst (v := (0 : Int32)) hx hb d_MD_motion_41 (by decide) ?_
          subst hr0
          subst hr1
          subst hr2
          subst hr3
          subst hr4
          subst hr5
          subst hr6
          subst hr7
          subst hr8
          subst hr9
          exact xw_iret hx hb ht hl0 hP hD hS d_MD_motion_42
def f_MD_consent_thrownCode (motion : Int32) (trustee : Int32) (z_su : Int32) (z_mo : Int32) (z_st : Nat → Int32) (z_fi : Nat → Int32) (z_ob : Nat → Int32) : Int32 := if (f_MD_isMotion motion z_mo) = 0 then (1 : Int32) else (if (f_MD_isTrustee trustee) = 0 then (1 : Int32) else (if (z_st motion.toNatClampNeg) = 0 then (if ((z_su >>> (trustee &&& 31)) &&& (1 : Int32)) = (1 : Int32) then (2 : Int32) else (if (f_MD_voice motion trustee z_fi z_ob) = 0 then (0 : Int32) else (2 : Int32))) else (2 : Int32)))
def f_MD_consent_h (motion : Int32) (trustee : Int32) (z_n : Int64) (z_m : Int64) (z_d : Int64) (z_a : Int64) (z_b : Int64) (z_v : Int64) (z_ep : Int32) (z_su : Int32) (z_mo : Int32) (z_h : Int64) (z_st : Nat → Int32) (z_fi : Nat → Int32) (z_ob : Nat → Int32) (z_bl : Nat → Int64) : Int64 := if (f_MD_isMotion motion z_mo) = 0 then z_h else (if (f_MD_isTrustee trustee) = 0 then z_h else (if (z_st motion.toNatClampNeg) = 0 then (if ((z_su >>> (trustee &&& 31)) &&& (1 : Int32)) = (1 : Int32) then z_h else (if (f_MD_voice motion trustee z_fi z_ob) = 0 then (f_MD_make_h motion trustee z_n z_m z_d z_a z_b z_v z_ep z_bl) else z_h)) else z_h))
def f_MD_consent_a_fi (motion : Int32) (trustee : Int32) (z_su : Int32) (z_mo : Int32) (z_st : Nat → Int32) (z_fi : Nat → Int32) (z_ob : Nat → Int32) : Nat → Int32 := if (f_MD_isMotion motion z_mo) = 0 then z_fi else (if (f_MD_isTrustee trustee) = 0 then z_fi else (if (z_st motion.toNatClampNeg) = 0 then (if ((z_su >>> (trustee &&& 31)) &&& (1 : Int32)) = (1 : Int32) then z_fi else (if (f_MD_voice motion trustee z_fi z_ob) = 0 then (upd z_fi motion.toNatClampNeg ((z_fi motion.toNatClampNeg) ||| ((1 : Int32) <<< (trustee &&& 31)))) else z_fi)) else z_fi))
def f_MD_consent_a_po (motion : Int32) (trustee : Int32) (z_n : Int64) (z_m : Int64) (z_d : Int64) (z_a : Int64) (z_b : Int64) (z_su : Int32) (z_mo : Int32) (z_st : Nat → Int32) (z_fi : Nat → Int32) (z_ob : Nat → Int32) (z_bl : Nat → Int64) (z_po : Nat → Int64) : Nat → Int64 := if (f_MD_isMotion motion z_mo) = 0 then z_po else (if (f_MD_isTrustee trustee) = 0 then z_po else (if (z_st motion.toNatClampNeg) = 0 then (if ((z_su >>> (trustee &&& 31)) &&& (1 : Int32)) = (1 : Int32) then z_po else (if (f_MD_voice motion trustee z_fi z_ob) = 0 then (f_MD_make_a_po motion trustee z_n z_m z_d z_a z_b z_bl z_po) else z_po)) else z_po))
def f_MD_consent_a_pr (motion : Int32) (trustee : Int32) (z_n : Int64) (z_m : Int64) (z_d : Int64) (z_a : Int64) (z_b : Int64) (z_v : Int64) (z_ep : Int32) (z_su : Int32) (z_mo : Int32) (z_st : Nat → Int32) (z_fi : Nat → Int32) (z_ob : Nat → Int32) (z_bl : Nat → Int64) (z_pr : Nat → Int32) : Nat → Int32 := if (f_MD_isMotion motion z_mo) = 0 then z_pr else (if (f_MD_isTrustee trustee) = 0 then z_pr else (if (z_st motion.toNatClampNeg) = 0 then (if ((z_su >>> (trustee &&& 31)) &&& (1 : Int32)) = (1 : Int32) then z_pr else (if (f_MD_voice motion trustee z_fi z_ob) = 0 then (f_MD_make_a_pr motion trustee z_n z_m z_d z_a z_b z_v z_ep z_bl z_pr) else z_pr)) else z_pr))
def f_MD_consent_a_an (motion : Int32) (trustee : Int32) (z_n : Int64) (z_m : Int64) (z_d : Int64) (z_a : Int64) (z_b : Int64) (z_v : Int64) (z_ep : Int32) (z_su : Int32) (z_mo : Int32) (z_st : Nat → Int32) (z_fi : Nat → Int32) (z_ob : Nat → Int32) (z_bl : Nat → Int64) (z_an : Nat → Int64) : Nat → Int64 := if (f_MD_isMotion motion z_mo) = 0 then z_an else (if (f_MD_isTrustee trustee) = 0 then z_an else (if (z_st motion.toNatClampNeg) = 0 then (if ((z_su >>> (trustee &&& 31)) &&& (1 : Int32)) = (1 : Int32) then z_an else (if (f_MD_voice motion trustee z_fi z_ob) = 0 then (f_MD_make_a_an motion trustee z_n z_m z_d z_a z_b z_v z_ep z_bl z_an) else z_an)) else z_an))
set_option maxHeartbeats 4000000 in
set_option maxRecDepth 100000 in
theorem ct_MD_consent (l : Launch) {G : xg_G} (hg : xg_F G) (H : Heap) (y_ : Nat) (motion : Int32) (trustee : Int32) (z_th : Int32) (z_n : Int64) (z_m : Int64) (z_d : Int64) (z_a : Int64) (z_b : Int64) (z_v : Int64) (z_ep : Int32) (z_su : Int32) (a_buf : Nat) (z_by : Int32) (z_mo : Int32) (a_st : Nat) (a_bl : Nat) (a_fi : Nat) (a_ob : Nat) (a_si : Nat) (a_po : Nat) (a_pr : Nat) (a_an : Nat) (z_bk : Int32) (a_bo : Nat) (z_h : Int64) (z_st : Nat → Int32) (z_fi : Nat → Int32) (z_ob : Nat → Int32) (z_bl : Nat → Int64) (z_po : Nat → Int64) (z_pr : Nat → Int32) (z_an : Nat → Int64) (hP : va_P G.2.1 cl_all [(y_, .inr (4, [.int z_th, .long z_n, .long z_m, .long z_d, .long z_a, .long z_b, .long z_v, .int z_ep, .int z_su, .ref a_buf, .int z_by, .int z_mo, .ref a_st, .ref a_bl, .ref a_fi, .ref a_ob, .ref a_si, .ref a_po, .ref a_pr, .ref a_an, .int z_bk, .ref a_bo, .long z_h])), (a_st, .inl (G.2.2.1, 12, .inl z_st)), (a_fi, .inl (G.2.2.1, 12, .inl z_fi)), (a_ob, .inl (G.2.2.1, 12, .inl z_ob)), (a_bl, .inl (G.2.2.2.1, 12, .inr (.inl z_bl))), (a_po, .inl (G.2.2.2.1, 72, .inr (.inl z_po))), (a_pr, .inl (G.2.2.1, 72, .inl z_pr)), (a_an, .inl (G.2.2.2.1, 72, .inr (.inl z_an)))] H) (hD0 : va_D (fun _ => True) [(y_, .inr (4, [.int z_th, .long z_n, .long z_m, .long z_d, .long z_a, .long z_b, .long z_v, .int z_ep, .int z_su, .ref a_buf, .int z_by, .int z_mo, .ref a_st, .ref a_bl, .ref a_fi, .ref a_ob, .ref a_si, .ref a_po, .ref a_pr, .ref a_an, .int z_bk, .ref a_bo, .long z_h])), (a_st, .inl (G.2.2.1, 12, .inl z_st)), (a_fi, .inl (G.2.2.1, 12, .inl z_fi)), (a_ob, .inl (G.2.2.1, 12, .inl z_ob)), (a_bl, .inl (G.2.2.2.1, 12, .inr (.inl z_bl))), (a_po, .inl (G.2.2.2.1, 72, .inr (.inl z_po))), (a_pr, .inl (G.2.2.1, 72, .inl z_pr)), (a_an, .inl (G.2.2.2.1, 72, .inr (.inl z_an)))]) (hQ : z_mo.toInt ≤ 12) (hN : ¬ f_MD_isMotion motion z_mo = 0 → ¬ z_m = 0 ∧ ¬ z_n = 0) : xc_Met l y_MD_consent (.code y_MD_consent b_MD_consent 3 none) ({ frames := 3, cells := 0, slots := 0, locals := 64 } : Room) (xg_Pc G [.ref y_, .int motion, .int trustee] H) (xw_post G (va_A [(y_, .inr (4, [.int z_th, .long z_n, .long z_m, .long z_d, .long z_a, .long z_b, .long z_v, .int z_ep, .int z_su, .ref a_buf, .int z_by, .int z_mo, .ref a_st, .ref a_bl, .ref a_fi, .ref a_ob, .ref a_si, .ref a_po, .ref a_pr, .ref a_an, .int z_bk, .ref a_bo, .long z_h])), (a_st, .inl (G.2.2.1, 12, .inl z_st)), (a_fi, .inl (G.2.2.1, 12, .inl z_fi)), (a_ob, .inl (G.2.2.1, 12, .inl z_ob)), (a_bl, .inl (G.2.2.2.1, 12, .inr (.inl z_bl))), (a_po, .inl (G.2.2.2.1, 72, .inr (.inl z_po))), (a_pr, .inl (G.2.2.1, 72, .inl z_pr)), (a_an, .inl (G.2.2.2.1, 72, .inr (.inl z_an)))] H.size) none [(y_, .inr (4, [.int (f_MD_consent_thrownCode motion trustee z_su z_mo z_st z_fi z_ob), .long z_n, .long z_m, .long z_d, .long z_a, .long z_b, .long z_v, .int z_ep, .int z_su, .ref a_buf, .int z_by, .int z_mo, .ref a_st, .ref a_bl, .ref a_fi, .ref a_ob, .ref a_si, .ref a_po, .ref a_pr, .ref a_an, .int z_bk, .ref a_bo, .long (f_MD_consent_h motion trustee z_n z_m z_d z_a z_b z_v z_ep z_su z_mo z_h z_st z_fi z_ob z_bl)])), (a_st, .inl (G.2.2.1, 12, .inl z_st)), (a_fi, .inl (G.2.2.1, 12, .inl (f_MD_consent_a_fi motion trustee z_su z_mo z_st z_fi z_ob))), (a_ob, .inl (G.2.2.1, 12, .inl z_ob)), (a_bl, .inl (G.2.2.2.1, 12, .inr (.inl z_bl))), (a_po, .inl (G.2.2.2.1, 72, .inr (.inl (f_MD_consent_a_po motion trustee z_n z_m z_d z_a z_b z_su z_mo z_st z_fi z_ob z_bl z_po)))), (a_pr, .inl (G.2.2.1, 72, .inl (f_MD_consent_a_pr motion trustee z_n z_m z_d z_a z_b z_v z_ep z_su z_mo z_st z_fi z_ob z_bl z_pr))), (a_an, .inl (G.2.2.2.1, 72, .inr (.inl (f_MD_consent_a_an motion trustee z_n z_m z_d z_a z_b z_v z_ep z_su z_mo z_st z_fi z_ob z_bl z_an))))]) (va_A [(y_, .inr (4, [.int z_th, .long z_n, .long z_m, .long z_d, .long z_a, .long z_b, .long z_v, .int z_ep, .int z_su, .ref a_buf, .int z_by, .int z_mo, .ref a_st, .ref a_bl, .ref a_fi, .ref a_ob, .ref a_si, .ref a_po, .ref a_pr, .ref a_an, .int z_bk, .ref a_bo, .long z_h])), (a_st, .inl (G.2.2.1, 12, .inl z_st)), (a_fi, .inl (G.2.2.1, 12, .inl z_fi)), (a_ob, .inl (G.2.2.1, 12, .inl z_ob)), (a_bl, .inl (G.2.2.2.1, 12, .inr (.inl z_bl))), (a_po, .inl (G.2.2.2.1, 72, .inr (.inl z_po))), (a_pr, .inl (G.2.2.1, 72, .inl z_pr)), (a_an, .inl (G.2.2.2.1, 72, .inr (.inl z_an)))] H.size) := by
  refine xc_ofW (by decide) ?_
  intro p e s m args below meth c s₁ B hml hE hv
  obtain ⟨rfl, rfl, hw⟩ := hv
  have hx := B.exec
  have hb := B.bytes
  have ht := B.returns
  have hl0 := B.notSynchronized
  have S : xc_Fix p m c b_MD_consent 3 s "SealTrustModel" := ⟨hx, hb, hml, findClass_of_methodNamed B.named⟩
  have hD := hD0.self (sz := s.heap.size)
  generalize hAe : va_A [(y_, .inr (4, [.int z_th, .long z_n, .long z_m, .long z_d, .long z_a, .long z_b, .long z_v, .int z_ep, .int z_su, .ref a_buf, .int z_by, .int z_mo, .ref a_st, .ref a_bl, .ref a_fi, .ref a_ob, .ref a_si, .ref a_po, .ref a_pr, .ref a_an, .int z_bk, .ref a_bo, .long z_h])), (a_st, .inl (G.2.2.1, 12, .inl z_st)), (a_fi, .inl (G.2.2.1, 12, .inl z_fi)), (a_ob, .inl (G.2.2.1, 12, .inl z_ob)), (a_bl, .inl (G.2.2.2.1, 12, .inr (.inl z_bl))), (a_po, .inl (G.2.2.2.1, 72, .inr (.inl z_po))), (a_pr, .inl (G.2.2.1, 72, .inl z_pr)), (a_an, .inl (G.2.2.2.1, 72, .inr (.inl z_an)))] s.heap.size = A at hD ⊢
  have hA : ∀ q : Nat, s.heap.size ≤ q → A q := fun q h => by rw [← hAe]; exact Or.inr h
  have hS : va_S A s.heap s.heap [] := va_S.rf
  have hl := lv_entry ([.ref y_, .int motion, .int trustee]) (n := 3) (Nat.le_of_ble_eq_true rfl)
  rw [lg_entry_eq]
  generalize (lg_sl ([.ref y_, .int motion, .int trustee]) ++ List.replicate (3 - (lg_sl ([.ref y_, .int motion, .int trustee])).length) Slot.unset).toArray = ls at hl ⊢
  have hl : lv_has ls 3 [(0, .ref y_), (1, .int motion), (2, .int trustee)] := hl
  obtain ⟨r0, hr0⟩ : ∃ r, f_MD_consent_thrownCode motion trustee z_su z_mo z_st z_fi z_ob = r := ⟨_, rfl⟩
  rw [hr0]
  unfold f_MD_consent_thrownCode at hr0
  obtain ⟨r1, hr1⟩ : ∃ r, f_MD_consent_h motion trustee z_n z_m z_d z_a z_b z_v z_ep z_su z_mo z_h z_st z_fi z_ob z_bl = r := ⟨_, rfl⟩
  rw [hr1]
  unfold f_MD_consent_h at hr1
  obtain ⟨r2, hr2⟩ : ∃ r, f_MD_consent_a_fi motion trustee z_su z_mo z_st z_fi z_ob = r := ⟨_, rfl⟩
  rw [hr2]
  unfold f_MD_consent_a_fi at hr2
  obtain ⟨r3, hr3⟩ : ∃ r, f_MD_consent_a_po motion trustee z_n z_m z_d z_a z_b z_su z_mo z_st z_fi z_ob z_bl z_po = r := ⟨_, rfl⟩
  rw [hr3]
  unfold f_MD_consent_a_po at hr3
  obtain ⟨r4, hr4⟩ : ∃ r, f_MD_consent_a_pr motion trustee z_n z_m z_d z_a z_b z_v z_ep z_su z_mo z_st z_fi z_ob z_bl z_pr = r := ⟨_, rfl⟩
  rw [hr4]
  unfold f_MD_consent_a_pr at hr4
  obtain ⟨r5, hr5⟩ : ∃ r, f_MD_consent_a_an motion trustee z_n z_m z_d z_a z_b z_v z_ep z_su z_mo z_st z_fi z_ob z_bl z_an = r := ⟨_, rfl⟩
  rw [hr5]
  unfold f_MD_consent_a_an at hr5
  refine lv_aload_n hx hb d_MD_consent_0 rfl (lv_at hl 0 rfl) ?_
  refine lv_aload_n hx hb d_MD_consent_1 rfl (lv_at hl 0 rfl) ?_
  refine lv_iload_n hx hb d_MD_consent_2 rfl (lv_at hl 1 rfl) ?_
  refine xg_read (xg_runV (rest := [.ref y_]) (kw := 1) si_MD_142 hg hw S (va_recv (xg_k hg hw) hP (ci := 4) rfl (q0 := 0) rfl) (ct_MD_isMotion l hg s.heap y_ motion z_th z_n z_m z_d z_a z_b z_v z_ep z_su a_buf z_by z_mo a_st a_bl a_fi a_ob a_si a_po a_pr a_an z_bk a_bo z_h (hP.sub [0] rfl) ) ⟨by decide, by decide, by decide, by decide⟩ rfl hl.1 rfl (Nat.le_of_ble_eq_true rfl) d_MD_consent_3) ?_
  refine lv_if_eq hx hb d_MD_consent_6 (tgt := 16) (by decide) (fun h6 => ?_) (fun h6 => ?_)
  · rw [if_pos h6] at hr0
    rw [if_pos h6] at hr1
    rw [if_pos h6] at hr2
    rw [if_pos h6] at hr3
    rw [if_pos h6] at hr4
    rw [if_pos h6] at hr5
    refine lv_iconst (v := (1 : Int32)) hx hb d_MD_consent_16 (by decide) ?_
    refine lv_goto hx hb d_MD_consent_17 (tgt := 55) (by decide) ?_
    refine pf_MD_7 hg hw S hP hD hS 0 rfl rfl rfl (Nat.le_of_ble_eq_true rfl) d_MD_consent_55 (fun H1 L1 hP hD hS => ?_)
    have hP : va_P G.2.1 cl_all [(y_, .inr (4, [.int (1 : Int32), .long z_n, .long z_m, .long z_d, .long z_a, .long z_b, .long z_v, .int z_ep, .int z_su, .ref a_buf, .int z_by, .int z_mo, .ref a_st, .ref a_bl, .ref a_fi, .ref a_ob, .ref a_si, .ref a_po, .ref a_pr, .ref a_an, .int z_bk, .ref a_bo, .long z_h])), (a_st, .inl (G.2.2.1, 12, .inl z_st)), (a_fi, .inl (G.2.2.1, 12, .inl z_fi)), (a_ob, .inl (G.2.2.1, 12, .inl z_ob)), (a_bl, .inl (G.2.2.2.1, 12, .inr (.inl z_bl))), (a_po, .inl (G.2.2.2.1, 72, .inr (.inl z_po))), (a_pr, .inl (G.2.2.1, 72, .inl z_pr)), (a_an, .inl (G.2.2.2.1, 72, .inr (.inl z_an)))] H1 := hP
    have hD : va_D A [(y_, .inr (4, [.int (1 : Int32), .long z_n, .long z_m, .long z_d, .long z_a, .long z_b, .long z_v, .int z_ep, .int z_su, .ref a_buf, .int z_by, .int z_mo, .ref a_st, .ref a_bl, .ref a_fi, .ref a_ob, .ref a_si, .ref a_po, .ref a_pr, .ref a_an, .int z_bk, .ref a_bo, .long z_h])), (a_st, .inl (G.2.2.1, 12, .inl z_st)), (a_fi, .inl (G.2.2.1, 12, .inl z_fi)), (a_ob, .inl (G.2.2.1, 12, .inl z_ob)), (a_bl, .inl (G.2.2.2.1, 12, .inr (.inl z_bl))), (a_po, .inl (G.2.2.2.1, 72, .inr (.inl z_po))), (a_pr, .inl (G.2.2.1, 72, .inl z_pr)), (a_an, .inl (G.2.2.2.1, 72, .inr (.inl z_an)))] := hD
    refine lv_aload_n hx hb d_MD_consent_58 rfl (lv_at hl 0 rfl) ?_
    refine gf_MD_7 hg hw S hP 0 rfl rfl d_MD_consent_59 ?_
    refine lv_if_eq hx hb d_MD_consent_62 (tgt := 66) (by decide) (fun h62 => ?_) (fun h62 => ?_)
    · exact absurd h62 (by decide)
    · subst hr0
      subst hr1
      subst hr2
      subst hr3
      subst hr4
      subst hr5
      exact xw_vret hx hb ht hl0 hP hD hS d_MD_consent_65
  · rw [if_neg h6] at hr0
    rw [if_neg h6] at hr1
    rw [if_neg h6] at hr2
    rw [if_neg h6] at hr3
    rw [if_neg h6] at hr4
    rw [if_neg h6] at hr5
    refine lv_iload_n hx hb d_MD_consent_9 rfl (lv_at hl 2 rfl) ?_
    refine xg_read (xg_runS (rest := [.ref y_]) (kw := 1) si_MD_145 hg hw S (ct_MD_isTrustee l hg s.heap trustee ) ⟨by decide, by decide, by decide, by decide⟩ rfl hl.1 rfl (Nat.le_of_ble_eq_true rfl) d_MD_consent_10) ?_
    refine lv_if_ne hx hb d_MD_consent_13 (tgt := 20) (by decide) (fun h13 => ?_) (fun h13 => ?_)
    · rw [if_neg h13] at hr0
      rw [if_neg h13] at hr1
      rw [if_neg h13] at hr2
      rw [if_neg h13] at hr3
      rw [if_neg h13] at hr4
      rw [if_neg h13] at hr5
      refine lv_aload_n hx hb d_MD_consent_20 rfl (lv_at hl 0 rfl) ?_
      refine gf_MD_48 hg hw S hP 0 rfl rfl d_MD_consent_21 ?_
      refine lv_iload_n hx hb d_MD_consent_24 rfl (lv_at hl 1 rfl) ?_
      refine va_iald hx hb (xg_k hg hw) hP 1 0 rfl rfl (xs_isM h6 hQ) d_MD_consent_25 ?_
      refine lv_if_ne hx hb d_MD_consent_26 (tgt := 50) (by decide) (fun h26 => ?_) (fun h26 => ?_)
      · rw [if_neg h26] at hr0
        rw [if_neg h26] at hr1
        rw [if_neg h26] at hr2
        rw [if_neg h26] at hr3
        rw [if_neg h26] at hr4
        rw [if_neg h26] at hr5
        refine lv_iconst (v := (2 : Int32)) hx hb d_MD_consent_50 (by decide) ?_
        refine lv_goto hx hb d_MD_consent_51 (tgt := 55) (by decide) ?_
        refine pf_MD_7 hg hw S hP hD hS 0 rfl rfl rfl (Nat.le_of_ble_eq_true rfl) d_MD_consent_55 (fun H2 L2 hP hD hS => ?_)
        have hP : va_P G.2.1 cl_all [(y_, .inr (4, [.int (2 : Int32), .long z_n, .long z_m, .long z_d, .long z_a, .long z_b, .long z_v, .int z_ep, .int z_su, .ref a_buf, .int z_by, .int z_mo, .ref a_st, .ref a_bl, .ref a_fi, .ref a_ob, .ref a_si, .ref a_po, .ref a_pr, .ref a_an, .int z_bk, .ref a_bo, .long z_h])), (a_st, .inl (G.2.2.1, 12, .inl z_st)), (a_fi, .inl (G.2.2.1, 12, .inl z_fi)), (a_ob, .inl (G.2.2.1, 12, .inl z_ob)), (a_bl, .inl (G.2.2.2.1, 12, .inr (.inl z_bl))), (a_po, .inl (G.2.2.2.1, 72, .inr (.inl z_po))), (a_pr, .inl (G.2.2.1, 72, .inl z_pr)), (a_an, .inl (G.2.2.2.1, 72, .inr (.inl z_an)))] H2 := hP
        have hD : va_D A [(y_, .inr (4, [.int (2 : Int32), .long z_n, .long z_m, .long z_d, .long z_a, .long z_b, .long z_v, .int z_ep, .int z_su, .ref a_buf, .int z_by, .int z_mo, .ref a_st, .ref a_bl, .ref a_fi, .ref a_ob, .ref a_si, .ref a_po, .ref a_pr, .ref a_an, .int z_bk, .ref a_bo, .long z_h])), (a_st, .inl (G.2.2.1, 12, .inl z_st)), (a_fi, .inl (G.2.2.1, 12, .inl z_fi)), (a_ob, .inl (G.2.2.1, 12, .inl z_ob)), (a_bl, .inl (G.2.2.2.1, 12, .inr (.inl z_bl))), (a_po, .inl (G.2.2.2.1, 72, .inr (.inl z_po))), (a_pr, .inl (G.2.2.1, 72, .inl z_pr)), (a_an, .inl (G.2.2.2.1, 72, .inr (.inl z_an)))] := hD
        refine lv_aload_n hx hb d_MD_consent_58 rfl (lv_at hl 0 rfl) ?_
        refine gf_MD_7 hg hw S hP 0 rfl rfl d_MD_consent_59 ?_
        refine lv_if_eq hx hb d_MD_consent_62 (tgt := 66) (by decide) (fun h62 => ?_) (fun h62 => ?_)
        · exact absurd h62 (by decide)
        · subst hr0
          subst hr1
          subst hr2
          subst hr3
          subst hr4
          subst hr5
          exact xw_vret hx hb ht hl0 hP hD hS d_MD_consent_65
      · rw [if_pos h26] at hr0
        rw [if_pos h26] at hr1
        rw [if_pos h26] at hr2
        rw [if_pos h26] at hr3
        rw [if_pos h26] at hr4
        rw [if_pos h26] at hr5
        refine lv_aload_n hx hb d_MD_consent_29 rfl (lv_at hl 0 rfl) ?_
        refine gf_MD_35 hg hw S hP 0 rfl rfl d_MD_consent_30 ?_
        refine lv_iload_n hx hb d_MD_consent_33 rfl (lv_at hl 2 rfl) ?_
        refine lv_ishr hx hb d_MD_consent_34 ?_
        refine lv_iconst (v := (1 : Int32)) hx hb d_MD_consent_35 (by decide) ?_
        refine lv_iand hx hb d_MD_consent_36 ?_
        refine lv_iconst (v := (1 : Int32)) hx hb d_MD_consent_37 (by decide) ?_
        refine lv_icmp_eq hx hb d_MD_consent_38 (tgt := 50) (by decide) (fun h38 => ?_) (fun h38 => ?_)
        · rw [if_pos h38] at hr0
          rw [if_pos h38] at hr1
          rw [if_pos h38] at hr2
          rw [if_pos h38] at hr3
          rw [if_pos h38] at hr4
          rw [if_pos h38] at hr5
          refine lv_iconst (v := (2 : Int32)) hx hb d_MD_consent_50 (by decide) ?_
          refine lv_goto hx hb d_MD_consent_51 (tgt := 55) (by decide) ?_
          refine pf_MD_7 hg hw S hP hD hS 0 rfl rfl rfl (Nat.le_of_ble_eq_true rfl) d_MD_consent_55 (fun H3 L3 hP hD hS => ?_)
          have hP : va_P G.2.1 cl_all [(y_, .inr (4, [.int (2 : Int32), .long z_n, .long z_m, .long z_d, .long z_a, .long z_b, .long z_v, .int z_ep, .int z_su, .ref a_buf, .int z_by, .int z_mo, .ref a_st, .ref a_bl, .ref a_fi, .ref a_ob, .ref a_si, .ref a_po, .ref a_pr, .ref a_an, .int z_bk, .ref a_bo, .long z_h])), (a_st, .inl (G.2.2.1, 12, .inl z_st)), (a_fi, .inl (G.2.2.1, 12, .inl z_fi)), (a_ob, .inl (G.2.2.1, 12, .inl z_ob)), (a_bl, .inl (G.2.2.2.1, 12, .inr (.inl z_bl))), (a_po, .inl (G.2.2.2.1, 72, .inr (.inl z_po))), (a_pr, .inl (G.2.2.1, 72, .inl z_pr)), (a_an, .inl (G.2.2.2.1, 72, .inr (.inl z_an)))] H3 := hP
          have hD : va_D A [(y_, .inr (4, [.int (2 : Int32), .long z_n, .long z_m, .long z_d, .long z_a, .long z_b, .long z_v, .int z_ep, .int z_su, .ref a_buf, .int z_by, .int z_mo, .ref a_st, .ref a_bl, .ref a_fi, .ref a_ob, .ref a_si, .ref a_po, .ref a_pr, .ref a_an, .int z_bk, .ref a_bo, .long z_h])), (a_st, .inl (G.2.2.1, 12, .inl z_st)), (a_fi, .inl (G.2.2.1, 12, .inl z_fi)), (a_ob, .inl (G.2.2.1, 12, .inl z_ob)), (a_bl, .inl (G.2.2.2.1, 12, .inr (.inl z_bl))), (a_po, .inl (G.2.2.2.1, 72, .inr (.inl z_po))), (a_pr, .inl (G.2.2.1, 72, .inl z_pr)), (a_an, .inl (G.2.2.2.1, 72, .inr (.inl z_an)))] := hD
          refine lv_aload_n hx hb d_MD_consent_58 rfl (lv_at hl 0 rfl) ?_
          refine gf_MD_7 hg hw S hP 0 rfl rfl d_MD_consent_59 ?_
          refine lv_if_eq hx hb d_MD_consent_62 (tgt := 66) (by decide) (fun h62 => ?_) (fun h62 => ?_)
          · exact absurd h62 (by decide)
          · subst hr0
            subst hr1
            subst hr2
            subst hr3
            subst hr4
            subst hr5
            exact xw_vret hx hb ht hl0 hP hD hS d_MD_consent_65
        · rw [if_neg h38] at hr0
          rw [if_neg h38] at hr1
          rw [if_neg h38] at hr2
          rw [if_neg h38] at hr3
          rw [if_neg h38] at hr4
          rw [if_neg h38] at hr5
          refine lv_aload_n hx hb d_MD_consent_41 rfl (lv_at hl 0 rfl) ?_
          refine lv_iload_n hx hb d_MD_consent_42 rfl (lv_at hl 1 rfl) ?_
          refine lv_iload_n hx hb d_MD_consent_43 rfl (lv_at hl 2 rfl) ?_
          refine xg_read (xg_runV (rest := [.ref y_]) (kw := 1) si_MD_148 hg hw S (va_recv (xg_k hg hw) hP (ci := 4) rfl (q0 := 0) rfl) (ct_MD_voice l hg s.heap y_ motion trustee z_th z_n z_m z_d z_a z_b z_v z_ep z_su a_buf z_by z_mo a_st a_bl a_fi a_ob a_si a_po a_pr a_an z_bk a_bo z_h z_fi z_ob (hP.sub [0, 2, 3] rfl) (xs_isM h6 hQ)) ⟨by decide, by decide, by decide, by decide⟩ rfl hl.1 rfl (Nat.le_of_ble_eq_true rfl) d_MD_consent_44) ?_
          refine lv_if_eq hx hb d_MD_consent_47 (tgt := 54) (by decide) (fun h47 => ?_) (fun h47 => ?_)
          · rw [if_pos h47] at hr0
            rw [if_pos h47] at hr1
            rw [if_pos h47] at hr2
            rw [if_pos h47] at hr3
            rw [if_pos h47] at hr4
            rw [if_pos h47] at hr5
            refine lv_iconst (v := (0 : Int32)) hx hb d_MD_consent_54 (by decide) ?_
            refine pf_MD_7 hg hw S hP hD hS 0 rfl rfl rfl (Nat.le_of_ble_eq_true rfl) d_MD_consent_55 (fun H4 L4 hP hD hS => ?_)
            have hP : va_P G.2.1 cl_all [(y_, .inr (4, [.int (0 : Int32), .long z_n, .long z_m, .long z_d, .long z_a, .long z_b, .long z_v, .int z_ep, .int z_su, .ref a_buf, .int z_by, .int z_mo, .ref a_st, .ref a_bl, .ref a_fi, .ref a_ob, .ref a_si, .ref a_po, .ref a_pr, .ref a_an, .int z_bk, .ref a_bo, .long z_h])), (a_st, .inl (G.2.2.1, 12, .inl z_st)), (a_fi, .inl (G.2.2.1, 12, .inl z_fi)), (a_ob, .inl (G.2.2.1, 12, .inl z_ob)), (a_bl, .inl (G.2.2.2.1, 12, .inr (.inl z_bl))), (a_po, .inl (G.2.2.2.1, 72, .inr (.inl z_po))), (a_pr, .inl (G.2.2.1, 72, .inl z_pr)), (a_an, .inl (G.2.2.2.1, 72, .inr (.inl z_an)))] H4 := hP
            have hD : va_D A [(y_, .inr (4, [.int (0 : Int32), .long z_n, .long z_m, .long z_d, .long z_a, .long z_b, .long z_v, .int z_ep, .int z_su, .ref a_buf, .int z_by, .int z_mo, .ref a_st, .ref a_bl, .ref a_fi, .ref a_ob, .ref a_si, .ref a_po, .ref a_pr, .ref a_an, .int z_bk, .ref a_bo, .long z_h])), (a_st, .inl (G.2.2.1, 12, .inl z_st)), (a_fi, .inl (G.2.2.1, 12, .inl z_fi)), (a_ob, .inl (G.2.2.1, 12, .inl z_ob)), (a_bl, .inl (G.2.2.2.1, 12, .inr (.inl z_bl))), (a_po, .inl (G.2.2.2.1, 72, .inr (.inl z_po))), (a_pr, .inl (G.2.2.1, 72, .inl z_pr)), (a_an, .inl (G.2.2.2.1, 72, .inr (.inl z_an)))] := hD
            refine lv_aload_n hx hb d_MD_consent_58 rfl (lv_at hl 0 rfl) ?_
            refine gf_MD_7 hg hw S hP 0 rfl rfl d_MD_consent_59 ?_
            refine lv_if_eq hx hb d_MD_consent_62 (tgt := 66) (by decide) (fun h62 => ?_) (fun h62 => ?_)
            · refine lv_aload_n hx hb d_MD_consent_66 rfl (lv_at hl 0 rfl) ?_
              refine lv_iload_n hx hb d_MD_consent_67 rfl (lv_at hl 1 rfl) ?_
              refine lv_iload_n hx hb d_MD_consent_68 rfl (lv_at hl 2 rfl) ?_
              refine xw_use (wc := [(y_, .inr (4, [.int (0 : Int32), .long z_n, .long z_m, .long z_d, .long z_a, .long z_b, .long z_v, .int z_ep, .int z_su, .ref a_buf, .int z_by, .int z_mo, .ref a_st, .ref a_bl, .ref a_fi, .ref a_ob, .ref a_si, .ref a_po, .ref a_pr, .ref a_an, .int z_bk, .ref a_bo, .long z_h])), (a_bl, .inl (G.2.2.2.1, 12, .inr (.inl z_bl))), (a_po, .inl (G.2.2.2.1, 72, .inr (.inl z_po))), (a_pr, .inl (G.2.2.1, 72, .inl z_pr)), (a_an, .inl (G.2.2.2.1, 72, .inr (.inl z_an)))]) (wr := [(a_st, .inl (G.2.2.1, 12, .inl z_st)), (a_fi, .inl (G.2.2.1, 12, .inl z_fi)), (a_ob, .inl (G.2.2.1, 12, .inl z_ob))]) (xg_runV (rest := []) (kw := 0) si_MD_152 hg hw S (va_recv (xg_k hg hw) hP (ci := 4) rfl (q0 := 0) rfl) (ct_MD_make l hg H4 y_ motion trustee (0 : Int32) z_n z_m z_d z_a z_b z_v z_ep z_su a_buf z_by z_mo a_st a_bl a_fi a_ob a_si a_po a_pr a_an z_bk a_bo z_h z_bl z_po z_pr z_an (hP.sub [0, 4, 5, 6, 7] rfl) ((hD.sub [0, 4, 5, 6, 7] (by decide) rfl).weaken (fun _ _ _ _ => trivial)) (hN h6).1 (hN h6).2 (xs_isM h6 hQ) (xs_isT h13)) ⟨by decide, by decide, by decide, by decide⟩ rfl hl.1 rfl (Nat.le_of_ble_eq_true rfl) d_MD_consent_69) hP hD hS hA [0, 4, 5, 6, 7] [1, 2, 3] rfl rfl (by decide) (by decide) (fun H5 L5 hP hD hS => ?_)
              have hP : va_P G.2.1 cl_all [(a_st, .inl (G.2.2.1, 12, .inl z_st)), (a_fi, .inl (G.2.2.1, 12, .inl z_fi)), (a_ob, .inl (G.2.2.1, 12, .inl z_ob)), (y_, .inr (4, [.int (0 : Int32), .long z_n, .long z_m, .long z_d, .long z_a, .long z_b, .long z_v, .int z_ep, .int z_su, .ref a_buf, .int z_by, .int z_mo, .ref a_st, .ref a_bl, .ref a_fi, .ref a_ob, .ref a_si, .ref a_po, .ref a_pr, .ref a_an, .int z_bk, .ref a_bo, .long (f_MD_make_h motion trustee z_n z_m z_d z_a z_b z_v z_ep z_bl)])), (a_bl, .inl (G.2.2.2.1, 12, .inr (.inl z_bl))), (a_po, .inl (G.2.2.2.1, 72, .inr (.inl (f_MD_make_a_po motion trustee z_n z_m z_d z_a z_b z_bl z_po)))), (a_pr, .inl (G.2.2.1, 72, .inl (f_MD_make_a_pr motion trustee z_n z_m z_d z_a z_b z_v z_ep z_bl z_pr))), (a_an, .inl (G.2.2.2.1, 72, .inr (.inl (f_MD_make_a_an motion trustee z_n z_m z_d z_a z_b z_v z_ep z_bl z_an))))] H5 := hP
              have hD : va_D A [(a_st, .inl (G.2.2.1, 12, .inl z_st)), (a_fi, .inl (G.2.2.1, 12, .inl z_fi)), (a_ob, .inl (G.2.2.1, 12, .inl z_ob)), (y_, .inr (4, [.int (0 : Int32), .long z_n, .long z_m, .long z_d, .long z_a, .long z_b, .long z_v, .int z_ep, .int z_su, .ref a_buf, .int z_by, .int z_mo, .ref a_st, .ref a_bl, .ref a_fi, .ref a_ob, .ref a_si, .ref a_po, .ref a_pr, .ref a_an, .int z_bk, .ref a_bo, .long (f_MD_make_h motion trustee z_n z_m z_d z_a z_b z_v z_ep z_bl)])), (a_bl, .inl (G.2.2.2.1, 12, .inr (.inl z_bl))), (a_po, .inl (G.2.2.2.1, 72, .inr (.inl (f_MD_make_a_po motion trustee z_n z_m z_d z_a z_b z_bl z_po)))), (a_pr, .inl (G.2.2.1, 72, .inl (f_MD_make_a_pr motion trustee z_n z_m z_d z_a z_b z_v z_ep z_bl z_pr))), (a_an, .inl (G.2.2.2.1, 72, .inr (.inl (f_MD_make_a_an motion trustee z_n z_m z_d z_a z_b z_v z_ep z_bl z_an))))] := hD
              refine lv_aload_n hx hb d_MD_consent_72 rfl (lv_at hl 0 rfl) ?_
              refine gf_MD_55 hg hw S hP 3 rfl rfl d_MD_consent_73 ?_
              refine lv_iload_n hx hb d_MD_consent_76 rfl (lv_at hl 1 rfl) ?_
              refine lv_aload_n hx hb d_MD_consent_77 rfl (lv_at hl 0 rfl) ?_
              refine gf_MD_55 hg hw S hP 3 rfl rfl d_MD_consent_78 ?_
              refine lv_iload_n hx hb d_MD_consent_81 rfl (lv_at hl 1 rfl) ?_
              refine va_iald hx hb (xg_k hg hw) hP 1 0 rfl rfl (xs_isM h6 hQ) d_MD_consent_82 ?_
              refine lv_iconst (v := (1 : Int32)) hx hb d_MD_consent_83 (by decide) ?_
              refine lv_iload_n hx hb d_MD_consent_84 rfl (lv_at hl 2 rfl) ?_
              refine lv_ishl hx hb d_MD_consent_85 ?_
              refine lv_ior hx hb d_MD_consent_86 ?_
              refine va_iast hx hb (xg_k hg hw) hP hD hS 1 0 rfl rfl (xs_isM h6 hQ) d_MD_consent_87 (fun H6 L6 hP hD hS => ?_)
              have hP : va_P G.2.1 cl_all [(a_st, .inl (G.2.2.1, 12, .inl z_st)), (a_fi, .inl (G.2.2.1, 12, .inl (upd z_fi motion.toNatClampNeg ((z_fi motion.toNatClampNeg) ||| ((1 : Int32) <<< (trustee &&& 31)))))), (a_ob, .inl (G.2.2.1, 12, .inl z_ob)), (y_, .inr (4, [.int (0 : Int32), .long z_n, .long z_m, .long z_d, .long z_a, .long z_b, .long z_v, .int z_ep, .int z_su, .ref a_buf, .int z_by, .int z_mo, .ref a_st, .ref a_bl, .ref a_fi, .ref a_ob, .ref a_si, .ref a_po, .ref a_pr, .ref a_an, .int z_bk, .ref a_bo, .long (f_MD_make_h motion trustee z_n z_m z_d z_a z_b z_v z_ep z_bl)])), (a_bl, .inl (G.2.2.2.1, 12, .inr (.inl z_bl))), (a_po, .inl (G.2.2.2.1, 72, .inr (.inl (f_MD_make_a_po motion trustee z_n z_m z_d z_a z_b z_bl z_po)))), (a_pr, .inl (G.2.2.1, 72, .inl (f_MD_make_a_pr motion trustee z_n z_m z_d z_a z_b z_v z_ep z_bl z_pr))), (a_an, .inl (G.2.2.2.1, 72, .inr (.inl (f_MD_make_a_an motion trustee z_n z_m z_d z_a z_b z_v z_ep z_bl z_an))))] H6 := hP
              have hD : va_D A [(a_st, .inl (G.2.2.1, 12, .inl z_st)), (a_fi, .inl (G.2.2.1, 12, .inl (upd z_fi motion.toNatClampNeg ((z_fi motion.toNatClampNeg) ||| ((1 : Int32) <<< (trustee &&& 31)))))), (a_ob, .inl (G.2.2.1, 12, .inl z_ob)), (y_, .inr (4, [.int (0 : Int32), .long z_n, .long z_m, .long z_d, .long z_a, .long z_b, .long z_v, .int z_ep, .int z_su, .ref a_buf, .int z_by, .int z_mo, .ref a_st, .ref a_bl, .ref a_fi, .ref a_ob, .ref a_si, .ref a_po, .ref a_pr, .ref a_an, .int z_bk, .ref a_bo, .long (f_MD_make_h motion trustee z_n z_m z_d z_a z_b z_v z_ep z_bl)])), (a_bl, .inl (G.2.2.2.1, 12, .inr (.inl z_bl))), (a_po, .inl (G.2.2.2.1, 72, .inr (.inl (f_MD_make_a_po motion trustee z_n z_m z_d z_a z_b z_bl z_po)))), (a_pr, .inl (G.2.2.1, 72, .inl (f_MD_make_a_pr motion trustee z_n z_m z_d z_a z_b z_v z_ep z_bl z_pr))), (a_an, .inl (G.2.2.2.1, 72, .inr (.inl (f_MD_make_a_an motion trustee z_n z_m z_d z_a z_b z_v z_ep z_bl z_an))))] := hD
              subst hr0
              subst hr1
              subst hr2
              subst hr3
              subst hr4
              subst hr5
              have hP := hP.sub (ws' := [(y_, .inr (4, [.int (0 : Int32), .long z_n, .long z_m, .long z_d, .long z_a, .long z_b, .long z_v, .int z_ep, .int z_su, .ref a_buf, .int z_by, .int z_mo, .ref a_st, .ref a_bl, .ref a_fi, .ref a_ob, .ref a_si, .ref a_po, .ref a_pr, .ref a_an, .int z_bk, .ref a_bo, .long (f_MD_make_h motion trustee z_n z_m z_d z_a z_b z_v z_ep z_bl)])), (a_st, .inl (G.2.2.1, 12, .inl z_st)), (a_fi, .inl (G.2.2.1, 12, .inl (upd z_fi motion.toNatClampNeg ((z_fi motion.toNatClampNeg) ||| ((1 : Int32) <<< (trustee &&& 31)))))), (a_ob, .inl (G.2.2.1, 12, .inl z_ob)), (a_bl, .inl (G.2.2.2.1, 12, .inr (.inl z_bl))), (a_po, .inl (G.2.2.2.1, 72, .inr (.inl (f_MD_make_a_po motion trustee z_n z_m z_d z_a z_b z_bl z_po)))), (a_pr, .inl (G.2.2.1, 72, .inl (f_MD_make_a_pr motion trustee z_n z_m z_d z_a z_b z_v z_ep z_bl z_pr))), (a_an, .inl (G.2.2.2.1, 72, .inr (.inl (f_MD_make_a_an motion trustee z_n z_m z_d z_a z_b z_v z_ep z_bl z_an))))]) [3, 0, 1, 2, 4, 5, 6, 7] rfl
              have hD := hD.sub (ws' := [(y_, .inr (4, [.int (0 : Int32), .long z_n, .long z_m, .long z_d, .long z_a, .long z_b, .long z_v, .int z_ep, .int z_su, .ref a_buf, .int z_by, .int z_mo, .ref a_st, .ref a_bl, .ref a_fi, .ref a_ob, .ref a_si, .ref a_po, .ref a_pr, .ref a_an, .int z_bk, .ref a_bo, .long (f_MD_make_h motion trustee z_n z_m z_d z_a z_b z_v z_ep z_bl)])), (a_st, .inl (G.2.2.1, 12, .inl z_st)), (a_fi, .inl (G.2.2.1, 12, .inl (upd z_fi motion.toNatClampNeg ((z_fi motion.toNatClampNeg) ||| ((1 : Int32) <<< (trustee &&& 31)))))), (a_ob, .inl (G.2.2.1, 12, .inl z_ob)), (a_bl, .inl (G.2.2.2.1, 12, .inr (.inl z_bl))), (a_po, .inl (G.2.2.2.1, 72, .inr (.inl (f_MD_make_a_po motion trustee z_n z_m z_d z_a z_b z_bl z_po)))), (a_pr, .inl (G.2.2.1, 72, .inl (f_MD_make_a_pr motion trustee z_n z_m z_d z_a z_b z_v z_ep z_bl z_pr))), (a_an, .inl (G.2.2.2.1, 72, .inr (.inl (f_MD_make_a_an motion trustee z_n z_m z_d z_a z_b z_v z_ep z_bl z_an))))]) [3, 0, 1, 2, 4, 5, 6, 7] (by decide) rfl
              exact xw_vret hx hb ht hl0 hP hD hS d_MD_consent_88
            · exact absurd h62 (by decide)
          · rw [if_neg h47] at hr0
            rw [if_neg h47] at hr1
            rw [if_neg h47] at hr2
            rw [if_neg h47] at hr3
            rw [if_neg h47] at hr4
            rw [if_neg h47] at hr5
            refine lv_iconst (v := (2 : Int32)) hx hb d_MD_consent_50 (by decide) ?_
            refine lv_goto hx hb d_MD_consent_51 (tgt := 55) (by decide) ?_
            refine pf_MD_7 hg hw S hP hD hS 0 rfl rfl rfl (Nat.le_of_ble_eq_true rfl) d_MD_consent_55 (fun H7 L7 hP hD hS => ?_)
            have hP : va_P G.2.1 cl_all [(y_, .inr (4, [.int (2 : Int32), .long z_n, .long z_m, .long z_d, .long z_a, .long z_b, .long z_v, .int z_ep, .int z_su, .ref a_buf, .int z_by, .int z_mo, .ref a_st, .ref a_bl, .ref a_fi, .ref a_ob, .ref a_si, .ref a_po, .ref a_pr, .ref a_an, .int z_bk, .ref a_bo, .long z_h])), (a_st, .inl (G.2.2.1, 12, .inl z_st)), (a_fi, .inl (G.2.2.1, 12, .inl z_fi)), (a_ob, .inl (G.2.2.1, 12, .inl z_ob)), (a_bl, .inl (G.2.2.2.1, 12, .inr (.inl z_bl))), (a_po, .inl (G.2.2.2.1, 72, .inr (.inl z_po))), (a_pr, .inl (G.2.2.1, 72, .inl z_pr)), (a_an, .inl (G.2.2.2.1, 72, .inr (.inl z_an)))] H7 := hP
            have hD : va_D A [(y_, .inr (4, [.int (2 : Int32), .long z_n, .long z_m, .long z_d, .long z_a, .long z_b, .long z_v, .int z_ep, .int z_su, .ref a_buf, .int z_by, .int z_mo, .ref a_st, .ref a_bl, .ref a_fi, .ref a_ob, .ref a_si, .ref a_po, .ref a_pr, .ref a_an, .int z_bk, .ref a_bo, .long z_h])), (a_st, .inl (G.2.2.1, 12, .inl z_st)), (a_fi, .inl (G.2.2.1, 12, .inl z_fi)), (a_ob, .inl (G.2.2.1, 12, .inl z_ob)), (a_bl, .inl (G.2.2.2.1, 12, .inr (.inl z_bl))), (a_po, .inl (G.2.2.2.1, 72, .inr (.inl z_po))), (a_pr, .inl (G.2.2.1, 72, .inl z_pr)), (a_an, .inl (G.2.2.2.1, 72, .inr (.inl z_an)))] := hD
            refine lv_aload_n hx hb d_MD_consent_58 rfl (lv_at hl 0 rfl) ?_
            refine gf_MD_7 hg hw S hP 0 rfl rfl d_MD_consent_59 ?_
            refine lv_if_eq hx hb d_MD_consent_62 (tgt := 66) (by decide) (fun h62 => ?_) (fun h62 => ?_)
            · exact absurd h62 (by decide)
            · subst hr0
              subst hr1
              subst hr2
              subst hr3
              subst hr4
              subst hr5
              exact xw_vret hx hb ht hl0 hP hD hS d_MD_consent_65
    · rw [if_pos h13] at hr0
      rw [if_pos h13] at hr1
      rw [if_pos h13] at hr2
      rw [if_pos h13] at hr3
      rw [if_pos h13] at hr4
      rw [if_pos h13] at hr5
      refine lv_iconst (v := (1 : Int32)) hx hb d_MD_consent_16 (by decide) ?_
      refine lv_goto hx hb d_MD_consent_17 (tgt := 55) (by decide) ?_
      refine pf_MD_7 hg hw S hP hD hS 0 rfl rfl rfl (Nat.le_of_ble_eq_true rfl) d_MD_consent_55 (fun H8 L8 hP hD hS => ?_)
      have hP : va_P G.2.1 cl_all [(y_, .inr (4, [.int (1 : Int32), .long z_n, .long z_m, .long z_d, .long z_a, .long z_b, .long z_v, .int z_ep, .int z_su, .ref a_buf, .int z_by, .int z_mo, .ref a_st, .ref a_bl, .ref a_fi, .ref a_ob, .ref a_si, .ref a_po, .ref a_pr, .ref a_an, .int z_bk, .ref a_bo, .long z_h])), (a_st, .inl (G.2.2.1, 12, .inl z_st)), (a_fi, .inl (G.2.2.1, 12, .inl z_fi)), (a_ob, .inl (G.2.2.1, 12, .inl z_ob)), (a_bl, .inl (G.2.2.2.1, 12, .inr (.inl z_bl))), (a_po, .inl (G.2.2.2.1, 72, .inr (.inl z_po))), (a_pr, .inl (G.2.2.1, 72, .inl z_pr)), (a_an, .inl (G.2.2.2.1, 72, .inr (.inl z_an)))] H8 := hP
      have hD : va_D A [(y_, .inr (4, [.int (1 : Int32), .long z_n, .long z_m, .long z_d, .long z_a, .long z_b, .long z_v, .int z_ep, .int z_su, .ref a_buf, .int z_by, .int z_mo, .ref a_st, .ref a_bl, .ref a_fi, .ref a_ob, .ref a_si, .ref a_po, .ref a_pr, .ref a_an, .int z_bk, .ref a_bo, .long z_h])), (a_st, .inl (G.2.2.1, 12, .inl z_st)), (a_fi, .inl (G.2.2.1, 12, .inl z_fi)), (a_ob, .inl (G.2.2.1, 12, .inl z_ob)), (a_bl, .inl (G.2.2.2.1, 12, .inr (.inl z_bl))), (a_po, .inl (G.2.2.2.1, 72, .inr (.inl z_po))), (a_pr, .inl (G.2.2.1, 72, .inl z_pr)), (a_an, .inl (G.2.2.2.1, 72, .inr (.inl z_an)))] := hD
      refine lv_aload_n hx hb d_MD_consent_58 rfl (lv_at hl 0 rfl) ?_
      refine gf_MD_7 hg hw S hP 0 rfl rfl d_MD_consent_59 ?_
      refine lv_if_eq hx hb d_MD_consent_62 (tgt := 66) (by decide) (fun h62 => ?_) (fun h62 => ?_)
      · exact absurd h62 (by decide)
      · subst hr0
        subst hr1
        subst hr2
        subst hr3
        subst hr4
        subst hr5
        exact xw_vret hx hb ht hl0 hP hD hS d_MD_consent_65
def f_MD_object_thrownCode (motion : Int32) (trustee : Int32) (z_mo : Int32) (z_st : Nat → Int32) (z_fi : Nat → Int32) (z_ob : Nat → Int32) : Int32 := if (f_MD_isMotion motion z_mo) = 0 then (1 : Int32) else (if (f_MD_isTrustee trustee) = 0 then (1 : Int32) else (if (z_st motion.toNatClampNeg) = 0 then (if (f_MD_voice motion trustee z_fi z_ob) = 0 then (if (f_MD_bits ((upd z_ob motion.toNatClampNeg ((z_ob motion.toNatClampNeg) ||| ((1 : Int32) <<< (trustee &&& 31)))) motion.toNatClampNeg)) = (3 : Int32) then (0 : Int32) else (0 : Int32)) else (2 : Int32)) else (2 : Int32)))
def f_MD_object_a_ob (motion : Int32) (trustee : Int32) (z_mo : Int32) (z_st : Nat → Int32) (z_fi : Nat → Int32) (z_ob : Nat → Int32) : Nat → Int32 := if (f_MD_isMotion motion z_mo) = 0 then z_ob else (if (f_MD_isTrustee trustee) = 0 then z_ob else (if (z_st motion.toNatClampNeg) = 0 then (if (f_MD_voice motion trustee z_fi z_ob) = 0 then (if (f_MD_bits ((upd z_ob motion.toNatClampNeg ((z_ob motion.toNatClampNeg) ||| ((1 : Int32) <<< (trustee &&& 31)))) motion.toNatClampNeg)) = (3 : Int32) then (upd z_ob motion.toNatClampNeg ((z_ob motion.toNatClampNeg) ||| ((1 : Int32) <<< (trustee &&& 31)))) else (upd z_ob motion.toNatClampNeg ((z_ob motion.toNatClampNeg) ||| ((1 : Int32) <<< (trustee &&& 31))))) else z_ob) else z_ob))
def f_MD_object_a_st (motion : Int32) (trustee : Int32) (z_mo : Int32) (z_st : Nat → Int32) (z_fi : Nat → Int32) (z_ob : Nat → Int32) : Nat → Int32 := if (f_MD_isMotion motion z_mo) = 0 then z_st else (if (f_MD_isTrustee trustee) = 0 then z_st else (if (z_st motion.toNatClampNeg) = 0 then (if (f_MD_voice motion trustee z_fi z_ob) = 0 then (if (f_MD_bits ((upd z_ob motion.toNatClampNeg ((z_ob motion.toNatClampNeg) ||| ((1 : Int32) <<< (trustee &&& 31)))) motion.toNatClampNeg)) = (3 : Int32) then (upd z_st motion.toNatClampNeg (2 : Int32)) else z_st) else z_st) else z_st))
set_option maxHeartbeats 4000000 in
set_option maxRecDepth 100000 in
theorem ct_MD_object (l : Launch) {G : xg_G} (hg : xg_F G) (H : Heap) (y_ : Nat) (motion : Int32) (trustee : Int32) (z_th : Int32) (z_n : Int64) (z_m : Int64) (z_d : Int64) (z_a : Int64) (z_b : Int64) (z_v : Int64) (z_ep : Int32) (z_su : Int32) (a_buf : Nat) (z_by : Int32) (z_mo : Int32) (a_st : Nat) (a_bl : Nat) (a_fi : Nat) (a_ob : Nat) (a_si : Nat) (a_po : Nat) (a_pr : Nat) (a_an : Nat) (z_bk : Int32) (a_bo : Nat) (z_h : Int64) (z_st : Nat → Int32) (z_fi : Nat → Int32) (z_ob : Nat → Int32) (hP : va_P G.2.1 cl_all [(y_, .inr (4, [.int z_th, .long z_n, .long z_m, .long z_d, .long z_a, .long z_b, .long z_v, .int z_ep, .int z_su, .ref a_buf, .int z_by, .int z_mo, .ref a_st, .ref a_bl, .ref a_fi, .ref a_ob, .ref a_si, .ref a_po, .ref a_pr, .ref a_an, .int z_bk, .ref a_bo, .long z_h])), (a_st, .inl (G.2.2.1, 12, .inl z_st)), (a_fi, .inl (G.2.2.1, 12, .inl z_fi)), (a_ob, .inl (G.2.2.1, 12, .inl z_ob))] H) (hD0 : va_D (fun _ => True) [(y_, .inr (4, [.int z_th, .long z_n, .long z_m, .long z_d, .long z_a, .long z_b, .long z_v, .int z_ep, .int z_su, .ref a_buf, .int z_by, .int z_mo, .ref a_st, .ref a_bl, .ref a_fi, .ref a_ob, .ref a_si, .ref a_po, .ref a_pr, .ref a_an, .int z_bk, .ref a_bo, .long z_h])), (a_st, .inl (G.2.2.1, 12, .inl z_st)), (a_fi, .inl (G.2.2.1, 12, .inl z_fi)), (a_ob, .inl (G.2.2.1, 12, .inl z_ob))]) (hQ : z_mo.toInt ≤ 12) : xc_Met l y_MD_object (.code y_MD_object b_MD_object 3 none) ({ frames := 1, cells := 0, slots := 0, locals := 15 } : Room) (xg_Pc G [.ref y_, .int motion, .int trustee] H) (xw_post G (va_A [(y_, .inr (4, [.int z_th, .long z_n, .long z_m, .long z_d, .long z_a, .long z_b, .long z_v, .int z_ep, .int z_su, .ref a_buf, .int z_by, .int z_mo, .ref a_st, .ref a_bl, .ref a_fi, .ref a_ob, .ref a_si, .ref a_po, .ref a_pr, .ref a_an, .int z_bk, .ref a_bo, .long z_h])), (a_st, .inl (G.2.2.1, 12, .inl z_st)), (a_fi, .inl (G.2.2.1, 12, .inl z_fi)), (a_ob, .inl (G.2.2.1, 12, .inl z_ob))] H.size) none [(y_, .inr (4, [.int (f_MD_object_thrownCode motion trustee z_mo z_st z_fi z_ob), .long z_n, .long z_m, .long z_d, .long z_a, .long z_b, .long z_v, .int z_ep, .int z_su, .ref a_buf, .int z_by, .int z_mo, .ref a_st, .ref a_bl, .ref a_fi, .ref a_ob, .ref a_si, .ref a_po, .ref a_pr, .ref a_an, .int z_bk, .ref a_bo, .long z_h])), (a_st, .inl (G.2.2.1, 12, .inl (f_MD_object_a_st motion trustee z_mo z_st z_fi z_ob))), (a_fi, .inl (G.2.2.1, 12, .inl z_fi)), (a_ob, .inl (G.2.2.1, 12, .inl (f_MD_object_a_ob motion trustee z_mo z_st z_fi z_ob)))]) (va_A [(y_, .inr (4, [.int z_th, .long z_n, .long z_m, .long z_d, .long z_a, .long z_b, .long z_v, .int z_ep, .int z_su, .ref a_buf, .int z_by, .int z_mo, .ref a_st, .ref a_bl, .ref a_fi, .ref a_ob, .ref a_si, .ref a_po, .ref a_pr, .ref a_an, .int z_bk, .ref a_bo, .long z_h])), (a_st, .inl (G.2.2.1, 12, .inl z_st)), (a_fi, .inl (G.2.2.1, 12, .inl z_fi)), (a_ob, .inl (G.2.2.1, 12, .inl z_ob))] H.size) := by
  refine xc_ofW (by decide) ?_
  intro p e s m args below meth c s₁ B hml hE hv
  obtain ⟨rfl, rfl, hw⟩ := hv
  have hx := B.exec
  have hb := B.bytes
  have ht := B.returns
  have hl0 := B.notSynchronized
  have S : xc_Fix p m c b_MD_object 3 s "SealTrustModel" := ⟨hx, hb, hml, findClass_of_methodNamed B.named⟩
  have hD := hD0.self (sz := s.heap.size)
  generalize hAe : va_A [(y_, .inr (4, [.int z_th, .long z_n, .long z_m, .long z_d, .long z_a, .long z_b, .long z_v, .int z_ep, .int z_su, .ref a_buf, .int z_by, .int z_mo, .ref a_st, .ref a_bl, .ref a_fi, .ref a_ob, .ref a_si, .ref a_po, .ref a_pr, .ref a_an, .int z_bk, .ref a_bo, .long z_h])), (a_st, .inl (G.2.2.1, 12, .inl z_st)), (a_fi, .inl (G.2.2.1, 12, .inl z_fi)), (a_ob, .inl (G.2.2.1, 12, .inl z_ob))] s.heap.size = A at hD ⊢
  have hA : ∀ q : Nat, s.heap.size ≤ q → A q := fun q h => by rw [← hAe]; exact Or.inr h
  have hS : va_S A s.heap s.heap [] := va_S.rf
  have hl := lv_entry ([.ref y_, .int motion, .int trustee]) (n := 3) (Nat.le_of_ble_eq_true rfl)
  rw [lg_entry_eq]
  generalize (lg_sl ([.ref y_, .int motion, .int trustee]) ++ List.replicate (3 - (lg_sl ([.ref y_, .int motion, .int trustee])).length) Slot.unset).toArray = ls at hl ⊢
  have hl : lv_has ls 3 [(0, .ref y_), (1, .int motion), (2, .int trustee)] := hl
  obtain ⟨r0, hr0⟩ : ∃ r, f_MD_object_thrownCode motion trustee z_mo z_st z_fi z_ob = r := ⟨_, rfl⟩
  rw [hr0]
  unfold f_MD_object_thrownCode at hr0
  obtain ⟨r1, hr1⟩ : ∃ r, f_MD_object_a_ob motion trustee z_mo z_st z_fi z_ob = r := ⟨_, rfl⟩
  rw [hr1]
  unfold f_MD_object_a_ob at hr1
  obtain ⟨r2, hr2⟩ : ∃ r, f_MD_object_a_st motion trustee z_mo z_st z_fi z_ob = r := ⟨_, rfl⟩
  rw [hr2]
  unfold f_MD_object_a_st at hr2
  refine lv_aload_n hx hb d_MD_object_0 rfl (lv_at hl 0 rfl) ?_
  refine lv_aload_n hx hb d_MD_object_1 rfl (lv_at hl 0 rfl) ?_
  refine lv_iload_n hx hb d_MD_object_2 rfl (lv_at hl 1 rfl) ?_
  refine xg_read (xg_runV (rest := [.ref y_]) (kw := 1) si_MD_142 hg hw S (va_recv (xg_k hg hw) hP (ci := 4) rfl (q0 := 0) rfl) (ct_MD_isMotion l hg s.heap y_ motion z_th z_n z_m z_d z_a z_b z_v z_ep z_su a_buf z_by z_mo a_st a_bl a_fi a_ob a_si a_po a_pr a_an z_bk a_bo z_h (hP.sub [0] rfl) ) ⟨by decide, by decide, by decide, by decide⟩ rfl hl.1 rfl (Nat.le_of_ble_eq_true rfl) d_MD_object_3) ?_
  refine lv_if_eq hx hb d_MD_object_6 (tgt := 16) (by decide) (fun h6 => ?_) (fun h6 => ?_)
  · rw [if_pos h6] at hr0
    rw [if_pos h6] at hr1
    rw [if_pos h6] at hr2
    refine lv_iconst (v := (1 : Int32)) hx hb d_MD_object_16 (by decide) ?_
    refine lv_goto hx hb d_MD_object_17 (tgt := 43) (by decide) ?_
    refine pf_MD_7 hg hw S hP hD hS 0 rfl rfl rfl (Nat.le_of_ble_eq_true rfl) d_MD_object_43 (fun H1 L1 hP hD hS => ?_)
    have hP : va_P G.2.1 cl_all [(y_, .inr (4, [.int (1 : Int32), .long z_n, .long z_m, .long z_d, .long z_a, .long z_b, .long z_v, .int z_ep, .int z_su, .ref a_buf, .int z_by, .int z_mo, .ref a_st, .ref a_bl, .ref a_fi, .ref a_ob, .ref a_si, .ref a_po, .ref a_pr, .ref a_an, .int z_bk, .ref a_bo, .long z_h])), (a_st, .inl (G.2.2.1, 12, .inl z_st)), (a_fi, .inl (G.2.2.1, 12, .inl z_fi)), (a_ob, .inl (G.2.2.1, 12, .inl z_ob))] H1 := hP
    have hD : va_D A [(y_, .inr (4, [.int (1 : Int32), .long z_n, .long z_m, .long z_d, .long z_a, .long z_b, .long z_v, .int z_ep, .int z_su, .ref a_buf, .int z_by, .int z_mo, .ref a_st, .ref a_bl, .ref a_fi, .ref a_ob, .ref a_si, .ref a_po, .ref a_pr, .ref a_an, .int z_bk, .ref a_bo, .long z_h])), (a_st, .inl (G.2.2.1, 12, .inl z_st)), (a_fi, .inl (G.2.2.1, 12, .inl z_fi)), (a_ob, .inl (G.2.2.1, 12, .inl z_ob))] := hD
    refine lv_aload_n hx hb d_MD_object_46 rfl (lv_at hl 0 rfl) ?_
    refine gf_MD_7 hg hw S hP 0 rfl rfl d_MD_object_47 ?_
    refine lv_if_eq hx hb d_MD_object_50 (tgt := 54) (by decide) (fun h50 => ?_) (fun h50 => ?_)
    · exact absurd h50 (by decide)
    · subst hr0
      subst hr1
      subst hr2
      exact xw_vret hx hb ht hl0 hP hD hS d_MD_object_53
  · rw [if_neg h6] at hr0
    rw [if_neg h6] at hr1
    rw [if_neg h6] at hr2
    refine lv_iload_n hx hb d_MD_object_9 rfl (lv_at hl 2 rfl) ?_
    refine xg_read (xg_runS (rest := [.ref y_]) (kw := 1) si_MD_145 hg hw S (ct_MD_isTrustee l hg s.heap trustee ) ⟨by decide, by decide, by decide, by decide⟩ rfl hl.1 rfl (Nat.le_of_ble_eq_true rfl) d_MD_object_10) ?_
    refine lv_if_ne hx hb d_MD_object_13 (tgt := 20) (by decide) (fun h13 => ?_) (fun h13 => ?_)
    · rw [if_neg h13] at hr0
      rw [if_neg h13] at hr1
      rw [if_neg h13] at hr2
      refine lv_aload_n hx hb d_MD_object_20 rfl (lv_at hl 0 rfl) ?_
      refine gf_MD_48 hg hw S hP 0 rfl rfl d_MD_object_21 ?_
      refine lv_iload_n hx hb d_MD_object_24 rfl (lv_at hl 1 rfl) ?_
      refine va_iald hx hb (xg_k hg hw) hP 1 0 rfl rfl (xs_isM h6 hQ) d_MD_object_25 ?_
      refine lv_if_ne hx hb d_MD_object_26 (tgt := 38) (by decide) (fun h26 => ?_) (fun h26 => ?_)
      · rw [if_neg h26] at hr0
        rw [if_neg h26] at hr1
        rw [if_neg h26] at hr2
        refine lv_iconst (v := (2 : Int32)) hx hb d_MD_object_38 (by decide) ?_
        refine lv_goto hx hb d_MD_object_39 (tgt := 43) (by decide) ?_
        refine pf_MD_7 hg hw S hP hD hS 0 rfl rfl rfl (Nat.le_of_ble_eq_true rfl) d_MD_object_43 (fun H2 L2 hP hD hS => ?_)
        have hP : va_P G.2.1 cl_all [(y_, .inr (4, [.int (2 : Int32), .long z_n, .long z_m, .long z_d, .long z_a, .long z_b, .long z_v, .int z_ep, .int z_su, .ref a_buf, .int z_by, .int z_mo, .ref a_st, .ref a_bl, .ref a_fi, .ref a_ob, .ref a_si, .ref a_po, .ref a_pr, .ref a_an, .int z_bk, .ref a_bo, .long z_h])), (a_st, .inl (G.2.2.1, 12, .inl z_st)), (a_fi, .inl (G.2.2.1, 12, .inl z_fi)), (a_ob, .inl (G.2.2.1, 12, .inl z_ob))] H2 := hP
        have hD : va_D A [(y_, .inr (4, [.int (2 : Int32), .long z_n, .long z_m, .long z_d, .long z_a, .long z_b, .long z_v, .int z_ep, .int z_su, .ref a_buf, .int z_by, .int z_mo, .ref a_st, .ref a_bl, .ref a_fi, .ref a_ob, .ref a_si, .ref a_po, .ref a_pr, .ref a_an, .int z_bk, .ref a_bo, .long z_h])), (a_st, .inl (G.2.2.1, 12, .inl z_st)), (a_fi, .inl (G.2.2.1, 12, .inl z_fi)), (a_ob, .inl (G.2.2.1, 12, .inl z_ob))] := hD
        refine lv_aload_n hx hb d_MD_object_46 rfl (lv_at hl 0 rfl) ?_
        refine gf_MD_7 hg hw S hP 0 rfl rfl d_MD_object_47 ?_
        refine lv_if_eq hx hb d_MD_object_50 (tgt := 54) (by decide) (fun h50 => ?_) (fun h50 => ?_)
        · exact absurd h50 (by decide)
        · subst hr0
          subst hr1
          subst hr2
          exact xw_vret hx hb ht hl0 hP hD hS d_MD_object_53
      · rw [if_pos h26] at hr0
        rw [if_pos h26] at hr1
        rw [if_pos h26] at hr2
        refine lv_aload_n hx hb d_MD_object_29 rfl (lv_at hl 0 rfl) ?_
        refine lv_iload_n hx hb d_MD_object_30 rfl (lv_at hl 1 rfl) ?_
        refine lv_iload_n hx hb d_MD_object_31 rfl (lv_at hl 2 rfl) ?_
        refine xg_read (xg_runV (rest := [.ref y_]) (kw := 1) si_MD_148 hg hw S (va_recv (xg_k hg hw) hP (ci := 4) rfl (q0 := 0) rfl) (ct_MD_voice l hg s.heap y_ motion trustee z_th z_n z_m z_d z_a z_b z_v z_ep z_su a_buf z_by z_mo a_st a_bl a_fi a_ob a_si a_po a_pr a_an z_bk a_bo z_h z_fi z_ob (hP.sub [0, 2, 3] rfl) (xs_isM h6 hQ)) ⟨by decide, by decide, by decide, by decide⟩ rfl hl.1 rfl (Nat.le_of_ble_eq_true rfl) d_MD_object_32) ?_
        refine lv_if_eq hx hb d_MD_object_35 (tgt := 42) (by decide) (fun h35 => ?_) (fun h35 => ?_)
        · rw [if_pos h35] at hr0
          rw [if_pos h35] at hr1
          rw [if_pos h35] at hr2
          refine lv_iconst (v := (0 : Int32)) hx hb d_MD_object_42 (by decide) ?_
          refine pf_MD_7 hg hw S hP hD hS 0 rfl rfl rfl (Nat.le_of_ble_eq_true rfl) d_MD_object_43 (fun H3 L3 hP hD hS => ?_)
          have hP : va_P G.2.1 cl_all [(y_, .inr (4, [.int (0 : Int32), .long z_n, .long z_m, .long z_d, .long z_a, .long z_b, .long z_v, .int z_ep, .int z_su, .ref a_buf, .int z_by, .int z_mo, .ref a_st, .ref a_bl, .ref a_fi, .ref a_ob, .ref a_si, .ref a_po, .ref a_pr, .ref a_an, .int z_bk, .ref a_bo, .long z_h])), (a_st, .inl (G.2.2.1, 12, .inl z_st)), (a_fi, .inl (G.2.2.1, 12, .inl z_fi)), (a_ob, .inl (G.2.2.1, 12, .inl z_ob))] H3 := hP
          have hD : va_D A [(y_, .inr (4, [.int (0 : Int32), .long z_n, .long z_m, .long z_d, .long z_a, .long z_b, .long z_v, .int z_ep, .int z_su, .ref a_buf, .int z_by, .int z_mo, .ref a_st, .ref a_bl, .ref a_fi, .ref a_ob, .ref a_si, .ref a_po, .ref a_pr, .ref a_an, .int z_bk, .ref a_bo, .long z_h])), (a_st, .inl (G.2.2.1, 12, .inl z_st)), (a_fi, .inl (G.2.2.1, 12, .inl z_fi)), (a_ob, .inl (G.2.2.1, 12, .inl z_ob))] := hD
          refine lv_aload_n hx hb d_MD_object_46 rfl (lv_at hl 0 rfl) ?_
          refine gf_MD_7 hg hw S hP 0 rfl rfl d_MD_object_47 ?_
          refine lv_if_eq hx hb d_MD_object_50 (tgt := 54) (by decide) (fun h50 => ?_) (fun h50 => ?_)
          · refine lv_aload_n hx hb d_MD_object_54 rfl (lv_at hl 0 rfl) ?_
            refine gf_MD_58 hg hw S hP 0 rfl rfl d_MD_object_55 ?_
            refine lv_iload_n hx hb d_MD_object_58 rfl (lv_at hl 1 rfl) ?_
            refine lv_aload_n hx hb d_MD_object_59 rfl (lv_at hl 0 rfl) ?_
            refine gf_MD_58 hg hw S hP 0 rfl rfl d_MD_object_60 ?_
            refine lv_iload_n hx hb d_MD_object_63 rfl (lv_at hl 1 rfl) ?_
            refine va_iald hx hb (xg_k hg hw) hP 3 0 rfl rfl (xs_isM h6 hQ) d_MD_object_64 ?_
            refine lv_iconst (v := (1 : Int32)) hx hb d_MD_object_65 (by decide) ?_
            refine lv_iload_n hx hb d_MD_object_66 rfl (lv_at hl 2 rfl) ?_
            refine lv_ishl hx hb d_MD_object_67 ?_
            refine lv_ior hx hb d_MD_object_68 ?_
            refine va_iast hx hb (xg_k hg hw) hP hD hS 3 0 rfl rfl (xs_isM h6 hQ) d_MD_object_69 (fun H4 L4 hP hD hS => ?_)
            have hP : va_P G.2.1 cl_all [(y_, .inr (4, [.int (0 : Int32), .long z_n, .long z_m, .long z_d, .long z_a, .long z_b, .long z_v, .int z_ep, .int z_su, .ref a_buf, .int z_by, .int z_mo, .ref a_st, .ref a_bl, .ref a_fi, .ref a_ob, .ref a_si, .ref a_po, .ref a_pr, .ref a_an, .int z_bk, .ref a_bo, .long z_h])), (a_st, .inl (G.2.2.1, 12, .inl z_st)), (a_fi, .inl (G.2.2.1, 12, .inl z_fi)), (a_ob, .inl (G.2.2.1, 12, .inl (upd z_ob motion.toNatClampNeg ((z_ob motion.toNatClampNeg) ||| ((1 : Int32) <<< (trustee &&& 31))))))] H4 := hP
            have hD : va_D A [(y_, .inr (4, [.int (0 : Int32), .long z_n, .long z_m, .long z_d, .long z_a, .long z_b, .long z_v, .int z_ep, .int z_su, .ref a_buf, .int z_by, .int z_mo, .ref a_st, .ref a_bl, .ref a_fi, .ref a_ob, .ref a_si, .ref a_po, .ref a_pr, .ref a_an, .int z_bk, .ref a_bo, .long z_h])), (a_st, .inl (G.2.2.1, 12, .inl z_st)), (a_fi, .inl (G.2.2.1, 12, .inl z_fi)), (a_ob, .inl (G.2.2.1, 12, .inl (upd z_ob motion.toNatClampNeg ((z_ob motion.toNatClampNeg) ||| ((1 : Int32) <<< (trustee &&& 31))))))] := hD
            refine lv_aload_n hx hb d_MD_object_70 rfl (lv_at hl 0 rfl) ?_
            refine gf_MD_58 hg hw S hP 0 rfl rfl d_MD_object_71 ?_
            refine lv_iload_n hx hb d_MD_object_74 rfl (lv_at hl 1 rfl) ?_
            refine va_iald hx hb (xg_k hg hw) hP 3 0 rfl rfl (xs_isM h6 hQ) d_MD_object_75 ?_
            refine xg_read (xg_runS (rest := []) (kw := 0) si_MD_156 hg hw S (ct_MD_bits l hg H4 ((upd z_ob motion.toNatClampNeg ((z_ob motion.toNatClampNeg) ||| ((1 : Int32) <<< (trustee &&& 31)))) motion.toNatClampNeg) ) ⟨by decide, by decide, by decide, by decide⟩ rfl hl.1 rfl (Nat.le_of_ble_eq_true rfl) d_MD_object_76) ?_
            refine lv_iconst (v := (3 : Int32)) hx hb d_MD_object_79 (by decide) ?_
            refine lv_icmp_ne hx hb d_MD_object_80 (tgt := 90) (by decide) (fun h80 => ?_) (fun h80 => ?_)
            · rw [if_neg h80] at hr0
              rw [if_neg h80] at hr1
              rw [if_neg h80] at hr2
              subst hr0
              subst hr1
              subst hr2
              exact xw_vret hx hb ht hl0 hP hD hS d_MD_object_90
            · rw [if_pos h80] at hr0
              rw [if_pos h80] at hr1
              rw [if_pos h80] at hr2
              refine lv_aload_n hx hb d_MD_object_83 rfl (lv_at hl 0 rfl) ?_
              refine gf_MD_48 hg hw S hP 0 rfl rfl d_MD_object_84 ?_
              refine lv_iload_n hx hb d_MD_object_87 rfl (lv_at hl 1 rfl) ?_
              refine lv_iconst (v := (2 : Int32)) hx hb d_MD_object_88 (by decide) ?_
              refine va_iast hx hb (xg_k hg hw) hP hD hS 1 0 rfl rfl (xs_isM h6 hQ) d_MD_object_89 (fun H5 L5 hP hD hS => ?_)
              have hP : va_P G.2.1 cl_all [(y_, .inr (4, [.int (0 : Int32), .long z_n, .long z_m, .long z_d, .long z_a, .long z_b, .long z_v, .int z_ep, .int z_su, .ref a_buf, .int z_by, .int z_mo, .ref a_st, .ref a_bl, .ref a_fi, .ref a_ob, .ref a_si, .ref a_po, .ref a_pr, .ref a_an, .int z_bk, .ref a_bo, .long z_h])), (a_st, .inl (G.2.2.1, 12, .inl (upd z_st motion.toNatClampNeg (2 : Int32)))), (a_fi, .inl (G.2.2.1, 12, .inl z_fi)), (a_ob, .inl (G.2.2.1, 12, .inl (upd z_ob motion.toNatClampNeg ((z_ob motion.toNatClampNeg) ||| ((1 : Int32) <<< (trustee &&& 31))))))] H5 := hP
              have hD : va_D A [(y_, .inr (4, [.int (0 : Int32), .long z_n, .long z_m, .long z_d, .long z_a, .long z_b, .long z_v, .int z_ep, .int z_su, .ref a_buf, .int z_by, .int z_mo, .ref a_st, .ref a_bl, .ref a_fi, .ref a_ob, .ref a_si, .ref a_po, .ref a_pr, .ref a_an, .int z_bk, .ref a_bo, .long z_h])), (a_st, .inl (G.2.2.1, 12, .inl (upd z_st motion.toNatClampNeg (2 : Int32)))), (a_fi, .inl (G.2.2.1, 12, .inl z_fi)), (a_ob, .inl (G.2.2.1, 12, .inl (upd z_ob motion.toNatClampNeg ((z_ob motion.toNatClampNeg) ||| ((1 : Int32) <<< (trustee &&& 31))))))] := hD
              subst hr0
              subst hr1
              subst hr2
              exact xw_vret hx hb ht hl0 hP hD hS d_MD_object_90
          · exact absurd h50 (by decide)
        · rw [if_neg h35] at hr0
          rw [if_neg h35] at hr1
          rw [if_neg h35] at hr2
          refine lv_iconst (v := (2 : Int32)) hx hb d_MD_object_38 (by decide) ?_
          refine lv_goto hx hb d_MD_object_39 (tgt := 43) (by decide) ?_
          refine pf_MD_7 hg hw S hP hD hS 0 rfl rfl rfl (Nat.le_of_ble_eq_true rfl) d_MD_object_43 (fun H6 L6 hP hD hS => ?_)
          have hP : va_P G.2.1 cl_all [(y_, .inr (4, [.int (2 : Int32), .long z_n, .long z_m, .long z_d, .long z_a, .long z_b, .long z_v, .int z_ep, .int z_su, .ref a_buf, .int z_by, .int z_mo, .ref a_st, .ref a_bl, .ref a_fi, .ref a_ob, .ref a_si, .ref a_po, .ref a_pr, .ref a_an, .int z_bk, .ref a_bo, .long z_h])), (a_st, .inl (G.2.2.1, 12, .inl z_st)), (a_fi, .inl (G.2.2.1, 12, .inl z_fi)), (a_ob, .inl (G.2.2.1, 12, .inl z_ob))] H6 := hP
          have hD : va_D A [(y_, .inr (4, [.int (2 : Int32), .long z_n, .long z_m, .long z_d, .long z_a, .long z_b, .long z_v, .int z_ep, .int z_su, .ref a_buf, .int z_by, .int z_mo, .ref a_st, .ref a_bl, .ref a_fi, .ref a_ob, .ref a_si, .ref a_po, .ref a_pr, .ref a_an, .int z_bk, .ref a_bo, .long z_h])), (a_st, .inl (G.2.2.1, 12, .inl z_st)), (a_fi, .inl (G.2.2.1, 12, .inl z_fi)), (a_ob, .inl (G.2.2.1, 12, .inl z_ob))] := hD
          refine lv_aload_n hx hb d_MD_object_46 rfl (lv_at hl 0 rfl) ?_
          refine gf_MD_7 hg hw S hP 0 rfl rfl d_MD_object_47 ?_
          refine lv_if_eq hx hb d_MD_object_50 (tgt := 54) (by decide) (fun h50 => ?_) (fun h50 => ?_)
          · exact absurd h50 (by decide)
          · subst hr0
            subst hr1
            subst hr2
            exact xw_vret hx hb ht hl0 hP hD hS d_MD_object_53
    · rw [if_pos h13] at hr0
      rw [if_pos h13] at hr1
      rw [if_pos h13] at hr2
      refine lv_iconst (v := (1 : Int32)) hx hb d_MD_object_16 (by decide) ?_
      refine lv_goto hx hb d_MD_object_17 (tgt := 43) (by decide) ?_
      refine pf_MD_7 hg hw S hP hD hS 0 rfl rfl rfl (Nat.le_of_ble_eq_true rfl) d_MD_object_43 (fun H7 L7 hP hD hS => ?_)
      have hP : va_P G.2.1 cl_all [(y_, .inr (4, [.int (1 : Int32), .long z_n, .long z_m, .long z_d, .long z_a, .long z_b, .long z_v, .int z_ep, .int z_su, .ref a_buf, .int z_by, .int z_mo, .ref a_st, .ref a_bl, .ref a_fi, .ref a_ob, .ref a_si, .ref a_po, .ref a_pr, .ref a_an, .int z_bk, .ref a_bo, .long z_h])), (a_st, .inl (G.2.2.1, 12, .inl z_st)), (a_fi, .inl (G.2.2.1, 12, .inl z_fi)), (a_ob, .inl (G.2.2.1, 12, .inl z_ob))] H7 := hP
      have hD : va_D A [(y_, .inr (4, [.int (1 : Int32), .long z_n, .long z_m, .long z_d, .long z_a, .long z_b, .long z_v, .int z_ep, .int z_su, .ref a_buf, .int z_by, .int z_mo, .ref a_st, .ref a_bl, .ref a_fi, .ref a_ob, .ref a_si, .ref a_po, .ref a_pr, .ref a_an, .int z_bk, .ref a_bo, .long z_h])), (a_st, .inl (G.2.2.1, 12, .inl z_st)), (a_fi, .inl (G.2.2.1, 12, .inl z_fi)), (a_ob, .inl (G.2.2.1, 12, .inl z_ob))] := hD
      refine lv_aload_n hx hb d_MD_object_46 rfl (lv_at hl 0 rfl) ?_
      refine gf_MD_7 hg hw S hP 0 rfl rfl d_MD_object_47 ?_
      refine lv_if_eq hx hb d_MD_object_50 (tgt := 54) (by decide) (fun h50 => ?_) (fun h50 => ?_)
      · exact absurd h50 (by decide)
      · subst hr0
        subst hr1
        subst hr2
        exact xw_vret hx hb ht hl0 hP hD hS d_MD_object_53
def f_MD_file_thrownCode (motion : Int32) (trustee : Int32) (z_mo : Int32) (z_st : Nat → Int32) (z_ob : Nat → Int32) : Int32 := if (f_MD_isMotion motion z_mo) = 0 then (1 : Int32) else (if (f_MD_isTrustee trustee) = 0 then (1 : Int32) else (if (z_st motion.toNatClampNeg) = 0 then (if (((z_ob motion.toNatClampNeg) >>> (trustee &&& 31)) &&& (1 : Int32)) = (1 : Int32) then (2 : Int32) else (0 : Int32)) else (2 : Int32)))
def f_MD_file_a_fi (motion : Int32) (trustee : Int32) (z_mo : Int32) (z_st : Nat → Int32) (z_ob : Nat → Int32) (z_fi : Nat → Int32) : Nat → Int32 := if (f_MD_isMotion motion z_mo) = 0 then z_fi else (if (f_MD_isTrustee trustee) = 0 then z_fi else (if (z_st motion.toNatClampNeg) = 0 then (if (((z_ob motion.toNatClampNeg) >>> (trustee &&& 31)) &&& (1 : Int32)) = (1 : Int32) then z_fi else (upd z_fi motion.toNatClampNeg ((z_fi motion.toNatClampNeg) ||| ((1 : Int32) <<< (trustee &&& 31))))) else z_fi))
def f_MD_file_a_po (motion : Int32) (trustee : Int32) (power : Int64) (z_mo : Int32) (z_st : Nat → Int32) (z_ob : Nat → Int32) (z_po : Nat → Int64) : Nat → Int64 := if (f_MD_isMotion motion z_mo) = 0 then z_po else (if (f_MD_isTrustee trustee) = 0 then z_po else (if (z_st motion.toNatClampNeg) = 0 then (if (((z_ob motion.toNatClampNeg) >>> (trustee &&& 31)) &&& (1 : Int32)) = (1 : Int32) then z_po else (vp_updL z_po (((6 : Int32) * motion) + trustee).toNatClampNeg power)) else z_po))
def f_MD_file_a_pr (motion : Int32) (trustee : Int32) (cc_ : Int32) (z_mo : Int32) (z_st : Nat → Int32) (z_ob : Nat → Int32) (z_pr : Nat → Int32) : Nat → Int32 := if (f_MD_isMotion motion z_mo) = 0 then z_pr else (if (f_MD_isTrustee trustee) = 0 then z_pr else (if (z_st motion.toNatClampNeg) = 0 then (if (((z_ob motion.toNatClampNeg) >>> (trustee &&& 31)) &&& (1 : Int32)) = (1 : Int32) then z_pr else (upd z_pr (((6 : Int32) * motion) + trustee).toNatClampNeg cc_)) else z_pr))
def f_MD_file_a_an (motion : Int32) (trustee : Int32) (zz_ : Int64) (z_mo : Int32) (z_st : Nat → Int32) (z_ob : Nat → Int32) (z_an : Nat → Int64) : Nat → Int64 := if (f_MD_isMotion motion z_mo) = 0 then z_an else (if (f_MD_isTrustee trustee) = 0 then z_an else (if (z_st motion.toNatClampNeg) = 0 then (if (((z_ob motion.toNatClampNeg) >>> (trustee &&& 31)) &&& (1 : Int32)) = (1 : Int32) then z_an else (vp_updL z_an (((6 : Int32) * motion) + trustee).toNatClampNeg zz_)) else z_an))
set_option maxHeartbeats 4000000 in
set_option maxRecDepth 100000 in
theorem ct_MD_file (l : Launch) {G : xg_G} (hg : xg_F G) (H : Heap) (y_ : Nat) (motion : Int32) (trustee : Int32) (power : Int64) (cc_ : Int32) (zz_ : Int64) (z_th : Int32) (z_n : Int64) (z_m : Int64) (z_d : Int64) (z_a : Int64) (z_b : Int64) (z_v : Int64) (z_ep : Int32) (z_su : Int32) (a_buf : Nat) (z_by : Int32) (z_mo : Int32) (a_st : Nat) (a_bl : Nat) (a_fi : Nat) (a_ob : Nat) (a_si : Nat) (a_po : Nat) (a_pr : Nat) (a_an : Nat) (z_bk : Int32) (a_bo : Nat) (z_h : Int64) (z_st : Nat → Int32) (z_ob : Nat → Int32) (z_fi : Nat → Int32) (z_po : Nat → Int64) (z_pr : Nat → Int32) (z_an : Nat → Int64) (hP : va_P G.2.1 cl_all [(y_, .inr (4, [.int z_th, .long z_n, .long z_m, .long z_d, .long z_a, .long z_b, .long z_v, .int z_ep, .int z_su, .ref a_buf, .int z_by, .int z_mo, .ref a_st, .ref a_bl, .ref a_fi, .ref a_ob, .ref a_si, .ref a_po, .ref a_pr, .ref a_an, .int z_bk, .ref a_bo, .long z_h])), (a_st, .inl (G.2.2.1, 12, .inl z_st)), (a_ob, .inl (G.2.2.1, 12, .inl z_ob)), (a_fi, .inl (G.2.2.1, 12, .inl z_fi)), (a_po, .inl (G.2.2.2.1, 72, .inr (.inl z_po))), (a_pr, .inl (G.2.2.1, 72, .inl z_pr)), (a_an, .inl (G.2.2.2.1, 72, .inr (.inl z_an)))] H) (hD0 : va_D (fun _ => True) [(y_, .inr (4, [.int z_th, .long z_n, .long z_m, .long z_d, .long z_a, .long z_b, .long z_v, .int z_ep, .int z_su, .ref a_buf, .int z_by, .int z_mo, .ref a_st, .ref a_bl, .ref a_fi, .ref a_ob, .ref a_si, .ref a_po, .ref a_pr, .ref a_an, .int z_bk, .ref a_bo, .long z_h])), (a_st, .inl (G.2.2.1, 12, .inl z_st)), (a_ob, .inl (G.2.2.1, 12, .inl z_ob)), (a_fi, .inl (G.2.2.1, 12, .inl z_fi)), (a_po, .inl (G.2.2.2.1, 72, .inr (.inl z_po))), (a_pr, .inl (G.2.2.1, 72, .inl z_pr)), (a_an, .inl (G.2.2.2.1, 72, .inr (.inl z_an)))]) (hQ : z_mo.toInt ≤ 12) : xc_Met l y_MD_file (.code y_MD_file b_MD_file 8 none) ({ frames := 1, cells := 0, slots := 0, locals := 14 } : Room) (xg_Pc G [.ref y_, .int motion, .int trustee, .long power, .int cc_, .long zz_] H) (xw_post G (va_A [(y_, .inr (4, [.int z_th, .long z_n, .long z_m, .long z_d, .long z_a, .long z_b, .long z_v, .int z_ep, .int z_su, .ref a_buf, .int z_by, .int z_mo, .ref a_st, .ref a_bl, .ref a_fi, .ref a_ob, .ref a_si, .ref a_po, .ref a_pr, .ref a_an, .int z_bk, .ref a_bo, .long z_h])), (a_st, .inl (G.2.2.1, 12, .inl z_st)), (a_ob, .inl (G.2.2.1, 12, .inl z_ob)), (a_fi, .inl (G.2.2.1, 12, .inl z_fi)), (a_po, .inl (G.2.2.2.1, 72, .inr (.inl z_po))), (a_pr, .inl (G.2.2.1, 72, .inl z_pr)), (a_an, .inl (G.2.2.2.1, 72, .inr (.inl z_an)))] H.size) none [(y_, .inr (4, [.int (f_MD_file_thrownCode motion trustee z_mo z_st z_ob), .long z_n, .long z_m, .long z_d, .long z_a, .long z_b, .long z_v, .int z_ep, .int z_su, .ref a_buf, .int z_by, .int z_mo, .ref a_st, .ref a_bl, .ref a_fi, .ref a_ob, .ref a_si, .ref a_po, .ref a_pr, .ref a_an, .int z_bk, .ref a_bo, .long z_h])), (a_st, .inl (G.2.2.1, 12, .inl z_st)), (a_ob, .inl (G.2.2.1, 12, .inl z_ob)), (a_fi, .inl (G.2.2.1, 12, .inl (f_MD_file_a_fi motion trustee z_mo z_st z_ob z_fi))), (a_po, .inl (G.2.2.2.1, 72, .inr (.inl (f_MD_file_a_po motion trustee power z_mo z_st z_ob z_po)))), (a_pr, .inl (G.2.2.1, 72, .inl (f_MD_file_a_pr motion trustee cc_ z_mo z_st z_ob z_pr))), (a_an, .inl (G.2.2.2.1, 72, .inr (.inl (f_MD_file_a_an motion trustee zz_ z_mo z_st z_ob z_an))))]) (va_A [(y_, .inr (4, [.int z_th, .long z_n, .long z_m, .long z_d, .long z_a, .long z_b, .long z_v, .int z_ep, .int z_su, .ref a_buf, .int z_by, .int z_mo, .ref a_st, .ref a_bl, .ref a_fi, .ref a_ob, .ref a_si, .ref a_po, .ref a_pr, .ref a_an, .int z_bk, .ref a_bo, .long z_h])), (a_st, .inl (G.2.2.1, 12, .inl z_st)), (a_ob, .inl (G.2.2.1, 12, .inl z_ob)), (a_fi, .inl (G.2.2.1, 12, .inl z_fi)), (a_po, .inl (G.2.2.2.1, 72, .inr (.inl z_po))), (a_pr, .inl (G.2.2.1, 72, .inl z_pr)), (a_an, .inl (G.2.2.2.1, 72, .inr (.inl z_an)))] H.size) := by
  refine xc_ofW (by decide) ?_
  intro p e s m args below meth c s₁ B hml hE hv
  obtain ⟨rfl, rfl, hw⟩ := hv
  have hx := B.exec
  have hb := B.bytes
  have ht := B.returns
  have hl0 := B.notSynchronized
  have S : xc_Fix p m c b_MD_file 8 s "SealTrustModel" := ⟨hx, hb, hml, findClass_of_methodNamed B.named⟩
  have hD := hD0.self (sz := s.heap.size)
  generalize hAe : va_A [(y_, .inr (4, [.int z_th, .long z_n, .long z_m, .long z_d, .long z_a, .long z_b, .long z_v, .int z_ep, .int z_su, .ref a_buf, .int z_by, .int z_mo, .ref a_st, .ref a_bl, .ref a_fi, .ref a_ob, .ref a_si, .ref a_po, .ref a_pr, .ref a_an, .int z_bk, .ref a_bo, .long z_h])), (a_st, .inl (G.2.2.1, 12, .inl z_st)), (a_ob, .inl (G.2.2.1, 12, .inl z_ob)), (a_fi, .inl (G.2.2.1, 12, .inl z_fi)), (a_po, .inl (G.2.2.2.1, 72, .inr (.inl z_po))), (a_pr, .inl (G.2.2.1, 72, .inl z_pr)), (a_an, .inl (G.2.2.2.1, 72, .inr (.inl z_an)))] s.heap.size = A at hD ⊢
  have hA : ∀ q : Nat, s.heap.size ≤ q → A q := fun q h => by rw [← hAe]; exact Or.inr h
  have hS : va_S A s.heap s.heap [] := va_S.rf
  have hl := lv_entry ([.ref y_, .int motion, .int trustee, .long power, .int cc_, .long zz_]) (n := 8) (Nat.le_of_ble_eq_true rfl)
  rw [lg_entry_eq]
  generalize (lg_sl ([.ref y_, .int motion, .int trustee, .long power, .int cc_, .long zz_]) ++ List.replicate (8 - (lg_sl ([.ref y_, .int motion, .int trustee, .long power, .int cc_, .long zz_])).length) Slot.unset).toArray = ls at hl ⊢
  have hl : lv_has ls 8 [(0, .ref y_), (1, .int motion), (2, .int trustee), (3, .long power), (5, .int cc_), (6, .long zz_)] := hl
  obtain ⟨r0, hr0⟩ : ∃ r, f_MD_file_thrownCode motion trustee z_mo z_st z_ob = r := ⟨_, rfl⟩
  rw [hr0]
  unfold f_MD_file_thrownCode at hr0
  obtain ⟨r1, hr1⟩ : ∃ r, f_MD_file_a_fi motion trustee z_mo z_st z_ob z_fi = r := ⟨_, rfl⟩
  rw [hr1]
  unfold f_MD_file_a_fi at hr1
  obtain ⟨r2, hr2⟩ : ∃ r, f_MD_file_a_po motion trustee power z_mo z_st z_ob z_po = r := ⟨_, rfl⟩
  rw [hr2]
  unfold f_MD_file_a_po at hr2
  obtain ⟨r3, hr3⟩ : ∃ r, f_MD_file_a_pr motion trustee cc_ z_mo z_st z_ob z_pr = r := ⟨_, rfl⟩
  rw [hr3]
  unfold f_MD_file_a_pr at hr3
  obtain ⟨r4, hr4⟩ : ∃ r, f_MD_file_a_an motion trustee zz_ z_mo z_st z_ob z_an = r := ⟨_, rfl⟩
  rw [hr4]
  unfold f_MD_file_a_an at hr4
  refine lv_aload_n hx hb d_MD_file_0 rfl (lv_at hl 0 rfl) ?_
  refine lv_aload_n hx hb d_MD_file_1 rfl (lv_at hl 0 rfl) ?_
  refine lv_iload_n hx hb d_MD_file_2 rfl (lv_at hl 1 rfl) ?_
  refine xg_read (xg_runV (rest := [.ref y_]) (kw := 1) si_MD_142 hg hw S (va_recv (xg_k hg hw) hP (ci := 4) rfl (q0 := 0) rfl) (ct_MD_isMotion l hg s.heap y_ motion z_th z_n z_m z_d z_a z_b z_v z_ep z_su a_buf z_by z_mo a_st a_bl a_fi a_ob a_si a_po a_pr a_an z_bk a_bo z_h (hP.sub [0] rfl) ) ⟨by decide, by decide, by decide, by decide⟩ rfl hl.1 rfl (Nat.le_of_ble_eq_true rfl) d_MD_file_3) ?_
  refine lv_if_eq hx hb d_MD_file_6 (tgt := 16) (by decide) (fun h6 => ?_) (fun h6 => ?_)
  · rw [if_pos h6] at hr0
    rw [if_pos h6] at hr1
    rw [if_pos h6] at hr2
    rw [if_pos h6] at hr3
    rw [if_pos h6] at hr4
    refine lv_iconst (v := (1 : Int32)) hx hb d_MD_file_16 (by decide) ?_
    refine lv_goto hx hb d_MD_file_17 (tgt := 48) (by decide) ?_
    refine pf_MD_7 hg hw S hP hD hS 0 rfl rfl rfl (Nat.le_of_ble_eq_true rfl) d_MD_file_48 (fun H1 L1 hP hD hS => ?_)
    have hP : va_P G.2.1 cl_all [(y_, .inr (4, [.int (1 : Int32), .long z_n, .long z_m, .long z_d, .long z_a, .long z_b, .long z_v, .int z_ep, .int z_su, .ref a_buf, .int z_by, .int z_mo, .ref a_st, .ref a_bl, .ref a_fi, .ref a_ob, .ref a_si, .ref a_po, .ref a_pr, .ref a_an, .int z_bk, .ref a_bo, .long z_h])), (a_st, .inl (G.2.2.1, 12, .inl z_st)), (a_ob, .inl (G.2.2.1, 12, .inl z_ob)), (a_fi, .inl (G.2.2.1, 12, .inl z_fi)), (a_po, .inl (G.2.2.2.1, 72, .inr (.inl z_po))), (a_pr, .inl (G.2.2.1, 72, .inl z_pr)), (a_an, .inl (G.2.2.2.1, 72, .inr (.inl z_an)))] H1 := hP
    have hD : va_D A [(y_, .inr (4, [.int (1 : Int32), .long z_n, .long z_m, .long z_d, .long z_a, .long z_b, .long z_v, .int z_ep, .int z_su, .ref a_buf, .int z_by, .int z_mo, .ref a_st, .ref a_bl, .ref a_fi, .ref a_ob, .ref a_si, .ref a_po, .ref a_pr, .ref a_an, .int z_bk, .ref a_bo, .long z_h])), (a_st, .inl (G.2.2.1, 12, .inl z_st)), (a_ob, .inl (G.2.2.1, 12, .inl z_ob)), (a_fi, .inl (G.2.2.1, 12, .inl z_fi)), (a_po, .inl (G.2.2.2.1, 72, .inr (.inl z_po))), (a_pr, .inl (G.2.2.1, 72, .inl z_pr)), (a_an, .inl (G.2.2.2.1, 72, .inr (.inl z_an)))] := hD
    refine lv_aload_n hx hb d_MD_file_51 rfl (lv_at hl 0 rfl) ?_
    refine gf_MD_7 hg hw S hP 0 rfl rfl d_MD_file_52 ?_
    refine lv_if_eq hx hb d_MD_file_55 (tgt := 59) (by decide) (fun h55 => ?_) (fun h55 => ?_)
    · exact absurd h55 (by decide)
    · subst hr0
      subst hr1
      subst hr2
      subst hr3
      subst hr4
      exact xw_vret hx hb ht hl0 hP hD hS d_MD_file_58
  · rw [if_neg h6] at hr0
    rw [if_neg h6] at hr1
    rw [if_neg h6] at hr2
    rw [if_neg h6] at hr3
    rw [if_neg h6] at hr4
    refine lv_iload_n hx hb d_MD_file_9 rfl (lv_at hl 2 rfl) ?_
    refine xg_read (xg_runS (rest := [.ref y_]) (kw := 1) si_MD_145 hg hw S (ct_MD_isTrustee l hg s.heap trustee ) ⟨by decide, by decide, by decide, by decide⟩ rfl hl.1 rfl (Nat.le_of_ble_eq_true rfl) d_MD_file_10) ?_
    refine lv_if_ne hx hb d_MD_file_13 (tgt := 20) (by decide) (fun h13 => ?_) (fun h13 => ?_)
    · rw [if_neg h13] at hr0
      rw [if_neg h13] at hr1
      rw [if_neg h13] at hr2
      rw [if_neg h13] at hr3
      rw [if_neg h13] at hr4
      refine lv_aload_n hx hb d_MD_file_20 rfl (lv_at hl 0 rfl) ?_
      refine gf_MD_48 hg hw S hP 0 rfl rfl d_MD_file_21 ?_
      refine lv_iload_n hx hb d_MD_file_24 rfl (lv_at hl 1 rfl) ?_
      refine va_iald hx hb (xg_k hg hw) hP 1 0 rfl rfl (xs_isM h6 hQ) d_MD_file_25 ?_
      refine lv_if_ne hx hb d_MD_file_26 (tgt := 43) (by decide) (fun h26 => ?_) (fun h26 => ?_)
      · rw [if_neg h26] at hr0
        rw [if_neg h26] at hr1
        rw [if_neg h26] at hr2
        rw [if_neg h26] at hr3
        rw [if_neg h26] at hr4
        refine lv_iconst (v := (2 : Int32)) hx hb d_MD_file_43 (by decide) ?_
        refine lv_goto hx hb d_MD_file_44 (tgt := 48) (by decide) ?_
        refine pf_MD_7 hg hw S hP hD hS 0 rfl rfl rfl (Nat.le_of_ble_eq_true rfl) d_MD_file_48 (fun H2 L2 hP hD hS => ?_)
        have hP : va_P G.2.1 cl_all [(y_, .inr (4, [.int (2 : Int32), .long z_n, .long z_m, .long z_d, .long z_a, .long z_b, .long z_v, .int z_ep, .int z_su, .ref a_buf, .int z_by, .int z_mo, .ref a_st, .ref a_bl, .ref a_fi, .ref a_ob, .ref a_si, .ref a_po, .ref a_pr, .ref a_an, .int z_bk, .ref a_bo, .long z_h])), (a_st, .inl (G.2.2.1, 12, .inl z_st)), (a_ob, .inl (G.2.2.1, 12, .inl z_ob)), (a_fi, .inl (G.2.2.1, 12, .inl z_fi)), (a_po, .inl (G.2.2.2.1, 72, .inr (.inl z_po))), (a_pr, .inl (G.2.2.1, 72, .inl z_pr)), (a_an, .inl (G.2.2.2.1, 72, .inr (.inl z_an)))] H2 := hP
        have hD : va_D A [(y_, .inr (4, [.int (2 : Int32), .long z_n, .long z_m, .long z_d, .long z_a, .long z_b, .long z_v, .int z_ep, .int z_su, .ref a_buf, .int z_by, .int z_mo, .ref a_st, .ref a_bl, .ref a_fi, .ref a_ob, .ref a_si, .ref a_po, .ref a_pr, .ref a_an, .int z_bk, .ref a_bo, .long z_h])), (a_st, .inl (G.2.2.1, 12, .inl z_st)), (a_ob, .inl (G.2.2.1, 12, .inl z_ob)), (a_fi, .inl (G.2.2.1, 12, .inl z_fi)), (a_po, .inl (G.2.2.2.1, 72, .inr (.inl z_po))), (a_pr, .inl (G.2.2.1, 72, .inl z_pr)), (a_an, .inl (G.2.2.2.1, 72, .inr (.inl z_an)))] := hD
        refine lv_aload_n hx hb d_MD_file_51 rfl (lv_at hl 0 rfl) ?_
        refine gf_MD_7 hg hw S hP 0 rfl rfl d_MD_file_52 ?_
        refine lv_if_eq hx hb d_MD_file_55 (tgt := 59) (by decide) (fun h55 => ?_) (fun h55 => ?_)
        · exact absurd h55 (by decide)
        · subst hr0
          subst hr1
          subst hr2
          subst hr3
          subst hr4
          exact xw_vret hx hb ht hl0 hP hD hS d_MD_file_58
      · rw [if_pos h26] at hr0
        rw [if_pos h26] at hr1
        rw [if_pos h26] at hr2
        rw [if_pos h26] at hr3
        rw [if_pos h26] at hr4
        refine lv_aload_n hx hb d_MD_file_29 rfl (lv_at hl 0 rfl) ?_
        refine gf_MD_58 hg hw S hP 0 rfl rfl d_MD_file_30 ?_
        refine lv_iload_n hx hb d_MD_file_33 rfl (lv_at hl 1 rfl) ?_
        refine va_iald hx hb (xg_k hg hw) hP 2 0 rfl rfl (xs_isM h6 hQ) d_MD_file_34 ?_
        refine lv_iload_n hx hb d_MD_file_35 rfl (lv_at hl 2 rfl) ?_
        refine lv_ishr hx hb d_MD_file_36 ?_
        refine lv_iconst (v := (1 : Int32)) hx hb d_MD_file_37 (by decide) ?_
        refine lv_iand hx hb d_MD_file_38 ?_
        refine lv_iconst (v := (1 : Int32)) hx hb d_MD_file_39 (by decide) ?_
        refine lv_icmp_ne hx hb d_MD_file_40 (tgt := 47) (by decide) (fun h40 => ?_) (fun h40 => ?_)
        · rw [if_neg h40] at hr0
          rw [if_neg h40] at hr1
          rw [if_neg h40] at hr2
          rw [if_neg h40] at hr3
          rw [if_neg h40] at hr4
          refine lv_iconst (v := (0 : Int32)) hx hb d_MD_file_47 (by decide) ?_
          refine pf_MD_7 hg hw S hP hD hS 0 rfl rfl rfl (Nat.le_of_ble_eq_true rfl) d_MD_file_48 (fun H3 L3 hP hD hS => ?_)
          have hP : va_P G.2.1 cl_all [(y_, .inr (4, [.int (0 : Int32), .long z_n, .long z_m, .long z_d, .long z_a, .long z_b, .long z_v, .int z_ep, .int z_su, .ref a_buf, .int z_by, .int z_mo, .ref a_st, .ref a_bl, .ref a_fi, .ref a_ob, .ref a_si, .ref a_po, .ref a_pr, .ref a_an, .int z_bk, .ref a_bo, .long z_h])), (a_st, .inl (G.2.2.1, 12, .inl z_st)), (a_ob, .inl (G.2.2.1, 12, .inl z_ob)), (a_fi, .inl (G.2.2.1, 12, .inl z_fi)), (a_po, .inl (G.2.2.2.1, 72, .inr (.inl z_po))), (a_pr, .inl (G.2.2.1, 72, .inl z_pr)), (a_an, .inl (G.2.2.2.1, 72, .inr (.inl z_an)))] H3 := hP
          have hD : va_D A [(y_, .inr (4, [.int (0 : Int32), .long z_n, .long z_m, .long z_d, .long z_a, .long z_b, .long z_v, .int z_ep, .int z_su, .ref a_buf, .int z_by, .int z_mo, .ref a_st, .ref a_bl, .ref a_fi, .ref a_ob, .ref a_si, .ref a_po, .ref a_pr, .ref a_an, .int z_bk, .ref a_bo, .long z_h])), (a_st, .inl (G.2.2.1, 12, .inl z_st)), (a_ob, .inl (G.2.2.1, 12, .inl z_ob)), (a_fi, .inl (G.2.2.1, 12, .inl z_fi)), (a_po, .inl (G.2.2.2.1, 72, .inr (.inl z_po))), (a_pr, .inl (G.2.2.1, 72, .inl z_pr)), (a_an, .inl (G.2.2.2.1, 72, .inr (.inl z_an)))] := hD
          refine lv_aload_n hx hb d_MD_file_51 rfl (lv_at hl 0 rfl) ?_
          refine gf_MD_7 hg hw S hP 0 rfl rfl d_MD_file_52 ?_
          refine lv_if_eq hx hb d_MD_file_55 (tgt := 59) (by decide) (fun h55 => ?_) (fun h55 => ?_)
          · refine lv_aload_n hx hb d_MD_file_59 rfl (lv_at hl 0 rfl) ?_
            refine gf_MD_64 hg hw S hP 0 rfl rfl d_MD_file_60 ?_
            refine lv_bipush (v := (6 : Int32)) hx hb d_MD_file_63 (by decide) ?_
            refine lv_iload_n hx hb d_MD_file_65 rfl (lv_at hl 1 rfl) ?_
            refine lv_imul hx hb d_MD_file_66 ?_
            refine lv_iload_n hx hb d_MD_file_67 rfl (lv_at hl 2 rfl) ?_
            refine lv_iadd hx hb d_MD_file_68 ?_
            refine lv_lload_n hx hb d_MD_file_69 rfl (lv_at hl 3 rfl) ?_
            refine va_last hx hb (xg_k hg hw) hP hD hS 4 1 rfl rfl (xs_72 (xs_isM h6 hQ) (xs_isT h13)) d_MD_file_70 (fun H4 L4 hP hD hS => ?_)
            have hP : va_P G.2.1 cl_all [(y_, .inr (4, [.int (0 : Int32), .long z_n, .long z_m, .long z_d, .long z_a, .long z_b, .long z_v, .int z_ep, .int z_su, .ref a_buf, .int z_by, .int z_mo, .ref a_st, .ref a_bl, .ref a_fi, .ref a_ob, .ref a_si, .ref a_po, .ref a_pr, .ref a_an, .int z_bk, .ref a_bo, .long z_h])), (a_st, .inl (G.2.2.1, 12, .inl z_st)), (a_ob, .inl (G.2.2.1, 12, .inl z_ob)), (a_fi, .inl (G.2.2.1, 12, .inl z_fi)), (a_po, .inl (G.2.2.2.1, 72, .inr (.inl (vp_updL z_po (((6 : Int32) * motion) + trustee).toNatClampNeg power)))), (a_pr, .inl (G.2.2.1, 72, .inl z_pr)), (a_an, .inl (G.2.2.2.1, 72, .inr (.inl z_an)))] H4 := hP
            have hD : va_D A [(y_, .inr (4, [.int (0 : Int32), .long z_n, .long z_m, .long z_d, .long z_a, .long z_b, .long z_v, .int z_ep, .int z_su, .ref a_buf, .int z_by, .int z_mo, .ref a_st, .ref a_bl, .ref a_fi, .ref a_ob, .ref a_si, .ref a_po, .ref a_pr, .ref a_an, .int z_bk, .ref a_bo, .long z_h])), (a_st, .inl (G.2.2.1, 12, .inl z_st)), (a_ob, .inl (G.2.2.1, 12, .inl z_ob)), (a_fi, .inl (G.2.2.1, 12, .inl z_fi)), (a_po, .inl (G.2.2.2.1, 72, .inr (.inl (vp_updL z_po (((6 : Int32) * motion) + trustee).toNatClampNeg power)))), (a_pr, .inl (G.2.2.1, 72, .inl z_pr)), (a_an, .inl (G.2.2.2.1, 72, .inr (.inl z_an)))] := hD
            refine lv_aload_n hx hb d_MD_file_71 rfl (lv_at hl 0 rfl) ?_
            refine gf_MD_67 hg hw S hP 0 rfl rfl d_MD_file_72 ?_
            refine lv_bipush (v := (6 : Int32)) hx hb d_MD_file_75 (by decide) ?_
            refine lv_iload_n hx hb d_MD_file_77 rfl (lv_at hl 1 rfl) ?_
            refine lv_imul hx hb d_MD_file_78 ?_
            refine lv_iload_n hx hb d_MD_file_79 rfl (lv_at hl 2 rfl) ?_
            refine lv_iadd hx hb d_MD_file_80 ?_
            refine lv_iload hx hb d_MD_file_81 (lv_at hl 4 rfl) ?_
            refine va_iast hx hb (xg_k hg hw) hP hD hS 5 0 rfl rfl (xs_72 (xs_isM h6 hQ) (xs_isT h13)) d_MD_file_83 (fun H5 L5 hP hD hS => ?_)
            have hP : va_P G.2.1 cl_all [(y_, .inr (4, [.int (0 : Int32), .long z_n, .long z_m, .long z_d, .long z_a, .long z_b, .long z_v, .int z_ep, .int z_su, .ref a_buf, .int z_by, .int z_mo, .ref a_st, .ref a_bl, .ref a_fi, .ref a_ob, .ref a_si, .ref a_po, .ref a_pr, .ref a_an, .int z_bk, .ref a_bo, .long z_h])), (a_st, .inl (G.2.2.1, 12, .inl z_st)), (a_ob, .inl (G.2.2.1, 12, .inl z_ob)), (a_fi, .inl (G.2.2.1, 12, .inl z_fi)), (a_po, .inl (G.2.2.2.1, 72, .inr (.inl (vp_updL z_po (((6 : Int32) * motion) + trustee).toNatClampNeg power)))), (a_pr, .inl (G.2.2.1, 72, .inl (upd z_pr (((6 : Int32) * motion) + trustee).toNatClampNeg cc_))), (a_an, .inl (G.2.2.2.1, 72, .inr (.inl z_an)))] H5 := hP
            have hD : va_D A [(y_, .inr (4, [.int (0 : Int32), .long z_n, .long z_m, .long z_d, .long z_a, .long z_b, .long z_v, .int z_ep, .int z_su, .ref a_buf, .int z_by, .int z_mo, .ref a_st, .ref a_bl, .ref a_fi, .ref a_ob, .ref a_si, .ref a_po, .ref a_pr, .ref a_an, .int z_bk, .ref a_bo, .long z_h])), (a_st, .inl (G.2.2.1, 12, .inl z_st)), (a_ob, .inl (G.2.2.1, 12, .inl z_ob)), (a_fi, .inl (G.2.2.1, 12, .inl z_fi)), (a_po, .inl (G.2.2.2.1, 72, .inr (.inl (vp_updL z_po (((6 : Int32) * motion) + trustee).toNatClampNeg power)))), (a_pr, .inl (G.2.2.1, 72, .inl (upd z_pr (((6 : Int32) * motion) + trustee).toNatClampNeg cc_))), (a_an, .inl (G.2.2.2.1, 72, .inr (.inl z_an)))] := hD
            refine lv_aload_n hx hb d_MD_file_84 rfl (lv_at hl 0 rfl) ?_
            refine gf_MD_70 hg hw S hP 0 rfl rfl d_MD_file_85 ?_
            refine lv_bipush (v := (6 : Int32)) hx hb d_MD_file_88 (by decide) ?_
            refine lv_iload_n hx hb d_MD_file_90 rfl (lv_at hl 1 rfl) ?_
            refine lv_imul hx hb d_MD_file_91 ?_
            refine lv_iload_n hx hb d_MD_file_92 rfl (lv_at hl 2 rfl) ?_
            refine lv_iadd hx hb d_MD_file_93 ?_
            refine lv_lload hx hb d_MD_file_94 (lv_at hl 5 rfl) ?_
            refine va_last hx hb (xg_k hg hw) hP hD hS 6 1 rfl rfl (xs_72 (xs_isM h6 hQ) (xs_isT h13)) d_MD_file_96 (fun H6 L6 hP hD hS => ?_)
            have hP : va_P G.2.1 cl_all [(y_, .inr (4, [.int (0 : Int32), .long z_n, .long z_m, .long z_d, .long z_a, .long z_b, .long z_v, .int z_ep, .int z_su, .ref a_buf, .int z_by, .int z_mo, .ref a_st, .ref a_bl, .ref a_fi, .ref a_ob, .ref a_si, .ref a_po, .ref a_pr, .ref a_an, .int z_bk, .ref a_bo, .long z_h])), (a_st, .inl (G.2.2.1, 12, .inl z_st)), (a_ob, .inl (G.2.2.1, 12, .inl z_ob)), (a_fi, .inl (G.2.2.1, 12, .inl z_fi)), (a_po, .inl (G.2.2.2.1, 72, .inr (.inl (vp_updL z_po (((6 : Int32) * motion) + trustee).toNatClampNeg power)))), (a_pr, .inl (G.2.2.1, 72, .inl (upd z_pr (((6 : Int32) * motion) + trustee).toNatClampNeg cc_))), (a_an, .inl (G.2.2.2.1, 72, .inr (.inl (vp_updL z_an (((6 : Int32) * motion) + trustee).toNatClampNeg zz_))))] H6 := hP
            have hD : va_D A [(y_, .inr (4, [.int (0 : Int32), .long z_n, .long z_m, .long z_d, .long z_a, .long z_b, .long z_v, .int z_ep, .int z_su, .ref a_buf, .int z_by, .int z_mo, .ref a_st, .ref a_bl, .ref a_fi, .ref a_ob, .ref a_si, .ref a_po, .ref a_pr, .ref a_an, .int z_bk, .ref a_bo, .long z_h])), (a_st, .inl (G.2.2.1, 12, .inl z_st)), (a_ob, .inl (G.2.2.1, 12, .inl z_ob)), (a_fi, .inl (G.2.2.1, 12, .inl z_fi)), (a_po, .inl (G.2.2.2.1, 72, .inr (.inl (vp_updL z_po (((6 : Int32) * motion) + trustee).toNatClampNeg power)))), (a_pr, .inl (G.2.2.1, 72, .inl (upd z_pr (((6 : Int32) * motion) + trustee).toNatClampNeg cc_))), (a_an, .inl (G.2.2.2.1, 72, .inr (.inl (vp_updL z_an (((6 : Int32) * motion) + trustee).toNatClampNeg zz_))))] := hD
            refine lv_aload_n hx hb d_MD_file_97 rfl (lv_at hl 0 rfl) ?_
            refine gf_MD_55 hg hw S hP 0 rfl rfl d_MD_file_98 ?_
            refine lv_iload_n hx hb d_MD_file_101 rfl (lv_at hl 1 rfl) ?_
            refine lv_aload_n hx hb d_MD_file_102 rfl (lv_at hl 0 rfl) ?_
            refine gf_MD_55 hg hw S hP 0 rfl rfl d_MD_file_103 ?_
            refine lv_iload_n hx hb d_MD_file_106 rfl (lv_at hl 1 rfl) ?_
            refine va_iald hx hb (xg_k hg hw) hP 3 0 rfl rfl (xs_isM h6 hQ) d_MD_file_107 ?_
            refine lv_iconst (v := (1 : Int32)) hx hb d_MD_file_108 (by decide) ?_
            refine lv_iload_n hx hb d_MD_file_109 rfl (lv_at hl 2 rfl) ?_
            refine lv_ishl hx hb d_MD_file_110 ?_
            refine lv_ior hx hb d_MD_file_111 ?_
            refine va_iast hx hb (xg_k hg hw) hP hD hS 3 0 rfl rfl (xs_isM h6 hQ) d_MD_file_112 (fun H7 L7 hP hD hS => ?_)
            have hP : va_P G.2.1 cl_all [(y_, .inr (4, [.int (0 : Int32), .long z_n, .long z_m, .long z_d, .long z_a, .long z_b, .long z_v, .int z_ep, .int z_su, .ref a_buf, .int z_by, .int z_mo, .ref a_st, .ref a_bl, .ref a_fi, .ref a_ob, .ref a_si, .ref a_po, .ref a_pr, .ref a_an, .int z_bk, .ref a_bo, .long z_h])), (a_st, .inl (G.2.2.1, 12, .inl z_st)), (a_ob, .inl (G.2.2.1, 12, .inl z_ob)), (a_fi, .inl (G.2.2.1, 12, .inl (upd z_fi motion.toNatClampNeg ((z_fi motion.toNatClampNeg) ||| ((1 : Int32) <<< (trustee &&& 31)))))), (a_po, .inl (G.2.2.2.1, 72, .inr (.inl (vp_updL z_po (((6 : Int32) * motion) + trustee).toNatClampNeg power)))), (a_pr, .inl (G.2.2.1, 72, .inl (upd z_pr (((6 : Int32) * motion) + trustee).toNatClampNeg cc_))), (a_an, .inl (G.2.2.2.1, 72, .inr (.inl (vp_updL z_an (((6 : Int32) * motion) + trustee).toNatClampNeg zz_))))] H7 := hP
            have hD : va_D A [(y_, .inr (4, [.int (0 : Int32), .long z_n, .long z_m, .long z_d, .long z_a, .long z_b, .long z_v, .int z_ep, .int z_su, .ref a_buf, .int z_by, .int z_mo, .ref a_st, .ref a_bl, .ref a_fi, .ref a_ob, .ref a_si, .ref a_po, .ref a_pr, .ref a_an, .int z_bk, .ref a_bo, .long z_h])), (a_st, .inl (G.2.2.1, 12, .inl z_st)), (a_ob, .inl (G.2.2.1, 12, .inl z_ob)), (a_fi, .inl (G.2.2.1, 12, .inl (upd z_fi motion.toNatClampNeg ((z_fi motion.toNatClampNeg) ||| ((1 : Int32) <<< (trustee &&& 31)))))), (a_po, .inl (G.2.2.2.1, 72, .inr (.inl (vp_updL z_po (((6 : Int32) * motion) + trustee).toNatClampNeg power)))), (a_pr, .inl (G.2.2.1, 72, .inl (upd z_pr (((6 : Int32) * motion) + trustee).toNatClampNeg cc_))), (a_an, .inl (G.2.2.2.1, 72, .inr (.inl (vp_updL z_an (((6 : Int32) * motion) + trustee).toNatClampNeg zz_))))] := hD
            subst hr0
            subst hr1
            subst hr2
            subst hr3
            subst hr4
            exact xw_vret hx hb ht hl0 hP hD hS d_MD_file_113
          · exact absurd h55 (by decide)
        · rw [if_pos h40] at hr0
          rw [if_pos h40] at hr1
          rw [if_pos h40] at hr2
          rw [if_pos h40] at hr3
          rw [if_pos h40] at hr4
          refine lv_iconst (v := (2 : Int32)) hx hb d_MD_file_43 (by decide) ?_
          refine lv_goto hx hb d_MD_file_44 (tgt := 48) (by decide) ?_
          refine pf_MD_7 hg hw S hP hD hS 0 rfl rfl rfl (Nat.le_of_ble_eq_true rfl) d_MD_file_48 (fun H8 L8 hP hD hS => ?_)
          have hP : va_P G.2.1 cl_all [(y_, .inr (4, [.int (2 : Int32), .long z_n, .long z_m, .long z_d, .long z_a, .long z_b, .long z_v, .int z_ep, .int z_su, .ref a_buf, .int z_by, .int z_mo, .ref a_st, .ref a_bl, .ref a_fi, .ref a_ob, .ref a_si, .ref a_po, .ref a_pr, .ref a_an, .int z_bk, .ref a_bo, .long z_h])), (a_st, .inl (G.2.2.1, 12, .inl z_st)), (a_ob, .inl (G.2.2.1, 12, .inl z_ob)), (a_fi, .inl (G.2.2.1, 12, .inl z_fi)), (a_po, .inl (G.2.2.2.1, 72, .inr (.inl z_po))), (a_pr, .inl (G.2.2.1, 72, .inl z_pr)), (a_an, .inl (G.2.2.2.1, 72, .inr (.inl z_an)))] H8 := hP
          have hD : va_D A [(y_, .inr (4, [.int (2 : Int32), .long z_n, .long z_m, .long z_d, .long z_a, .long z_b, .long z_v, .int z_ep, .int z_su, .ref a_buf, .int z_by, .int z_mo, .ref a_st, .ref a_bl, .ref a_fi, .ref a_ob, .ref a_si, .ref a_po, .ref a_pr, .ref a_an, .int z_bk, .ref a_bo, .long z_h])), (a_st, .inl (G.2.2.1, 12, .inl z_st)), (a_ob, .inl (G.2.2.1, 12, .inl z_ob)), (a_fi, .inl (G.2.2.1, 12, .inl z_fi)), (a_po, .inl (G.2.2.2.1, 72, .inr (.inl z_po))), (a_pr, .inl (G.2.2.1, 72, .inl z_pr)), (a_an, .inl (G.2.2.2.1, 72, .inr (.inl z_an)))] := hD
          refine lv_aload_n hx hb d_MD_file_51 rfl (lv_at hl 0 rfl) ?_
          refine gf_MD_7 hg hw S hP 0 rfl rfl d_MD_file_52 ?_
          refine lv_if_eq hx hb d_MD_file_55 (tgt := 59) (by decide) (fun h55 => ?_) (fun h55 => ?_)
          · exact absurd h55 (by decide)
          · subst hr0
            subst hr1
            subst hr2
            subst hr3
            subst hr4
            exact xw_vret hx hb ht hl0 hP hD hS d_MD_file_58
    · rw [if_pos h13] at hr0
      rw [if_pos h13] at hr1
      rw [if_pos h13] at hr2
      rw [if_pos h13] at hr3
      rw [if_pos h13] at hr4
      refine lv_iconst (v := (1 : Int32)) hx hb d_MD_file_16 (by decide) ?_
      refine lv_goto hx hb d_MD_file_17 (tgt := 48) (by decide) ?_
      refine pf_MD_7 hg hw S hP hD hS 0 rfl rfl rfl (Nat.le_of_ble_eq_true rfl) d_MD_file_48 (fun H9 L9 hP hD hS => ?_)
      have hP : va_P G.2.1 cl_all [(y_, .inr (4, [.int (1 : Int32), .long z_n, .long z_m, .long z_d, .long z_a, .long z_b, .long z_v, .int z_ep, .int z_su, .ref a_buf, .int z_by, .int z_mo, .ref a_st, .ref a_bl, .ref a_fi, .ref a_ob, .ref a_si, .ref a_po, .ref a_pr, .ref a_an, .int z_bk, .ref a_bo, .long z_h])), (a_st, .inl (G.2.2.1, 12, .inl z_st)), (a_ob, .inl (G.2.2.1, 12, .inl z_ob)), (a_fi, .inl (G.2.2.1, 12, .inl z_fi)), (a_po, .inl (G.2.2.2.1, 72, .inr (.inl z_po))), (a_pr, .inl (G.2.2.1, 72, .inl z_pr)), (a_an, .inl (G.2.2.2.1, 72, .inr (.inl z_an)))] H9 := hP
      have hD : va_D A [(y_, .inr (4, [.int (1 : Int32), .long z_n, .long z_m, .long z_d, .long z_a, .long z_b, .long z_v, .int z_ep, .int z_su, .ref a_buf, .int z_by, .int z_mo, .ref a_st, .ref a_bl, .ref a_fi, .ref a_ob, .ref a_si, .ref a_po, .ref a_pr, .ref a_an, .int z_bk, .ref a_bo, .long z_h])), (a_st, .inl (G.2.2.1, 12, .inl z_st)), (a_ob, .inl (G.2.2.1, 12, .inl z_ob)), (a_fi, .inl (G.2.2.1, 12, .inl z_fi)), (a_po, .inl (G.2.2.2.1, 72, .inr (.inl z_po))), (a_pr, .inl (G.2.2.1, 72, .inl z_pr)), (a_an, .inl (G.2.2.2.1, 72, .inr (.inl z_an)))] := hD
      refine lv_aload_n hx hb d_MD_file_51 rfl (lv_at hl 0 rfl) ?_
      refine gf_MD_7 hg hw S hP 0 rfl rfl d_MD_file_52 ?_
      refine lv_if_eq hx hb d_MD_file_55 (tgt := 59) (by decide) (fun h55 => ?_) (fun h55 => ?_)
      · exact absurd h55 (by decide)
      · subst hr0
        subst hr1
        subst hr2
        subst hr3
        subst hr4
        exact xw_vret hx hb ht hl0 hP hD hS d_MD_file_58
def f_MD_partial (motion : Int32) (trustee : Int32) (what : Int32) (z_mo : Int32) (z_fi : Nat → Int32) (z_po : Nat → Int64) (z_pr : Nat → Int32) (z_an : Nat → Int64) : Int64 := if (f_MD_isMotion motion z_mo) = 0 then (0 : Int64) else (if (f_MD_isTrustee trustee) = 0 then (0 : Int64) else (if (((z_fi motion.toNatClampNeg) >>> (trustee &&& 31)) &&& (1 : Int32)) = 0 then (0 : Int64) else (if what < 0 then (0 : Int64) else (if what ≤ (2 : Int32) then (if what = 0 then (z_po (((6 : Int32) * motion) + trustee).toNatClampNeg) else (if what = (1 : Int32) then ((z_pr (((6 : Int32) * motion) + trustee).toNatClampNeg).toInt64) else (z_an (((6 : Int32) * motion) + trustee).toNatClampNeg))) else (0 : Int64)))))
def f_MD_partial_thrownCode (motion : Int32) (trustee : Int32) (what : Int32) (z_mo : Int32) (z_fi : Nat → Int32) : Int32 := if (f_MD_isMotion motion z_mo) = 0 then (1 : Int32) else (if (f_MD_isTrustee trustee) = 0 then (1 : Int32) else (if (((z_fi motion.toNatClampNeg) >>> (trustee &&& 31)) &&& (1 : Int32)) = 0 then (1 : Int32) else (if what < 0 then (2 : Int32) else (if what ≤ (2 : Int32) then (if what = 0 then (0 : Int32) else (if what = (1 : Int32) then (0 : Int32) else (0 : Int32))) else (2 : Int32)))))
set_option maxHeartbeats 4000000 in
set_option maxRecDepth 100000 in
theorem ct_MD_partial (l : Launch) {G : xg_G} (hg : xg_F G) (H : Heap) (y_ : Nat) (motion : Int32) (trustee : Int32) (what : Int32) (z_th : Int32) (z_n : Int64) (z_m : Int64) (z_d : Int64) (z_a : Int64) (z_b : Int64) (z_v : Int64) (z_ep : Int32) (z_su : Int32) (a_buf : Nat) (z_by : Int32) (z_mo : Int32) (a_st : Nat) (a_bl : Nat) (a_fi : Nat) (a_ob : Nat) (a_si : Nat) (a_po : Nat) (a_pr : Nat) (a_an : Nat) (z_bk : Int32) (a_bo : Nat) (z_h : Int64) (z_fi : Nat → Int32) (z_po : Nat → Int64) (z_pr : Nat → Int32) (z_an : Nat → Int64) (hP : va_P G.2.1 cl_all [(y_, .inr (4, [.int z_th, .long z_n, .long z_m, .long z_d, .long z_a, .long z_b, .long z_v, .int z_ep, .int z_su, .ref a_buf, .int z_by, .int z_mo, .ref a_st, .ref a_bl, .ref a_fi, .ref a_ob, .ref a_si, .ref a_po, .ref a_pr, .ref a_an, .int z_bk, .ref a_bo, .long z_h])), (a_fi, .inl (G.2.2.1, 12, .inl z_fi)), (a_po, .inl (G.2.2.2.1, 72, .inr (.inl z_po))), (a_pr, .inl (G.2.2.1, 72, .inl z_pr)), (a_an, .inl (G.2.2.2.1, 72, .inr (.inl z_an)))] H) (hD0 : va_D (fun _ => True) [(y_, .inr (4, [.int z_th, .long z_n, .long z_m, .long z_d, .long z_a, .long z_b, .long z_v, .int z_ep, .int z_su, .ref a_buf, .int z_by, .int z_mo, .ref a_st, .ref a_bl, .ref a_fi, .ref a_ob, .ref a_si, .ref a_po, .ref a_pr, .ref a_an, .int z_bk, .ref a_bo, .long z_h])), (a_fi, .inl (G.2.2.1, 12, .inl z_fi)), (a_po, .inl (G.2.2.2.1, 72, .inr (.inl z_po))), (a_pr, .inl (G.2.2.1, 72, .inl z_pr)), (a_an, .inl (G.2.2.2.1, 72, .inr (.inl z_an)))]) (hQ : z_mo.toInt ≤ 12) : xc_Met l y_MD_partial (.code y_MD_partial b_MD_partial 5 (some .long)) ({ frames := 1, cells := 0, slots := 0, locals := 14 } : Room) (xg_Pc G [.ref y_, .int motion, .int trustee, .int what] H) (xw_post G (va_A [(y_, .inr (4, [.int z_th, .long z_n, .long z_m, .long z_d, .long z_a, .long z_b, .long z_v, .int z_ep, .int z_su, .ref a_buf, .int z_by, .int z_mo, .ref a_st, .ref a_bl, .ref a_fi, .ref a_ob, .ref a_si, .ref a_po, .ref a_pr, .ref a_an, .int z_bk, .ref a_bo, .long z_h])), (a_fi, .inl (G.2.2.1, 12, .inl z_fi)), (a_po, .inl (G.2.2.2.1, 72, .inr (.inl z_po))), (a_pr, .inl (G.2.2.1, 72, .inl z_pr)), (a_an, .inl (G.2.2.2.1, 72, .inr (.inl z_an)))] H.size) (some (.long (f_MD_partial motion trustee what z_mo z_fi z_po z_pr z_an))) [(y_, .inr (4, [.int (f_MD_partial_thrownCode motion trustee what z_mo z_fi), .long z_n, .long z_m, .long z_d, .long z_a, .long z_b, .long z_v, .int z_ep, .int z_su, .ref a_buf, .int z_by, .int z_mo, .ref a_st, .ref a_bl, .ref a_fi, .ref a_ob, .ref a_si, .ref a_po, .ref a_pr, .ref a_an, .int z_bk, .ref a_bo, .long z_h])), (a_fi, .inl (G.2.2.1, 12, .inl z_fi)), (a_po, .inl (G.2.2.2.1, 72, .inr (.inl z_po))), (a_pr, .inl (G.2.2.1, 72, .inl z_pr)), (a_an, .inl (G.2.2.2.1, 72, .inr (.inl z_an)))]) (va_A [(y_, .inr (4, [.int z_th, .long z_n, .long z_m, .long z_d, .long z_a, .long z_b, .long z_v, .int z_ep, .int z_su, .ref a_buf, .int z_by, .int z_mo, .ref a_st, .ref a_bl, .ref a_fi, .ref a_ob, .ref a_si, .ref a_po, .ref a_pr, .ref a_an, .int z_bk, .ref a_bo, .long z_h])), (a_fi, .inl (G.2.2.1, 12, .inl z_fi)), (a_po, .inl (G.2.2.2.1, 72, .inr (.inl z_po))), (a_pr, .inl (G.2.2.1, 72, .inl z_pr)), (a_an, .inl (G.2.2.2.1, 72, .inr (.inl z_an)))] H.size) := by
  refine xc_ofW (by decide) ?_
  intro p e s m args below meth c s₁ B hml hE hv
  obtain ⟨rfl, rfl, hw⟩ := hv
  have hx := B.exec
  have hb := B.bytes
  have ht := B.returns
  have hl0 := B.notSynchronized
  have S : xc_Fix p m c b_MD_partial 5 s "SealTrustModel" := ⟨hx, hb, hml, findClass_of_methodNamed B.named⟩
  have hD := hD0.self (sz := s.heap.size)
  generalize hAe : va_A [(y_, .inr (4, [.int z_th, .long z_n, .long z_m, .long z_d, .long z_a, .long z_b, .long z_v, .int z_ep, .int z_su, .ref a_buf, .int z_by, .int z_mo, .ref a_st, .ref a_bl, .ref a_fi, .ref a_ob, .ref a_si, .ref a_po, .ref a_pr, .ref a_an, .int z_bk, .ref a_bo, .long z_h])), (a_fi, .inl (G.2.2.1, 12, .inl z_fi)), (a_po, .inl (G.2.2.2.1, 72, .inr (.inl z_po))), (a_pr, .inl (G.2.2.1, 72, .inl z_pr)), (a_an, .inl (G.2.2.2.1, 72, .inr (.inl z_an)))] s.heap.size = A at hD ⊢
  have hA : ∀ q : Nat, s.heap.size ≤ q → A q := fun q h => by rw [← hAe]; exact Or.inr h
  have hS : va_S A s.heap s.heap [] := va_S.rf
  have hl := lv_entry ([.ref y_, .int motion, .int trustee, .int what]) (n := 5) (Nat.le_of_ble_eq_true rfl)
  rw [lg_entry_eq]
  generalize (lg_sl ([.ref y_, .int motion, .int trustee, .int what]) ++ List.replicate (5 - (lg_sl ([.ref y_, .int motion, .int trustee, .int what])).length) Slot.unset).toArray = ls at hl ⊢
  have hl : lv_has ls 5 [(0, .ref y_), (1, .int motion), (2, .int trustee), (3, .int what)] := hl
  obtain ⟨r0, hr0⟩ : ∃ r, f_MD_partial motion trustee what z_mo z_fi z_po z_pr z_an = r := ⟨_, rfl⟩
  rw [hr0]
  unfold f_MD_partial at hr0
  obtain ⟨r1, hr1⟩ : ∃ r, f_MD_partial_thrownCode motion trustee what z_mo z_fi = r := ⟨_, rfl⟩
  rw [hr1]
  unfold f_MD_partial_thrownCode at hr1
  refine lv_aload_n hx hb d_MD_partial_0 rfl (lv_at hl 0 rfl) ?_
  refine lv_aload_n hx hb d_MD_partial_1 rfl (lv_at hl 0 rfl) ?_
  refine lv_iload_n hx hb d_MD_partial_2 rfl (lv_at hl 1 rfl) ?_
  refine xg_read (xg_runV (rest := [.ref y_]) (kw := 1) si_MD_142 hg hw S (va_recv (xg_k hg hw) hP (ci := 4) rfl (q0 := 0) rfl) (ct_MD_isMotion l hg s.heap y_ motion z_th z_n z_m z_d z_a z_b z_v z_ep z_su a_buf z_by z_mo a_st a_bl a_fi a_ob a_si a_po a_pr a_an z_bk a_bo z_h (hP.sub [0] rfl) ) ⟨by decide, by decide, by decide, by decide⟩ rfl hl.1 rfl (Nat.le_of_ble_eq_true rfl) d_MD_partial_3) ?_
  refine lv_if_eq hx hb d_MD_partial_6 (tgt := 29) (by decide) (fun h6 => ?_) (fun h6 => ?_)
  · rw [if_pos h6] at hr0
    rw [if_pos h6] at hr1
    refine lv_iconst (v := (1 : Int32)) hx hb d_MD_partial_29 (by decide) ?_
    refine lv_goto hx hb d_MD_partial_30 (tgt := 47) (by decide) ?_
    refine pf_MD_7 hg hw S hP hD hS 0 rfl rfl rfl (Nat.le_of_ble_eq_true rfl) d_MD_partial_47 (fun H1 L1 hP hD hS => ?_)
    have hP : va_P G.2.1 cl_all [(y_, .inr (4, [.int (1 : Int32), .long z_n, .long z_m, .long z_d, .long z_a, .long z_b, .long z_v, .int z_ep, .int z_su, .ref a_buf, .int z_by, .int z_mo, .ref a_st, .ref a_bl, .ref a_fi, .ref a_ob, .ref a_si, .ref a_po, .ref a_pr, .ref a_an, .int z_bk, .ref a_bo, .long z_h])), (a_fi, .inl (G.2.2.1, 12, .inl z_fi)), (a_po, .inl (G.2.2.2.1, 72, .inr (.inl z_po))), (a_pr, .inl (G.2.2.1, 72, .inl z_pr)), (a_an, .inl (G.2.2.2.1, 72, .inr (.inl z_an)))] H1 := hP
    have hD : va_D A [(y_, .inr (4, [.int (1 : Int32), .long z_n, .long z_m, .long z_d, .long z_a, .long z_b, .long z_v, .int z_ep, .int z_su, .ref a_buf, .int z_by, .int z_mo, .ref a_st, .ref a_bl, .ref a_fi, .ref a_ob, .ref a_si, .ref a_po, .ref a_pr, .ref a_an, .int z_bk, .ref a_bo, .long z_h])), (a_fi, .inl (G.2.2.1, 12, .inl z_fi)), (a_po, .inl (G.2.2.2.1, 72, .inr (.inl z_po))), (a_pr, .inl (G.2.2.1, 72, .inl z_pr)), (a_an, .inl (G.2.2.2.1, 72, .inr (.inl z_an)))] := hD
    refine lv_aload_n hx hb d_MD_partial_50 rfl (lv_at hl 0 rfl) ?_
    refine gf_MD_7 hg hw S hP 0 rfl rfl d_MD_partial_51 ?_
    refine lv_if_eq hx hb d_MD_partial_54 (tgt := 59) (by decide) (fun h54 => ?_) (fun h54 => ?_)
    · exact absurd h54 (by decide)
    · refine lv_lconst (v := (0 : Int64)) hx hb d_MD_partial_57 (by decide) ?_
      subst hr0
      subst hr1
      exact xw_lret hx hb ht hl0 hP hD hS d_MD_partial_58
  · rw [if_neg h6] at hr0
    rw [if_neg h6] at hr1
    refine lv_iload_n hx hb d_MD_partial_9 rfl (lv_at hl 2 rfl) ?_
    refine xg_read (xg_runS (rest := [.ref y_]) (kw := 1) si_MD_145 hg hw S (ct_MD_isTrustee l hg s.heap trustee ) ⟨by decide, by decide, by decide, by decide⟩ rfl hl.1 rfl (Nat.le_of_ble_eq_true rfl) d_MD_partial_10) ?_
    refine lv_if_eq hx hb d_MD_partial_13 (tgt := 29) (by decide) (fun h13 => ?_) (fun h13 => ?_)
    · rw [if_pos h13] at hr0
      rw [if_pos h13] at hr1
      refine lv_iconst (v := (1 : Int32)) hx hb d_MD_partial_29 (by decide) ?_
      refine lv_goto hx hb d_MD_partial_30 (tgt := 47) (by decide) ?_
      refine pf_MD_7 hg hw S hP hD hS 0 rfl rfl rfl (Nat.le_of_ble_eq_true rfl) d_MD_partial_47 (fun H2 L2 hP hD hS => ?_)
      have hP : va_P G.2.1 cl_all [(y_, .inr (4, [.int (1 : Int32), .long z_n, .long z_m, .long z_d, .long z_a, .long z_b, .long z_v, .int z_ep, .int z_su, .ref a_buf, .int z_by, .int z_mo, .ref a_st, .ref a_bl, .ref a_fi, .ref a_ob, .ref a_si, .ref a_po, .ref a_pr, .ref a_an, .int z_bk, .ref a_bo, .long z_h])), (a_fi, .inl (G.2.2.1, 12, .inl z_fi)), (a_po, .inl (G.2.2.2.1, 72, .inr (.inl z_po))), (a_pr, .inl (G.2.2.1, 72, .inl z_pr)), (a_an, .inl (G.2.2.2.1, 72, .inr (.inl z_an)))] H2 := hP
      have hD : va_D A [(y_, .inr (4, [.int (1 : Int32), .long z_n, .long z_m, .long z_d, .long z_a, .long z_b, .long z_v, .int z_ep, .int z_su, .ref a_buf, .int z_by, .int z_mo, .ref a_st, .ref a_bl, .ref a_fi, .ref a_ob, .ref a_si, .ref a_po, .ref a_pr, .ref a_an, .int z_bk, .ref a_bo, .long z_h])), (a_fi, .inl (G.2.2.1, 12, .inl z_fi)), (a_po, .inl (G.2.2.2.1, 72, .inr (.inl z_po))), (a_pr, .inl (G.2.2.1, 72, .inl z_pr)), (a_an, .inl (G.2.2.2.1, 72, .inr (.inl z_an)))] := hD
      refine lv_aload_n hx hb d_MD_partial_50 rfl (lv_at hl 0 rfl) ?_
      refine gf_MD_7 hg hw S hP 0 rfl rfl d_MD_partial_51 ?_
      refine lv_if_eq hx hb d_MD_partial_54 (tgt := 59) (by decide) (fun h54 => ?_) (fun h54 => ?_)
      · exact absurd h54 (by decide)
      · refine lv_lconst (v := (0 : Int64)) hx hb d_MD_partial_57 (by decide) ?_
        subst hr0
        subst hr1
        exact xw_lret hx hb ht hl0 hP hD hS d_MD_partial_58
    · rw [if_neg h13] at hr0
      rw [if_neg h13] at hr1
      refine lv_aload_n hx hb d_MD_partial_16 rfl (lv_at hl 0 rfl) ?_
      refine gf_MD_55 hg hw S hP 0 rfl rfl d_MD_partial_17 ?_
      refine lv_iload_n hx hb d_MD_partial_20 rfl (lv_at hl 1 rfl) ?_
      refine va_iald hx hb (xg_k hg hw) hP 1 0 rfl rfl (xs_isM h6 hQ) d_MD_partial_21 ?_
      refine lv_iload_n hx hb d_MD_partial_22 rfl (lv_at hl 2 rfl) ?_
      refine lv_ishr hx hb d_MD_partial_23 ?_
      refine lv_iconst (v := (1 : Int32)) hx hb d_MD_partial_24 (by decide) ?_
      refine lv_iand hx hb d_MD_partial_25 ?_
      refine lv_if_ne hx hb d_MD_partial_26 (tgt := 33) (by decide) (fun h26 => ?_) (fun h26 => ?_)
      · rw [if_neg h26] at hr0
        rw [if_neg h26] at hr1
        refine lv_iload_n hx hb d_MD_partial_33 rfl (lv_at hl 3 rfl) ?_
        refine lv_if_lt hx hb d_MD_partial_34 (tgt := 42) (by decide) (fun h34 => ?_) (fun h34 => ?_)
        · rw [if_pos h34] at hr0
          rw [if_pos h34] at hr1
          refine lv_iconst (v := (2 : Int32)) hx hb d_MD_partial_42 (by decide) ?_
          refine lv_goto hx hb d_MD_partial_43 (tgt := 47) (by decide) ?_
          refine pf_MD_7 hg hw S hP hD hS 0 rfl rfl rfl (Nat.le_of_ble_eq_true rfl) d_MD_partial_47 (fun H3 L3 hP hD hS => ?_)
          have hP : va_P G.2.1 cl_all [(y_, .inr (4, [.int (2 : Int32), .long z_n, .long z_m, .long z_d, .long z_a, .long z_b, .long z_v, .int z_ep, .int z_su, .ref a_buf, .int z_by, .int z_mo, .ref a_st, .ref a_bl, .ref a_fi, .ref a_ob, .ref a_si, .ref a_po, .ref a_pr, .ref a_an, .int z_bk, .ref a_bo, .long z_h])), (a_fi, .inl (G.2.2.1, 12, .inl z_fi)), (a_po, .inl (G.2.2.2.1, 72, .inr (.inl z_po))), (a_pr, .inl (G.2.2.1, 72, .inl z_pr)), (a_an, .inl (G.2.2.2.1, 72, .inr (.inl z_an)))] H3 := hP
          have hD : va_D A [(y_, .inr (4, [.int (2 : Int32), .long z_n, .long z_m, .long z_d, .long z_a, .long z_b, .long z_v, .int z_ep, .int z_su, .ref a_buf, .int z_by, .int z_mo, .ref a_st, .ref a_bl, .ref a_fi, .ref a_ob, .ref a_si, .ref a_po, .ref a_pr, .ref a_an, .int z_bk, .ref a_bo, .long z_h])), (a_fi, .inl (G.2.2.1, 12, .inl z_fi)), (a_po, .inl (G.2.2.2.1, 72, .inr (.inl z_po))), (a_pr, .inl (G.2.2.1, 72, .inl z_pr)), (a_an, .inl (G.2.2.2.1, 72, .inr (.inl z_an)))] := hD
          refine lv_aload_n hx hb d_MD_partial_50 rfl (lv_at hl 0 rfl) ?_
          refine gf_MD_7 hg hw S hP 0 rfl rfl d_MD_partial_51 ?_
          refine lv_if_eq hx hb d_MD_partial_54 (tgt := 59) (by decide) (fun h54 => ?_) (fun h54 => ?_)
          · exact absurd h54 (by decide)
          · refine lv_lconst (v := (0 : Int64)) hx hb d_MD_partial_57 (by decide) ?_
            subst hr0
            subst hr1
            exact xw_lret hx hb ht hl0 hP hD hS d_MD_partial_58
        · rw [if_neg h34] at hr0
          rw [if_neg h34] at hr1
          refine lv_iload_n hx hb d_MD_partial_37 rfl (lv_at hl 3 rfl) ?_
          refine lv_iconst (v := (2 : Int32)) hx hb d_MD_partial_38 (by decide) ?_
          refine lv_icmp_le hx hb d_MD_partial_39 (tgt := 46) (by decide) (fun h39 => ?_) (fun h39 => ?_)
          · rw [if_pos h39] at hr0
            rw [if_pos h39] at hr1
            refine lv_iconst (v := (0 : Int32)) hx hb d_MD_partial_46 (by decide) ?_
            refine pf_MD_7 hg hw S hP hD hS 0 rfl rfl rfl (Nat.le_of_ble_eq_true rfl) d_MD_partial_47 (fun H4 L4 hP hD hS => ?_)
            have hP : va_P G.2.1 cl_all [(y_, .inr (4, [.int (0 : Int32), .long z_n, .long z_m, .long z_d, .long z_a, .long z_b, .long z_v, .int z_ep, .int z_su, .ref a_buf, .int z_by, .int z_mo, .ref a_st, .ref a_bl, .ref a_fi, .ref a_ob, .ref a_si, .ref a_po, .ref a_pr, .ref a_an, .int z_bk, .ref a_bo, .long z_h])), (a_fi, .inl (G.2.2.1, 12, .inl z_fi)), (a_po, .inl (G.2.2.2.1, 72, .inr (.inl z_po))), (a_pr, .inl (G.2.2.1, 72, .inl z_pr)), (a_an, .inl (G.2.2.2.1, 72, .inr (.inl z_an)))] H4 := hP
            have hD : va_D A [(y_, .inr (4, [.int (0 : Int32), .long z_n, .long z_m, .long z_d, .long z_a, .long z_b, .long z_v, .int z_ep, .int z_su, .ref a_buf, .int z_by, .int z_mo, .ref a_st, .ref a_bl, .ref a_fi, .ref a_ob, .ref a_si, .ref a_po, .ref a_pr, .ref a_an, .int z_bk, .ref a_bo, .long z_h])), (a_fi, .inl (G.2.2.1, 12, .inl z_fi)), (a_po, .inl (G.2.2.2.1, 72, .inr (.inl z_po))), (a_pr, .inl (G.2.2.1, 72, .inl z_pr)), (a_an, .inl (G.2.2.2.1, 72, .inr (.inl z_an)))] := hD
            refine lv_aload_n hx hb d_MD_partial_50 rfl (lv_at hl 0 rfl) ?_
            refine gf_MD_7 hg hw S hP 0 rfl rfl d_MD_partial_51 ?_
            refine lv_if_eq hx hb d_MD_partial_54 (tgt := 59) (by decide) (fun h54 => ?_) (fun h54 => ?_)
            · refine lv_bipush (v := (6 : Int32)) hx hb d_MD_partial_59 (by decide) ?_
              refine lv_iload_n hx hb d_MD_partial_61 rfl (lv_at hl 1 rfl) ?_
              refine lv_imul hx hb d_MD_partial_62 ?_
              refine lv_iload_n hx hb d_MD_partial_63 rfl (lv_at hl 2 rfl) ?_
              refine lv_iadd hx hb d_MD_partial_64 ?_
              refine lv_istore hx hb d_MD_partial_65 hl (by decide) rfl (fun ls hl => ?_)
              have hl : lv_has ls 5 [(4, .int (((6 : Int32) * motion) + trustee)), (0, .ref y_), (1, .int motion), (2, .int trustee), (3, .int what)] := hl
              refine lv_iload_n hx hb d_MD_partial_67 rfl (lv_at hl 4 rfl) ?_
              refine lv_if_ne hx hb d_MD_partial_68 (tgt := 81) (by decide) (fun h68 => ?_) (fun h68 => ?_)
              · rw [if_neg h68] at hr0
                rw [if_neg h68] at hr1
                refine lv_iload_n hx hb d_MD_partial_81 rfl (lv_at hl 4 rfl) ?_
                refine lv_iconst (v := (1 : Int32)) hx hb d_MD_partial_82 (by decide) ?_
                refine lv_icmp_ne hx hb d_MD_partial_83 (tgt := 97) (by decide) (fun h83 => ?_) (fun h83 => ?_)
                · rw [if_neg h83] at hr0
                  rw [if_neg h83] at hr1
                  refine lv_aload_n hx hb d_MD_partial_97 rfl (lv_at hl 1 rfl) ?_
                  refine gf_MD_70 hg hw S hP 0 rfl rfl d_MD_partial_98 ?_
                  refine lv_iload hx hb d_MD_partial_101 (lv_at hl 0 rfl) ?_
                  refine va_lald hx hb (xg_k hg hw) hP 4 1 rfl rfl (xs_72 (xs_isM h6 hQ) (xs_isT h13)) d_MD_partial_103 ?_
                  subst hr0
                  subst hr1
                  exact xw_lret hx hb ht hl0 hP hD hS d_MD_partial_104
                · rw [if_pos h83] at hr0
                  rw [if_pos h83] at hr1
                  refine lv_aload_n hx hb d_MD_partial_86 rfl (lv_at hl 1 rfl) ?_
                  refine gf_MD_67 hg hw S hP 0 rfl rfl d_MD_partial_87 ?_
                  refine lv_iload hx hb d_MD_partial_90 (lv_at hl 0 rfl) ?_
                  refine va_iald hx hb (xg_k hg hw) hP 3 0 rfl rfl (xs_72 (xs_isM h6 hQ) (xs_isT h13)) d_MD_partial_92 ?_
                  refine lv_i2l hx hb d_MD_partial_93 rfl ?_
                  refine lv_goto hx hb d_MD_partial_94 (tgt := 104) (by decide) ?_
                  subst hr0
                  subst hr1
                  exact xw_lret hx hb ht hl0 hP hD hS d_MD_partial_104
              · rw [if_pos h68] at hr0
                rw [if_pos h68] at hr1
                refine lv_aload_n hx hb d_MD_partial_71 rfl (lv_at hl 1 rfl) ?_
                refine gf_MD_64 hg hw S hP 0 rfl rfl d_MD_partial_72 ?_
                refine lv_iload hx hb d_MD_partial_75 (lv_at hl 0 rfl) ?_
                refine va_lald hx hb (xg_k hg hw) hP 2 1 rfl rfl (xs_72 (xs_isM h6 hQ) (xs_isT h13)) d_MD_partial_77 ?_
                refine lv_goto hx hb d_MD_partial_78 (tgt := 104) (by decide) ?_
                subst hr0
                subst hr1
                exact xw_lret hx hb ht hl0 hP hD hS d_MD_partial_104
            · exact absurd h54 (by decide)
          · rw [if_neg h39] at hr0
            rw [if_neg h39] at hr1
            refine lv_iconst (v := (2 : Int32)) hx hb d_MD_partial_42 (by decide) ?_
            refine lv_goto hx hb d_MD_partial_43 (tgt := 47) (by decide) ?_
            refine pf_MD_7 hg hw S hP hD hS 0 rfl rfl rfl (Nat.le_of_ble_eq_true rfl) d_MD_partial_47 (fun H5 L5 hP hD hS => ?_)
            have hP : va_P G.2.1 cl_all [(y_, .inr (4, [.int (2 : Int32), .long z_n, .long z_m, .long z_d, .long z_a, .long z_b, .long z_v, .int z_ep, .int z_su, .ref a_buf, .int z_by, .int z_mo, .ref a_st, .ref a_bl, .ref a_fi, .ref a_ob, .ref a_si, .ref a_po, .ref a_pr, .ref a_an, .int z_bk, .ref a_bo, .long z_h])), (a_fi, .inl (G.2.2.1, 12, .inl z_fi)), (a_po, .inl (G.2.2.2.1, 72, .inr (.inl z_po))), (a_pr, .inl (G.2.2.1, 72, .inl z_pr)), (a_an, .inl (G.2.2.2.1, 72, .inr (.inl z_an)))] H5 := hP
            have hD : va_D A [(y_, .inr (4, [.int (2 : Int32), .long z_n, .long z_m, .long z_d, .long z_a, .long z_b, .long z_v, .int z_ep, .int z_su, .ref a_buf, .int z_by, .int z_mo, .ref a_st, .ref a_bl, .ref a_fi, .ref a_ob, .ref a_si, .ref a_po, .ref a_pr, .ref a_an, .int z_bk, .ref a_bo, .long z_h])), (a_fi, .inl (G.2.2.1, 12, .inl z_fi)), (a_po, .inl (G.2.2.2.1, 72, .inr (.inl z_po))), (a_pr, .inl (G.2.2.1, 72, .inl z_pr)), (a_an, .inl (G.2.2.2.1, 72, .inr (.inl z_an)))] := hD
            refine lv_aload_n hx hb d_MD_partial_50 rfl (lv_at hl 0 rfl) ?_
            refine gf_MD_7 hg hw S hP 0 rfl rfl d_MD_partial_51 ?_
            refine lv_if_eq hx hb d_MD_partial_54 (tgt := 59) (by decide) (fun h54 => ?_) (fun h54 => ?_)
            · exact absurd h54 (by decide)
            · refine lv_lconst (v := (0 : Int64)) hx hb d_MD_partial_57 (by decide) ?_
              subst hr0
              subst hr1
              exact xw_lret hx hb ht hl0 hP hD hS d_MD_partial_58
      · rw [if_pos h26] at hr0
        rw [if_pos h26] at hr1
        refine lv_iconst (v := (1 : Int32)) hx hb d_MD_partial_29 (by decide) ?_
        refine lv_goto hx hb d_MD_partial_30 (tgt := 47) (by decide) ?_
        refine pf_MD_7 hg hw S hP hD hS 0 rfl rfl rfl (Nat.le_of_ble_eq_true rfl) d_MD_partial_47 (fun H6 L6 hP hD hS => ?_)
        have hP : va_P G.2.1 cl_all [(y_, .inr (4, [.int (1 : Int32), .long z_n, .long z_m, .long z_d, .long z_a, .long z_b, .long z_v, .int z_ep, .int z_su, .ref a_buf, .int z_by, .int z_mo, .ref a_st, .ref a_bl, .ref a_fi, .ref a_ob, .ref a_si, .ref a_po, .ref a_pr, .ref a_an, .int z_bk, .ref a_bo, .long z_h])), (a_fi, .inl (G.2.2.1, 12, .inl z_fi)), (a_po, .inl (G.2.2.2.1, 72, .inr (.inl z_po))), (a_pr, .inl (G.2.2.1, 72, .inl z_pr)), (a_an, .inl (G.2.2.2.1, 72, .inr (.inl z_an)))] H6 := hP
        have hD : va_D A [(y_, .inr (4, [.int (1 : Int32), .long z_n, .long z_m, .long z_d, .long z_a, .long z_b, .long z_v, .int z_ep, .int z_su, .ref a_buf, .int z_by, .int z_mo, .ref a_st, .ref a_bl, .ref a_fi, .ref a_ob, .ref a_si, .ref a_po, .ref a_pr, .ref a_an, .int z_bk, .ref a_bo, .long z_h])), (a_fi, .inl (G.2.2.1, 12, .inl z_fi)), (a_po, .inl (G.2.2.2.1, 72, .inr (.inl z_po))), (a_pr, .inl (G.2.2.1, 72, .inl z_pr)), (a_an, .inl (G.2.2.2.1, 72, .inr (.inl z_an)))] := hD
        refine lv_aload_n hx hb d_MD_partial_50 rfl (lv_at hl 0 rfl) ?_
        refine gf_MD_7 hg hw S hP 0 rfl rfl d_MD_partial_51 ?_
        refine lv_if_eq hx hb d_MD_partial_54 (tgt := 59) (by decide) (fun h54 => ?_) (fun h54 => ?_)
        · exact absurd h54 (by decide)
        · refine lv_lconst (v := (0 : Int64)) hx hb d_MD_partial_57 (by decide) ?_
          subst hr0
          subst hr1
          exact xw_lret hx hb ht hl0 hP hD hS d_MD_partial_58
def f_MD_bad (motion : Int32) (z_n : Int64) (z_m : Int64) (z_d : Int64) (z_a : Int64) (z_b : Int64) (z_v : Int64) (z_mo : Int32) (z_h : Int64) (z_fi : Nat → Int32) (z_bl : Nat → Int64) (z_po : Nat → Int64) (z_pr : Nat → Int32) (z_an : Nat → Int64) : Int32 := if (f_MD_isMotion motion z_mo) = 0 then (0 : Int32) else (f_MD_notGood motion z_n z_m z_d z_a z_b z_v z_bl z_po z_pr z_an z_fi z_h)
def f_MD_bad_thrownCode (motion : Int32) (z_mo : Int32) : Int32 := if (f_MD_isMotion motion z_mo) = 0 then (1 : Int32) else (0 : Int32)
def f_MD_bad_h (motion : Int32) (z_n : Int64) (z_m : Int64) (z_d : Int64) (z_a : Int64) (z_b : Int64) (z_v : Int64) (z_mo : Int32) (z_h : Int64) (z_fi : Nat → Int32) (z_bl : Nat → Int64) (z_po : Nat → Int64) (z_pr : Nat → Int32) (z_an : Nat → Int64) : Int64 := if (f_MD_isMotion motion z_mo) = 0 then z_h else (f_MD_notGood_h motion z_n z_m z_d z_a z_b z_v z_bl z_po z_pr z_an z_fi z_h)
set_option maxHeartbeats 4000000 in
set_option maxRecDepth 100000 in
theorem ct_MD_bad (l : Launch) {G : xg_G} (hg : xg_F G) (H : Heap) (y_ : Nat) (motion : Int32) (z_th : Int32) (z_n : Int64) (z_m : Int64) (z_d : Int64) (z_a : Int64) (z_b : Int64) (z_v : Int64) (z_ep : Int32) (z_su : Int32) (a_buf : Nat) (z_by : Int32) (z_mo : Int32) (a_st : Nat) (a_bl : Nat) (a_fi : Nat) (a_ob : Nat) (a_si : Nat) (a_po : Nat) (a_pr : Nat) (a_an : Nat) (z_bk : Int32) (a_bo : Nat) (z_h : Int64) (z_fi : Nat → Int32) (z_bl : Nat → Int64) (z_po : Nat → Int64) (z_pr : Nat → Int32) (z_an : Nat → Int64) (hP : va_P G.2.1 cl_all [(y_, .inr (4, [.int z_th, .long z_n, .long z_m, .long z_d, .long z_a, .long z_b, .long z_v, .int z_ep, .int z_su, .ref a_buf, .int z_by, .int z_mo, .ref a_st, .ref a_bl, .ref a_fi, .ref a_ob, .ref a_si, .ref a_po, .ref a_pr, .ref a_an, .int z_bk, .ref a_bo, .long z_h])), (a_fi, .inl (G.2.2.1, 12, .inl z_fi)), (a_bl, .inl (G.2.2.2.1, 12, .inr (.inl z_bl))), (a_po, .inl (G.2.2.2.1, 72, .inr (.inl z_po))), (a_pr, .inl (G.2.2.1, 72, .inl z_pr)), (a_an, .inl (G.2.2.2.1, 72, .inr (.inl z_an)))] H) (hD0 : va_D (fun _ => True) [(y_, .inr (4, [.int z_th, .long z_n, .long z_m, .long z_d, .long z_a, .long z_b, .long z_v, .int z_ep, .int z_su, .ref a_buf, .int z_by, .int z_mo, .ref a_st, .ref a_bl, .ref a_fi, .ref a_ob, .ref a_si, .ref a_po, .ref a_pr, .ref a_an, .int z_bk, .ref a_bo, .long z_h])), (a_fi, .inl (G.2.2.1, 12, .inl z_fi)), (a_bl, .inl (G.2.2.2.1, 12, .inr (.inl z_bl))), (a_po, .inl (G.2.2.2.1, 72, .inr (.inl z_po))), (a_pr, .inl (G.2.2.1, 72, .inl z_pr)), (a_an, .inl (G.2.2.2.1, 72, .inr (.inl z_an)))]) (hQ : z_mo.toInt ≤ 12) (hN : ¬ f_MD_isMotion motion z_mo = 0 → ¬ z_m = 0 ∧ ¬ z_n = 0) : xc_Met l y_MD_bad (.code y_MD_bad b_MD_bad 2 (some .int)) ({ frames := 4, cells := 0, slots := 0, locals := 83 } : Room) (xg_Pc G [.ref y_, .int motion] H) (xw_post G (va_A [(y_, .inr (4, [.int z_th, .long z_n, .long z_m, .long z_d, .long z_a, .long z_b, .long z_v, .int z_ep, .int z_su, .ref a_buf, .int z_by, .int z_mo, .ref a_st, .ref a_bl, .ref a_fi, .ref a_ob, .ref a_si, .ref a_po, .ref a_pr, .ref a_an, .int z_bk, .ref a_bo, .long z_h])), (a_fi, .inl (G.2.2.1, 12, .inl z_fi)), (a_bl, .inl (G.2.2.2.1, 12, .inr (.inl z_bl))), (a_po, .inl (G.2.2.2.1, 72, .inr (.inl z_po))), (a_pr, .inl (G.2.2.1, 72, .inl z_pr)), (a_an, .inl (G.2.2.2.1, 72, .inr (.inl z_an)))] H.size) (some (.int (f_MD_bad motion z_n z_m z_d z_a z_b z_v z_mo z_h z_fi z_bl z_po z_pr z_an))) [(y_, .inr (4, [.int (f_MD_bad_thrownCode motion z_mo), .long z_n, .long z_m, .long z_d, .long z_a, .long z_b, .long z_v, .int z_ep, .int z_su, .ref a_buf, .int z_by, .int z_mo, .ref a_st, .ref a_bl, .ref a_fi, .ref a_ob, .ref a_si, .ref a_po, .ref a_pr, .ref a_an, .int z_bk, .ref a_bo, .long (f_MD_bad_h motion z_n z_m z_d z_a z_b z_v z_mo z_h z_fi z_bl z_po z_pr z_an)])), (a_fi, .inl (G.2.2.1, 12, .inl z_fi)), (a_bl, .inl (G.2.2.2.1, 12, .inr (.inl z_bl))), (a_po, .inl (G.2.2.2.1, 72, .inr (.inl z_po))), (a_pr, .inl (G.2.2.1, 72, .inl z_pr)), (a_an, .inl (G.2.2.2.1, 72, .inr (.inl z_an)))]) (va_A [(y_, .inr (4, [.int z_th, .long z_n, .long z_m, .long z_d, .long z_a, .long z_b, .long z_v, .int z_ep, .int z_su, .ref a_buf, .int z_by, .int z_mo, .ref a_st, .ref a_bl, .ref a_fi, .ref a_ob, .ref a_si, .ref a_po, .ref a_pr, .ref a_an, .int z_bk, .ref a_bo, .long z_h])), (a_fi, .inl (G.2.2.1, 12, .inl z_fi)), (a_bl, .inl (G.2.2.2.1, 12, .inr (.inl z_bl))), (a_po, .inl (G.2.2.2.1, 72, .inr (.inl z_po))), (a_pr, .inl (G.2.2.1, 72, .inl z_pr)), (a_an, .inl (G.2.2.2.1, 72, .inr (.inl z_an)))] H.size) := by
  refine xc_ofW (by decide) ?_
  intro p e s m args below meth c s₁ B hml hE hv
  obtain ⟨rfl, rfl, hw⟩ := hv
  have hx := B.exec
  have hb := B.bytes
  have ht := B.returns
  have hl0 := B.notSynchronized
  have S : xc_Fix p m c b_MD_bad 2 s "SealTrustModel" := ⟨hx, hb, hml, findClass_of_methodNamed B.named⟩
  have hD := hD0.self (sz := s.heap.size)
  generalize hAe : va_A [(y_, .inr (4, [.int z_th, .long z_n, .long z_m, .long z_d, .long z_a, .long z_b, .long z_v, .int z_ep, .int z_su, .ref a_buf, .int z_by, .int z_mo, .ref a_st, .ref a_bl, .ref a_fi, .ref a_ob, .ref a_si, .ref a_po, .ref a_pr, .ref a_an, .int z_bk, .ref a_bo, .long z_h])), (a_fi, .inl (G.2.2.1, 12, .inl z_fi)), (a_bl, .inl (G.2.2.2.1, 12, .inr (.inl z_bl))), (a_po, .inl (G.2.2.2.1, 72, .inr (.inl z_po))), (a_pr, .inl (G.2.2.1, 72, .inl z_pr)), (a_an, .inl (G.2.2.2.1, 72, .inr (.inl z_an)))] s.heap.size = A at hD ⊢
  have hA : ∀ q : Nat, s.heap.size ≤ q → A q := fun q h => by rw [← hAe]; exact Or.inr h
  have hS : va_S A s.heap s.heap [] := va_S.rf
  have hl := lv_entry ([.ref y_, .int motion]) (n := 2) (Nat.le_of_ble_eq_true rfl)
  rw [lg_entry_eq]
  generalize (lg_sl ([.ref y_, .int motion]) ++ List.replicate (2 - (lg_sl ([.ref y_, .int motion])).length) Slot.unset).toArray = ls at hl ⊢
  have hl : lv_has ls 2 [(0, .ref y_), (1, .int motion)] := hl
  obtain ⟨r0, hr0⟩ : ∃ r, f_MD_bad motion z_n z_m z_d z_a z_b z_v z_mo z_h z_fi z_bl z_po z_pr z_an = r := ⟨_, rfl⟩
  rw [hr0]
  unfold f_MD_bad at hr0
  obtain ⟨r1, hr1⟩ : ∃ r, f_MD_bad_thrownCode motion z_mo = r := ⟨_, rfl⟩
  rw [hr1]
  unfold f_MD_bad_thrownCode at hr1
  obtain ⟨r2, hr2⟩ : ∃ r, f_MD_bad_h motion z_n z_m z_d z_a z_b z_v z_mo z_h z_fi z_bl z_po z_pr z_an = r := ⟨_, rfl⟩
  rw [hr2]
  unfold f_MD_bad_h at hr2
  refine lv_aload_n hx hb d_MD_bad_0 rfl (lv_at hl 0 rfl) ?_
  refine lv_aload_n hx hb d_MD_bad_1 rfl (lv_at hl 0 rfl) ?_
  refine lv_iload_n hx hb d_MD_bad_2 rfl (lv_at hl 1 rfl) ?_
  refine xg_read (xg_runV (rest := [.ref y_]) (kw := 1) si_MD_142 hg hw S (va_recv (xg_k hg hw) hP (ci := 4) rfl (q0 := 0) rfl) (ct_MD_isMotion l hg s.heap y_ motion z_th z_n z_m z_d z_a z_b z_v z_ep z_su a_buf z_by z_mo a_st a_bl a_fi a_ob a_si a_po a_pr a_an z_bk a_bo z_h (hP.sub [0] rfl) ) ⟨by decide, by decide, by decide, by decide⟩ rfl hl.1 rfl (Nat.le_of_ble_eq_true rfl) d_MD_bad_3) ?_
  refine lv_if_eq hx hb d_MD_bad_6 (tgt := 13) (by decide) (fun h6 => ?_) (fun h6 => ?_)
  · rw [if_pos h6] at hr0
    rw [if_pos h6] at hr1
    rw [if_pos h6] at hr2
    refine lv_iconst (v := (1 : Int32)) hx hb d_MD_bad_13 (by decide) ?_
    refine pf_MD_7 hg hw S hP hD hS 0 rfl rfl rfl (Nat.le_of_ble_eq_true rfl) d_MD_bad_14 (fun H1 L1 hP hD hS => ?_)
    have hP : va_P G.2.1 cl_all [(y_, .inr (4, [.int (1 : Int32), .long z_n, .long z_m, .long z_d, .long z_a, .long z_b, .long z_v, .int z_ep, .int z_su, .ref a_buf, .int z_by, .int z_mo, .ref a_st, .ref a_bl, .ref a_fi, .ref a_ob, .ref a_si, .ref a_po, .ref a_pr, .ref a_an, .int z_bk, .ref a_bo, .long z_h])), (a_fi, .inl (G.2.2.1, 12, .inl z_fi)), (a_bl, .inl (G.2.2.2.1, 12, .inr (.inl z_bl))), (a_po, .inl (G.2.2.2.1, 72, .inr (.inl z_po))), (a_pr, .inl (G.2.2.1, 72, .inl z_pr)), (a_an, .inl (G.2.2.2.1, 72, .inr (.inl z_an)))] H1 := hP
    have hD : va_D A [(y_, .inr (4, [.int (1 : Int32), .long z_n, .long z_m, .long z_d, .long z_a, .long z_b, .long z_v, .int z_ep, .int z_su, .ref a_buf, .int z_by, .int z_mo, .ref a_st, .ref a_bl, .ref a_fi, .ref a_ob, .ref a_si, .ref a_po, .ref a_pr, .ref a_an, .int z_bk, .ref a_bo, .long z_h])), (a_fi, .inl (G.2.2.1, 12, .inl z_fi)), (a_bl, .inl (G.2.2.2.1, 12, .inr (.inl z_bl))), (a_po, .inl (G.2.2.2.1, 72, .inr (.inl z_po))), (a_pr, .inl (G.2.2.1, 72, .inl z_pr)), (a_an, .inl (G.2.2.2.1, 72, .inr (.inl z_an)))] := hD
    refine lv_aload_n hx hb d_MD_bad_17 rfl (lv_at hl 0 rfl) ?_
    refine gf_MD_7 hg hw S hP 0 rfl rfl d_MD_bad_18 ?_
    refine lv_if_eq hx hb d_MD_bad_21 (tgt := 28) (by decide) (fun h21 => ?_) (fun h21 => ?_)
    · exact absurd h21 (by decide)
    · refine lv_iconst (v := (0 : Int32)) hx hb d_MD_bad_24 (by decide) ?_
      refine lv_goto hx hb d_MD_bad_25 (tgt := 33) (by decide) ?_
      subst hr0
      subst hr1
      subst hr2
      exact xw_iret hx hb ht hl0 hP hD hS d_MD_bad_33
  · rw [if_neg h6] at hr0
    rw [if_neg h6] at hr1
    rw [if_neg h6] at hr2
    refine lv_iconst (v := (0 : Int32)) hx hb d_MD_bad_9 (by decide) ?_
    refine lv_goto hx hb d_MD_bad_10 (tgt := 14) (by decide) ?_
    refine pf_MD_7 hg hw S hP hD hS 0 rfl rfl rfl (Nat.le_of_ble_eq_true rfl) d_MD_bad_14 (fun H2 L2 hP hD hS => ?_)
    have hP : va_P G.2.1 cl_all [(y_, .inr (4, [.int (0 : Int32), .long z_n, .long z_m, .long z_d, .long z_a, .long z_b, .long z_v, .int z_ep, .int z_su, .ref a_buf, .int z_by, .int z_mo, .ref a_st, .ref a_bl, .ref a_fi, .ref a_ob, .ref a_si, .ref a_po, .ref a_pr, .ref a_an, .int z_bk, .ref a_bo, .long z_h])), (a_fi, .inl (G.2.2.1, 12, .inl z_fi)), (a_bl, .inl (G.2.2.2.1, 12, .inr (.inl z_bl))), (a_po, .inl (G.2.2.2.1, 72, .inr (.inl z_po))), (a_pr, .inl (G.2.2.1, 72, .inl z_pr)), (a_an, .inl (G.2.2.2.1, 72, .inr (.inl z_an)))] H2 := hP
    have hD : va_D A [(y_, .inr (4, [.int (0 : Int32), .long z_n, .long z_m, .long z_d, .long z_a, .long z_b, .long z_v, .int z_ep, .int z_su, .ref a_buf, .int z_by, .int z_mo, .ref a_st, .ref a_bl, .ref a_fi, .ref a_ob, .ref a_si, .ref a_po, .ref a_pr, .ref a_an, .int z_bk, .ref a_bo, .long z_h])), (a_fi, .inl (G.2.2.1, 12, .inl z_fi)), (a_bl, .inl (G.2.2.2.1, 12, .inr (.inl z_bl))), (a_po, .inl (G.2.2.2.1, 72, .inr (.inl z_po))), (a_pr, .inl (G.2.2.1, 72, .inl z_pr)), (a_an, .inl (G.2.2.2.1, 72, .inr (.inl z_an)))] := hD
    refine lv_aload_n hx hb d_MD_bad_17 rfl (lv_at hl 0 rfl) ?_
    refine gf_MD_7 hg hw S hP 0 rfl rfl d_MD_bad_18 ?_
    refine lv_if_eq hx hb d_MD_bad_21 (tgt := 28) (by decide) (fun h21 => ?_) (fun h21 => ?_)
    · refine lv_aload_n hx hb d_MD_bad_28 rfl (lv_at hl 0 rfl) ?_
      refine lv_iload_n hx hb d_MD_bad_29 rfl (lv_at hl 1 rfl) ?_
      refine xw_use (wc := [(y_, .inr (4, [.int (0 : Int32), .long z_n, .long z_m, .long z_d, .long z_a, .long z_b, .long z_v, .int z_ep, .int z_su, .ref a_buf, .int z_by, .int z_mo, .ref a_st, .ref a_bl, .ref a_fi, .ref a_ob, .ref a_si, .ref a_po, .ref a_pr, .ref a_an, .int z_bk, .ref a_bo, .long z_h])), (a_fi, .inl (G.2.2.1, 12, .inl z_fi)), (a_bl, .inl (G.2.2.2.1, 12, .inr (.inl z_bl))), (a_po, .inl (G.2.2.2.1, 72, .inr (.inl z_po))), (a_pr, .inl (G.2.2.1, 72, .inl z_pr)), (a_an, .inl (G.2.2.2.1, 72, .inr (.inl z_an)))]) (wr := []) (xg_runV (rest := []) (kw := 0) si_MD_163 hg hw S (va_recv (xg_k hg hw) hP (ci := 4) rfl (q0 := 0) rfl) (ct_MD_notGood l hg H2 y_ motion (0 : Int32) z_n z_m z_d z_a z_b z_v z_ep z_su a_buf z_by z_mo a_st a_bl a_fi a_ob a_si a_po a_pr a_an z_bk a_bo z_h z_fi z_bl z_po z_pr z_an (hP.sub [0, 1, 2, 3, 4, 5] rfl) ((hD.sub [0, 1, 2, 3, 4, 5] (by decide) rfl).weaken (fun _ _ _ _ => trivial)) (hN h6).1 (hN h6).2 (xs_isM h6 hQ)) ⟨by decide, by decide, by decide, by decide⟩ rfl hl.1 rfl (Nat.le_of_ble_eq_true rfl) d_MD_bad_30) hP hD hS hA [0, 1, 2, 3, 4, 5] [] rfl rfl (by decide) (by decide) (fun H3 L3 hP hD hS => ?_)
      have hP : va_P G.2.1 cl_all [(y_, .inr (4, [.int (0 : Int32), .long z_n, .long z_m, .long z_d, .long z_a, .long z_b, .long z_v, .int z_ep, .int z_su, .ref a_buf, .int z_by, .int z_mo, .ref a_st, .ref a_bl, .ref a_fi, .ref a_ob, .ref a_si, .ref a_po, .ref a_pr, .ref a_an, .int z_bk, .ref a_bo, .long (f_MD_notGood_h motion z_n z_m z_d z_a z_b z_v z_bl z_po z_pr z_an z_fi z_h)])), (a_fi, .inl (G.2.2.1, 12, .inl z_fi)), (a_bl, .inl (G.2.2.2.1, 12, .inr (.inl z_bl))), (a_po, .inl (G.2.2.2.1, 72, .inr (.inl z_po))), (a_pr, .inl (G.2.2.1, 72, .inl z_pr)), (a_an, .inl (G.2.2.2.1, 72, .inr (.inl z_an)))] H3 := hP
      have hD : va_D A [(y_, .inr (4, [.int (0 : Int32), .long z_n, .long z_m, .long z_d, .long z_a, .long z_b, .long z_v, .int z_ep, .int z_su, .ref a_buf, .int z_by, .int z_mo, .ref a_st, .ref a_bl, .ref a_fi, .ref a_ob, .ref a_si, .ref a_po, .ref a_pr, .ref a_an, .int z_bk, .ref a_bo, .long (f_MD_notGood_h motion z_n z_m z_d z_a z_b z_v z_bl z_po z_pr z_an z_fi z_h)])), (a_fi, .inl (G.2.2.1, 12, .inl z_fi)), (a_bl, .inl (G.2.2.2.1, 12, .inr (.inl z_bl))), (a_po, .inl (G.2.2.2.1, 72, .inr (.inl z_po))), (a_pr, .inl (G.2.2.1, 72, .inl z_pr)), (a_an, .inl (G.2.2.2.1, 72, .inr (.inl z_an)))] := hD
      subst hr0
      subst hr1
      subst hr2
      exact xw_iret hx hb ht hl0 hP hD hS d_MD_bad_33
    · exact absurd h21 (by decide)
def f_MD_join (motion : Int32) (z_n : Int64) (z_m : Int64) (z_d : Int64) (z_a : Int64) (z_b : Int64) (z_v : Int64) (z_mo : Int32) (z_h : Int64) (z_st : Nat → Int32) (z_bl : Nat → Int64) (z_fi : Nat → Int32) (z_po : Nat → Int64) (z_pr : Nat → Int32) (z_an : Nat → Int64) (z_sg : Nat → Int64) : Int64 := if (f_MD_isMotion motion z_mo) = 0 then (0 : Int64) else (if (z_st motion.toNatClampNeg) = 0 then (if (f_MD_common (z_bl motion.toNatClampNeg) z_n) = (1 : Int64) then (if (3 : Int32) ≤ (f_MD_bits ((z_fi motion.toNatClampNeg) &&& ((f_MD_notGood motion z_n z_m z_d z_a z_b z_v z_bl z_po z_pr z_an z_fi z_h) ^^^ (-1 : Int32)))) then ((vp_updL z_sg motion.toNatClampNeg (f_MD_raised (z_bl motion.toNatClampNeg) (f_MD_inverse (65537 : Int64) ((2 : Int64) * z_m)) z_n)) motion.toNatClampNeg) else (0 : Int64)) else (0 : Int64)) else (0 : Int64))
def f_MD_join_thrownCode (motion : Int32) (z_n : Int64) (z_m : Int64) (z_d : Int64) (z_a : Int64) (z_b : Int64) (z_v : Int64) (z_mo : Int32) (z_h : Int64) (z_st : Nat → Int32) (z_bl : Nat → Int64) (z_fi : Nat → Int32) (z_po : Nat → Int64) (z_pr : Nat → Int32) (z_an : Nat → Int64) : Int32 := if (f_MD_isMotion motion z_mo) = 0 then (1 : Int32) else (if (z_st motion.toNatClampNeg) = 0 then (if (f_MD_common (z_bl motion.toNatClampNeg) z_n) = (1 : Int64) then (if (3 : Int32) ≤ (f_MD_bits ((z_fi motion.toNatClampNeg) &&& ((f_MD_notGood motion z_n z_m z_d z_a z_b z_v z_bl z_po z_pr z_an z_fi z_h) ^^^ (-1 : Int32)))) then (0 : Int32) else (2 : Int32)) else (3 : Int32)) else (2 : Int32))
def f_MD_join_h (motion : Int32) (z_n : Int64) (z_m : Int64) (z_d : Int64) (z_a : Int64) (z_b : Int64) (z_v : Int64) (z_mo : Int32) (z_h : Int64) (z_st : Nat → Int32) (z_bl : Nat → Int64) (z_fi : Nat → Int32) (z_po : Nat → Int64) (z_pr : Nat → Int32) (z_an : Nat → Int64) : Int64 := if (f_MD_isMotion motion z_mo) = 0 then z_h else (if (z_st motion.toNatClampNeg) = 0 then (if (f_MD_common (z_bl motion.toNatClampNeg) z_n) = (1 : Int64) then (if (3 : Int32) ≤ (f_MD_bits ((z_fi motion.toNatClampNeg) &&& ((f_MD_notGood motion z_n z_m z_d z_a z_b z_v z_bl z_po z_pr z_an z_fi z_h) ^^^ (-1 : Int32)))) then (f_MD_notGood_h motion z_n z_m z_d z_a z_b z_v z_bl z_po z_pr z_an z_fi z_h) else (f_MD_notGood_h motion z_n z_m z_d z_a z_b z_v z_bl z_po z_pr z_an z_fi z_h)) else z_h) else z_h)
def f_MD_join_booked (motion : Int32) (z_n : Int64) (z_m : Int64) (z_d : Int64) (z_a : Int64) (z_b : Int64) (z_v : Int64) (z_mo : Int32) (z_bk : Int32) (z_h : Int64) (z_st : Nat → Int32) (z_bl : Nat → Int64) (z_fi : Nat → Int32) (z_po : Nat → Int64) (z_pr : Nat → Int32) (z_an : Nat → Int64) : Int32 := if (f_MD_isMotion motion z_mo) = 0 then z_bk else (if (z_st motion.toNatClampNeg) = 0 then (if (f_MD_common (z_bl motion.toNatClampNeg) z_n) = (1 : Int64) then (if (3 : Int32) ≤ (f_MD_bits ((z_fi motion.toNatClampNeg) &&& ((f_MD_notGood motion z_n z_m z_d z_a z_b z_v z_bl z_po z_pr z_an z_fi z_h) ^^^ (-1 : Int32)))) then (z_bk + (1 : Int32)) else z_bk) else z_bk) else z_bk)
def f_MD_join_a_si (motion : Int32) (z_n : Int64) (z_m : Int64) (z_d : Int64) (z_a : Int64) (z_b : Int64) (z_v : Int64) (z_mo : Int32) (z_h : Int64) (z_st : Nat → Int32) (z_bl : Nat → Int64) (z_fi : Nat → Int32) (z_po : Nat → Int64) (z_pr : Nat → Int32) (z_an : Nat → Int64) (z_sg : Nat → Int64) : Nat → Int64 := if (f_MD_isMotion motion z_mo) = 0 then z_sg else (if (z_st motion.toNatClampNeg) = 0 then (if (f_MD_common (z_bl motion.toNatClampNeg) z_n) = (1 : Int64) then (if (3 : Int32) ≤ (f_MD_bits ((z_fi motion.toNatClampNeg) &&& ((f_MD_notGood motion z_n z_m z_d z_a z_b z_v z_bl z_po z_pr z_an z_fi z_h) ^^^ (-1 : Int32)))) then (vp_updL z_sg motion.toNatClampNeg (f_MD_raised (z_bl motion.toNatClampNeg) (f_MD_inverse (65537 : Int64) ((2 : Int64) * z_m)) z_n)) else z_sg) else z_sg) else z_sg)
def f_MD_join_a_st (motion : Int32) (z_n : Int64) (z_m : Int64) (z_d : Int64) (z_a : Int64) (z_b : Int64) (z_v : Int64) (z_mo : Int32) (z_h : Int64) (z_st : Nat → Int32) (z_bl : Nat → Int64) (z_fi : Nat → Int32) (z_po : Nat → Int64) (z_pr : Nat → Int32) (z_an : Nat → Int64) : Nat → Int32 := if (f_MD_isMotion motion z_mo) = 0 then z_st else (if (z_st motion.toNatClampNeg) = 0 then (if (f_MD_common (z_bl motion.toNatClampNeg) z_n) = (1 : Int64) then (if (3 : Int32) ≤ (f_MD_bits ((z_fi motion.toNatClampNeg) &&& ((f_MD_notGood motion z_n z_m z_d z_a z_b z_v z_bl z_po z_pr z_an z_fi z_h) ^^^ (-1 : Int32)))) then (upd z_st motion.toNatClampNeg (1 : Int32)) else z_st) else z_st) else z_st)
def f_MD_join_a_bo (motion : Int32) (z_n : Int64) (z_m : Int64) (z_d : Int64) (z_a : Int64) (z_b : Int64) (z_v : Int64) (z_mo : Int32) (z_bk : Int32) (z_h : Int64) (z_st : Nat → Int32) (z_bl : Nat → Int64) (z_fi : Nat → Int32) (z_po : Nat → Int64) (z_pr : Nat → Int32) (z_an : Nat → Int64) (z_bo : Nat → Int32) : Nat → Int32 := if (f_MD_isMotion motion z_mo) = 0 then z_bo else (if (z_st motion.toNatClampNeg) = 0 then (if (f_MD_common (z_bl motion.toNatClampNeg) z_n) = (1 : Int64) then (if (3 : Int32) ≤ (f_MD_bits ((z_fi motion.toNatClampNeg) &&& ((f_MD_notGood motion z_n z_m z_d z_a z_b z_v z_bl z_po z_pr z_an z_fi z_h) ^^^ (-1 : Int32)))) then (upd z_bo z_bk.toNatClampNeg motion) else z_bo) else z_bo) else z_bo)
set_option maxHeartbeats 4000000 in
set_option maxRecDepth 100000 in
theorem ct_MD_join (l : Launch) {G : xg_G} (hg : xg_F G) (H : Heap) (y_ : Nat) (motion : Int32) (z_th : Int32) (z_n : Int64) (z_m : Int64) (z_d : Int64) (z_a : Int64) (z_b : Int64) (z_v : Int64) (z_ep : Int32) (z_su : Int32) (a_buf : Nat) (z_by : Int32) (z_mo : Int32) (a_st : Nat) (a_bl : Nat) (a_fi : Nat) (a_ob : Nat) (a_si : Nat) (a_po : Nat) (a_pr : Nat) (a_an : Nat) (z_bk : Int32) (a_bo : Nat) (z_h : Int64) (z_st : Nat → Int32) (z_bl : Nat → Int64) (z_fi : Nat → Int32) (z_po : Nat → Int64) (z_pr : Nat → Int32) (z_an : Nat → Int64) (z_sg : Nat → Int64) (z_bo : Nat → Int32) (hP : va_P G.2.1 cl_all [(y_, .inr (4, [.int z_th, .long z_n, .long z_m, .long z_d, .long z_a, .long z_b, .long z_v, .int z_ep, .int z_su, .ref a_buf, .int z_by, .int z_mo, .ref a_st, .ref a_bl, .ref a_fi, .ref a_ob, .ref a_si, .ref a_po, .ref a_pr, .ref a_an, .int z_bk, .ref a_bo, .long z_h])), (a_st, .inl (G.2.2.1, 12, .inl z_st)), (a_bl, .inl (G.2.2.2.1, 12, .inr (.inl z_bl))), (a_fi, .inl (G.2.2.1, 12, .inl z_fi)), (a_po, .inl (G.2.2.2.1, 72, .inr (.inl z_po))), (a_pr, .inl (G.2.2.1, 72, .inl z_pr)), (a_an, .inl (G.2.2.2.1, 72, .inr (.inl z_an))), (a_si, .inl (G.2.2.2.1, 12, .inr (.inl z_sg))), (a_bo, .inl (G.2.2.1, 12, .inl z_bo))] H) (hD0 : va_D (fun _ => True) [(y_, .inr (4, [.int z_th, .long z_n, .long z_m, .long z_d, .long z_a, .long z_b, .long z_v, .int z_ep, .int z_su, .ref a_buf, .int z_by, .int z_mo, .ref a_st, .ref a_bl, .ref a_fi, .ref a_ob, .ref a_si, .ref a_po, .ref a_pr, .ref a_an, .int z_bk, .ref a_bo, .long z_h])), (a_st, .inl (G.2.2.1, 12, .inl z_st)), (a_bl, .inl (G.2.2.2.1, 12, .inr (.inl z_bl))), (a_fi, .inl (G.2.2.1, 12, .inl z_fi)), (a_po, .inl (G.2.2.2.1, 72, .inr (.inl z_po))), (a_pr, .inl (G.2.2.1, 72, .inl z_pr)), (a_an, .inl (G.2.2.2.1, 72, .inr (.inl z_an))), (a_si, .inl (G.2.2.2.1, 12, .inr (.inl z_sg))), (a_bo, .inl (G.2.2.1, 12, .inl z_bo))]) (hQ : z_mo.toInt ≤ 12) (hN : ¬ f_MD_isMotion motion z_mo = 0 → ¬ z_m = 0 ∧ ¬ z_n = 0) (h2m : ¬ f_MD_isMotion motion z_mo = 0 → ¬ (2 : Int64) * z_m = 0) (hB : ¬ f_MD_isMotion motion z_mo = 0 → z_st motion.toNatClampNeg = 0 → vp_in z_bk 12) : xc_Met l y_MD_join (.code y_MD_join b_MD_join 2 (some .long)) ({ frames := 4, cells := 0, slots := 0, locals := 85 } : Room) (xg_Pc G [.ref y_, .int motion] H) (xw_post G (va_A [(y_, .inr (4, [.int z_th, .long z_n, .long z_m, .long z_d, .long z_a, .long z_b, .long z_v, .int z_ep, .int z_su, .ref a_buf, .int z_by, .int z_mo, .ref a_st, .ref a_bl, .ref a_fi, .ref a_ob, .ref a_si, .ref a_po, .ref a_pr, .ref a_an, .int z_bk, .ref a_bo, .long z_h])), (a_st, .inl (G.2.2.1, 12, .inl z_st)), (a_bl, .inl (G.2.2.2.1, 12, .inr (.inl z_bl))), (a_fi, .inl (G.2.2.1, 12, .inl z_fi)), (a_po, .inl (G.2.2.2.1, 72, .inr (.inl z_po))), (a_pr, .inl (G.2.2.1, 72, .inl z_pr)), (a_an, .inl (G.2.2.2.1, 72, .inr (.inl z_an))), (a_si, .inl (G.2.2.2.1, 12, .inr (.inl z_sg))), (a_bo, .inl (G.2.2.1, 12, .inl z_bo))] H.size) (some (.long (f_MD_join motion z_n z_m z_d z_a z_b z_v z_mo z_h z_st z_bl z_fi z_po z_pr z_an z_sg))) [(y_, .inr (4, [.int (f_MD_join_thrownCode motion z_n z_m z_d z_a z_b z_v z_mo z_h z_st z_bl z_fi z_po z_pr z_an), .long z_n, .long z_m, .long z_d, .long z_a, .long z_b, .long z_v, .int z_ep, .int z_su, .ref a_buf, .int z_by, .int z_mo, .ref a_st, .ref a_bl, .ref a_fi, .ref a_ob, .ref a_si, .ref a_po, .ref a_pr, .ref a_an, .int (f_MD_join_booked motion z_n z_m z_d z_a z_b z_v z_mo z_bk z_h z_st z_bl z_fi z_po z_pr z_an), .ref a_bo, .long (f_MD_join_h motion z_n z_m z_d z_a z_b z_v z_mo z_h z_st z_bl z_fi z_po z_pr z_an)])), (a_st, .inl (G.2.2.1, 12, .inl (f_MD_join_a_st motion z_n z_m z_d z_a z_b z_v z_mo z_h z_st z_bl z_fi z_po z_pr z_an))), (a_bl, .inl (G.2.2.2.1, 12, .inr (.inl z_bl))), (a_fi, .inl (G.2.2.1, 12, .inl z_fi)), (a_po, .inl (G.2.2.2.1, 72, .inr (.inl z_po))), (a_pr, .inl (G.2.2.1, 72, .inl z_pr)), (a_an, .inl (G.2.2.2.1, 72, .inr (.inl z_an))), (a_si, .inl (G.2.2.2.1, 12, .inr (.inl (f_MD_join_a_si motion z_n z_m z_d z_a z_b z_v z_mo z_h z_st z_bl z_fi z_po z_pr z_an z_sg)))), (a_bo, .inl (G.2.2.1, 12, .inl (f_MD_join_a_bo motion z_n z_m z_d z_a z_b z_v z_mo z_bk z_h z_st z_bl z_fi z_po z_pr z_an z_bo)))]) (va_A [(y_, .inr (4, [.int z_th, .long z_n, .long z_m, .long z_d, .long z_a, .long z_b, .long z_v, .int z_ep, .int z_su, .ref a_buf, .int z_by, .int z_mo, .ref a_st, .ref a_bl, .ref a_fi, .ref a_ob, .ref a_si, .ref a_po, .ref a_pr, .ref a_an, .int z_bk, .ref a_bo, .long z_h])), (a_st, .inl (G.2.2.1, 12, .inl z_st)), (a_bl, .inl (G.2.2.2.1, 12, .inr (.inl z_bl))), (a_fi, .inl (G.2.2.1, 12, .inl z_fi)), (a_po, .inl (G.2.2.2.1, 72, .inr (.inl z_po))), (a_pr, .inl (G.2.2.1, 72, .inl z_pr)), (a_an, .inl (G.2.2.2.1, 72, .inr (.inl z_an))), (a_si, .inl (G.2.2.2.1, 12, .inr (.inl z_sg))), (a_bo, .inl (G.2.2.1, 12, .inl z_bo))] H.size) := by
  refine xc_ofW (by decide) ?_
  intro p e s m args below meth c s₁ B hml hE hv
  obtain ⟨rfl, rfl, hw⟩ := hv
  have hx := B.exec
  have hb := B.bytes
  have ht := B.returns
  have hl0 := B.notSynchronized
  have S : xc_Fix p m c b_MD_join 2 s "SealTrustModel" := ⟨hx, hb, hml, findClass_of_methodNamed B.named⟩
  have hD := hD0.self (sz := s.heap.size)
  generalize hAe : va_A [(y_, .inr (4, [.int z_th, .long z_n, .long z_m, .long z_d, .long z_a, .long z_b, .long z_v, .int z_ep, .int z_su, .ref a_buf, .int z_by, .int z_mo, .ref a_st, .ref a_bl, .ref a_fi, .ref a_ob, .ref a_si, .ref a_po, .ref a_pr, .ref a_an, .int z_bk, .ref a_bo, .long z_h])), (a_st, .inl (G.2.2.1, 12, .inl z_st)), (a_bl, .inl (G.2.2.2.1, 12, .inr (.inl z_bl))), (a_fi, .inl (G.2.2.1, 12, .inl z_fi)), (a_po, .inl (G.2.2.2.1, 72, .inr (.inl z_po))), (a_pr, .inl (G.2.2.1, 72, .inl z_pr)), (a_an, .inl (G.2.2.2.1, 72, .inr (.inl z_an))), (a_si, .inl (G.2.2.2.1, 12, .inr (.inl z_sg))), (a_bo, .inl (G.2.2.1, 12, .inl z_bo))] s.heap.size = A at hD ⊢
  have hA : ∀ q : Nat, s.heap.size ≤ q → A q := fun q h => by rw [← hAe]; exact Or.inr h
  have hS : va_S A s.heap s.heap [] := va_S.rf
  have hl := lv_entry ([.ref y_, .int motion]) (n := 2) (Nat.le_of_ble_eq_true rfl)
  rw [lg_entry_eq]
  generalize (lg_sl ([.ref y_, .int motion]) ++ List.replicate (2 - (lg_sl ([.ref y_, .int motion])).length) Slot.unset).toArray = ls at hl ⊢
  have hl : lv_has ls 2 [(0, .ref y_), (1, .int motion)] := hl
  obtain ⟨r0, hr0⟩ : ∃ r, f_MD_join motion z_n z_m z_d z_a z_b z_v z_mo z_h z_st z_bl z_fi z_po z_pr z_an z_sg = r := ⟨_, rfl⟩
  rw [hr0]
  unfold f_MD_join at hr0
  obtain ⟨r1, hr1⟩ : ∃ r, f_MD_join_thrownCode motion z_n z_m z_d z_a z_b z_v z_mo z_h z_st z_bl z_fi z_po z_pr z_an = r := ⟨_, rfl⟩
  rw [hr1]
  unfold f_MD_join_thrownCode at hr1
  obtain ⟨r2, hr2⟩ : ∃ r, f_MD_join_h motion z_n z_m z_d z_a z_b z_v z_mo z_h z_st z_bl z_fi z_po z_pr z_an = r := ⟨_, rfl⟩
  rw [hr2]
  unfold f_MD_join_h at hr2
  obtain ⟨r3, hr3⟩ : ∃ r, f_MD_join_booked motion z_n z_m z_d z_a z_b z_v z_mo z_bk z_h z_st z_bl z_fi z_po z_pr z_an = r := ⟨_, rfl⟩
  rw [hr3]
  unfold f_MD_join_booked at hr3
  obtain ⟨r4, hr4⟩ : ∃ r, f_MD_join_a_si motion z_n z_m z_d z_a z_b z_v z_mo z_h z_st z_bl z_fi z_po z_pr z_an z_sg = r := ⟨_, rfl⟩
  rw [hr4]
  unfold f_MD_join_a_si at hr4
  obtain ⟨r5, hr5⟩ : ∃ r, f_MD_join_a_st motion z_n z_m z_d z_a z_b z_v z_mo z_h z_st z_bl z_fi z_po z_pr z_an = r := ⟨_, rfl⟩
  rw [hr5]
  unfold f_MD_join_a_st at hr5
  obtain ⟨r6, hr6⟩ : ∃ r, f_MD_join_a_bo motion z_n z_m z_d z_a z_b z_v z_mo z_bk z_h z_st z_bl z_fi z_po z_pr z_an z_bo = r := ⟨_, rfl⟩
  rw [hr6]
  unfold f_MD_join_a_bo at hr6
  refine lv_aload_n hx hb d_MD_join_0 rfl (lv_at hl 0 rfl) ?_
  refine lv_aload_n hx hb d_MD_join_1 rfl (lv_at hl 0 rfl) ?_
  refine lv_iload_n hx hb d_MD_join_2 rfl (lv_at hl 1 rfl) ?_
  refine xg_read (xg_runV (rest := [.ref y_]) (kw := 1) si_MD_142 hg hw S (va_recv (xg_k hg hw) hP (ci := 4) rfl (q0 := 0) rfl) (ct_MD_isMotion l hg s.heap y_ motion z_th z_n z_m z_d z_a z_b z_v z_ep z_su a_buf z_by z_mo a_st a_bl a_fi a_ob a_si a_po a_pr a_an z_bk a_bo z_h (hP.sub [0] rfl) ) ⟨by decide, by decide, by decide, by decide⟩ rfl hl.1 rfl (Nat.le_of_ble_eq_true rfl) d_MD_join_3) ?_
  refine lv_if_ne hx hb d_MD_join_6 (tgt := 13) (by decide) (fun h6 => ?_) (fun h6 => ?_)
  · rw [if_neg h6] at hr0
    rw [if_neg h6] at hr1
    rw [if_neg h6] at hr2
    rw [if_neg h6] at hr3
    rw [if_neg h6] at hr4
    rw [if_neg h6] at hr5
    rw [if_neg h6] at hr6
    refine lv_aload_n hx hb d_MD_join_13 rfl (lv_at hl 0 rfl) ?_
    refine gf_MD_48 hg hw S hP 0 rfl rfl d_MD_join_14 ?_
    refine lv_iload_n hx hb d_MD_join_17 rfl (lv_at hl 1 rfl) ?_
    refine va_iald hx hb (xg_k hg hw) hP 1 0 rfl rfl (xs_isM h6 hQ) d_MD_join_18 ?_
    refine lv_if_eq hx hb d_MD_join_19 (tgt := 26) (by decide) (fun h19 => ?_) (fun h19 => ?_)
    · rw [if_pos h19] at hr0
      rw [if_pos h19] at hr1
      rw [if_pos h19] at hr2
      rw [if_pos h19] at hr3
      rw [if_pos h19] at hr4
      rw [if_pos h19] at hr5
      rw [if_pos h19] at hr6
      refine lv_aload_n hx hb d_MD_join_26 rfl (lv_at hl 0 rfl) ?_
      refine gf_MD_51 hg hw S hP 0 rfl rfl d_MD_join_27 ?_
      refine lv_iload_n hx hb d_MD_join_30 rfl (lv_at hl 1 rfl) ?_
      refine va_lald hx hb (xg_k hg hw) hP 2 1 rfl rfl (xs_isM h6 hQ) d_MD_join_31 ?_
      refine lv_aload_n hx hb d_MD_join_32 rfl (lv_at hl 0 rfl) ?_
      refine gf_MD_13 hg hw S hP 0 rfl rfl d_MD_join_33 ?_
      refine xg_read (xg_runS (rest := [.ref y_]) (kw := 1) si_MD_126 hg hw S (ct_MD_common l hg s.heap (z_bl motion.toNatClampNeg) z_n ) ⟨by decide, by decide, by decide, by decide⟩ rfl hl.1 rfl (Nat.le_of_ble_eq_true rfl) d_MD_join_36) ?_
      refine lv_lconst (v := (1 : Int64)) hx hb d_MD_join_39 (by decide) ?_
      refine W.lcmp hx hb d_MD_join_40 ?_
      refine lv_if_eq hx hb d_MD_join_41 (tgt := 48) (by decide) (fun h41 => ?_) (fun h41 => ?_)
      · rw [lg_cmp_eq] at h41
        rw [if_pos h41] at hr0
        rw [if_pos h41] at hr1
        rw [if_pos h41] at hr2
        rw [if_pos h41] at hr3
        rw [if_pos h41] at hr4
        rw [if_pos h41] at hr5
        rw [if_pos h41] at hr6
        refine lv_aload_n hx hb d_MD_join_48 rfl (lv_at hl 0 rfl) ?_
        refine gf_MD_55 hg hw S hP 0 rfl rfl d_MD_join_49 ?_
        refine lv_iload_n hx hb d_MD_join_52 rfl (lv_at hl 1 rfl) ?_
        refine va_iald hx hb (xg_k hg hw) hP 3 0 rfl rfl (xs_isM h6 hQ) d_MD_join_53 ?_
        refine lv_aload_n hx hb d_MD_join_54 rfl (lv_at hl 0 rfl) ?_
        refine lv_iload_n hx hb d_MD_join_55 rfl (lv_at hl 1 rfl) ?_
        refine xw_use (wc := [(y_, .inr (4, [.int z_th, .long z_n, .long z_m, .long z_d, .long z_a, .long z_b, .long z_v, .int z_ep, .int z_su, .ref a_buf, .int z_by, .int z_mo, .ref a_st, .ref a_bl, .ref a_fi, .ref a_ob, .ref a_si, .ref a_po, .ref a_pr, .ref a_an, .int z_bk, .ref a_bo, .long z_h])), (a_fi, .inl (G.2.2.1, 12, .inl z_fi)), (a_bl, .inl (G.2.2.2.1, 12, .inr (.inl z_bl))), (a_po, .inl (G.2.2.2.1, 72, .inr (.inl z_po))), (a_pr, .inl (G.2.2.1, 72, .inl z_pr)), (a_an, .inl (G.2.2.2.1, 72, .inr (.inl z_an)))]) (wr := [(a_st, .inl (G.2.2.1, 12, .inl z_st)), (a_si, .inl (G.2.2.2.1, 12, .inr (.inl z_sg))), (a_bo, .inl (G.2.2.1, 12, .inl z_bo))]) (xg_runV (rest := [.int (z_fi motion.toNatClampNeg), .ref y_]) (kw := 2) si_MD_163 hg hw S (va_recv (xg_k hg hw) hP (ci := 4) rfl (q0 := 0) rfl) (ct_MD_notGood l hg s.heap y_ motion z_th z_n z_m z_d z_a z_b z_v z_ep z_su a_buf z_by z_mo a_st a_bl a_fi a_ob a_si a_po a_pr a_an z_bk a_bo z_h z_fi z_bl z_po z_pr z_an (hP.sub [0, 3, 2, 4, 5, 6] rfl) ((hD.sub [0, 3, 2, 4, 5, 6] (by decide) rfl).weaken (fun _ _ _ _ => trivial)) (hN h6).1 (hN h6).2 (xs_isM h6 hQ)) ⟨by decide, by decide, by decide, by decide⟩ rfl hl.1 rfl (Nat.le_of_ble_eq_true rfl) d_MD_join_56) hP hD hS hA [0, 3, 2, 4, 5, 6] [1, 7, 8] rfl rfl (by decide) (by decide) (fun H1 L1 hP hD hS => ?_)
        have hP : va_P G.2.1 cl_all [(a_st, .inl (G.2.2.1, 12, .inl z_st)), (a_si, .inl (G.2.2.2.1, 12, .inr (.inl z_sg))), (a_bo, .inl (G.2.2.1, 12, .inl z_bo)), (y_, .inr (4, [.int z_th, .long z_n, .long z_m, .long z_d, .long z_a, .long z_b, .long z_v, .int z_ep, .int z_su, .ref a_buf, .int z_by, .int z_mo, .ref a_st, .ref a_bl, .ref a_fi, .ref a_ob, .ref a_si, .ref a_po, .ref a_pr, .ref a_an, .int z_bk, .ref a_bo, .long (f_MD_notGood_h motion z_n z_m z_d z_a z_b z_v z_bl z_po z_pr z_an z_fi z_h)])), (a_fi, .inl (G.2.2.1, 12, .inl z_fi)), (a_bl, .inl (G.2.2.2.1, 12, .inr (.inl z_bl))), (a_po, .inl (G.2.2.2.1, 72, .inr (.inl z_po))), (a_pr, .inl (G.2.2.1, 72, .inl z_pr)), (a_an, .inl (G.2.2.2.1, 72, .inr (.inl z_an)))] H1 := hP
        have hD : va_D A [(a_st, .inl (G.2.2.1, 12, .inl z_st)), (a_si, .inl (G.2.2.2.1, 12, .inr (.inl z_sg))), (a_bo, .inl (G.2.2.1, 12, .inl z_bo)), (y_, .inr (4, [.int z_th, .long z_n, .long z_m, .long z_d, .long z_a, .long z_b, .long z_v, .int z_ep, .int z_su, .ref a_buf, .int z_by, .int z_mo, .ref a_st, .ref a_bl, .ref a_fi, .ref a_ob, .ref a_si, .ref a_po, .ref a_pr, .ref a_an, .int z_bk, .ref a_bo, .long (f_MD_notGood_h motion z_n z_m z_d z_a z_b z_v z_bl z_po z_pr z_an z_fi z_h)])), (a_fi, .inl (G.2.2.1, 12, .inl z_fi)), (a_bl, .inl (G.2.2.2.1, 12, .inr (.inl z_bl))), (a_po, .inl (G.2.2.2.1, 72, .inr (.inl z_po))), (a_pr, .inl (G.2.2.1, 72, .inl z_pr)), (a_an, .inl (G.2.2.2.1, 72, .inr (.inl z_an)))] := hD
        refine lv_iconst (v := (-1 : Int32)) hx hb d_MD_join_59 (by decide) ?_
        refine lv_ixor hx hb d_MD_join_60 ?_
        refine lv_iand hx hb d_MD_join_61 ?_
        refine xg_read (xg_runS (rest := [.ref y_]) (kw := 1) si_MD_156 hg hw S (ct_MD_bits l hg H1 ((z_fi motion.toNatClampNeg) &&& ((f_MD_notGood motion z_n z_m z_d z_a z_b z_v z_bl z_po z_pr z_an z_fi z_h) ^^^ (-1 : Int32))) ) ⟨by decide, by decide, by decide, by decide⟩ rfl hl.1 rfl (Nat.le_of_ble_eq_true rfl) d_MD_join_62) ?_
        refine lv_iconst (v := (3 : Int32)) hx hb d_MD_join_65 (by decide) ?_
        refine lv_icmp_ge hx hb d_MD_join_66 (tgt := 73) (by decide) (fun h66 => ?_) (fun h66 => ?_)
        · rw [if_pos h66] at hr0
          rw [if_pos h66] at hr1
          rw [if_pos h66] at hr2
          rw [if_pos h66] at hr3
          rw [if_pos h66] at hr4
          rw [if_pos h66] at hr5
          rw [if_pos h66] at hr6
          refine lv_iconst (v := (0 : Int32)) hx hb d_MD_join_73 (by decide) ?_
          refine pf_MD_7 hg hw S hP hD hS 3 rfl rfl rfl (Nat.le_of_ble_eq_true rfl) d_MD_join_74 (fun H2 L2 hP hD hS => ?_)
          have hP : va_P G.2.1 cl_all [(a_st, .inl (G.2.2.1, 12, .inl z_st)), (a_si, .inl (G.2.2.2.1, 12, .inr (.inl z_sg))), (a_bo, .inl (G.2.2.1, 12, .inl z_bo)), (y_, .inr (4, [.int (0 : Int32), .long z_n, .long z_m, .long z_d, .long z_a, .long z_b, .long z_v, .int z_ep, .int z_su, .ref a_buf, .int z_by, .int z_mo, .ref a_st, .ref a_bl, .ref a_fi, .ref a_ob, .ref a_si, .ref a_po, .ref a_pr, .ref a_an, .int z_bk, .ref a_bo, .long (f_MD_notGood_h motion z_n z_m z_d z_a z_b z_v z_bl z_po z_pr z_an z_fi z_h)])), (a_fi, .inl (G.2.2.1, 12, .inl z_fi)), (a_bl, .inl (G.2.2.2.1, 12, .inr (.inl z_bl))), (a_po, .inl (G.2.2.2.1, 72, .inr (.inl z_po))), (a_pr, .inl (G.2.2.1, 72, .inl z_pr)), (a_an, .inl (G.2.2.2.1, 72, .inr (.inl z_an)))] H2 := hP
          have hD : va_D A [(a_st, .inl (G.2.2.1, 12, .inl z_st)), (a_si, .inl (G.2.2.2.1, 12, .inr (.inl z_sg))), (a_bo, .inl (G.2.2.1, 12, .inl z_bo)), (y_, .inr (4, [.int (0 : Int32), .long z_n, .long z_m, .long z_d, .long z_a, .long z_b, .long z_v, .int z_ep, .int z_su, .ref a_buf, .int z_by, .int z_mo, .ref a_st, .ref a_bl, .ref a_fi, .ref a_ob, .ref a_si, .ref a_po, .ref a_pr, .ref a_an, .int z_bk, .ref a_bo, .long (f_MD_notGood_h motion z_n z_m z_d z_a z_b z_v z_bl z_po z_pr z_an z_fi z_h)])), (a_fi, .inl (G.2.2.1, 12, .inl z_fi)), (a_bl, .inl (G.2.2.2.1, 12, .inr (.inl z_bl))), (a_po, .inl (G.2.2.2.1, 72, .inr (.inl z_po))), (a_pr, .inl (G.2.2.1, 72, .inl z_pr)), (a_an, .inl (G.2.2.2.1, 72, .inr (.inl z_an)))] := hD
          refine lv_aload_n hx hb d_MD_join_77 rfl (lv_at hl 0 rfl) ?_
          refine gf_MD_7 hg hw S hP 3 rfl rfl d_MD_join_78 ?_
          refine lv_if_eq hx hb d_MD_join_81 (tgt := 86) (by decide) (fun h81 => ?_) (fun h81 => ?_)
          · refine lv_aload_n hx hb d_MD_join_86 rfl (lv_at hl 0 rfl) ?_
            refine gf_MD_61 hg hw S hP 3 rfl rfl d_MD_join_87 ?_
            refine lv_iload_n hx hb d_MD_join_90 rfl (lv_at hl 1 rfl) ?_
            refine lv_aload_n hx hb d_MD_join_91 rfl (lv_at hl 0 rfl) ?_
            refine gf_MD_51 hg hw S hP 3 rfl rfl d_MD_join_92 ?_
            refine lv_iload_n hx hb d_MD_join_95 rfl (lv_at hl 1 rfl) ?_
            refine va_lald hx hb (xg_k hg hw) hP 5 1 rfl rfl (xs_isM h6 hQ) d_MD_join_96 ?_
            refine kc_MD_137 hg hw S d_MD_join_97 ?_
            refine kc_MD_107 hg hw S d_MD_join_100 ?_
            refine lv_aload_n hx hb d_MD_join_103 rfl (lv_at hl 0 rfl) ?_
            refine gf_MD_17 hg hw S hP 3 rfl rfl d_MD_join_104 ?_
            refine lv_lmul hx hb d_MD_join_107 ?_
            refine xg_read (xg_runS (rest := [.long (z_bl motion.toNatClampNeg), .int motion, .ref a_si]) (kw := 4) si_MD_131 hg hw S (ct_MD_inverse l hg H2 (65537 : Int64) ((2 : Int64) * z_m) (h2m h6)) ⟨by decide, by decide, by decide, by decide⟩ rfl hl.1 rfl (Nat.le_of_ble_eq_true rfl) d_MD_join_108) ?_
            refine lv_aload_n hx hb d_MD_join_111 rfl (lv_at hl 0 rfl) ?_
            refine gf_MD_13 hg hw S hP 3 rfl rfl d_MD_join_112 ?_
            refine xg_read (xg_runS (rest := [.int motion, .ref a_si]) (kw := 2) si_MD_96 hg hw S (ct_MD_raised l hg H2 (z_bl motion.toNatClampNeg) (f_MD_inverse (65537 : Int64) ((2 : Int64) * z_m)) z_n (hN h6).2) ⟨by decide, by decide, by decide, by decide⟩ rfl hl.1 rfl (Nat.le_of_ble_eq_true rfl) d_MD_join_115) ?_
            refine va_last hx hb (xg_k hg hw) hP hD hS 1 1 rfl rfl (xs_isM h6 hQ) d_MD_join_118 (fun H3 L3 hP hD hS => ?_)
            have hP : va_P G.2.1 cl_all [(a_st, .inl (G.2.2.1, 12, .inl z_st)), (a_si, .inl (G.2.2.2.1, 12, .inr (.inl (vp_updL z_sg motion.toNatClampNeg (f_MD_raised (z_bl motion.toNatClampNeg) (f_MD_inverse (65537 : Int64) ((2 : Int64) * z_m)) z_n))))), (a_bo, .inl (G.2.2.1, 12, .inl z_bo)), (y_, .inr (4, [.int (0 : Int32), .long z_n, .long z_m, .long z_d, .long z_a, .long z_b, .long z_v, .int z_ep, .int z_su, .ref a_buf, .int z_by, .int z_mo, .ref a_st, .ref a_bl, .ref a_fi, .ref a_ob, .ref a_si, .ref a_po, .ref a_pr, .ref a_an, .int z_bk, .ref a_bo, .long (f_MD_notGood_h motion z_n z_m z_d z_a z_b z_v z_bl z_po z_pr z_an z_fi z_h)])), (a_fi, .inl (G.2.2.1, 12, .inl z_fi)), (a_bl, .inl (G.2.2.2.1, 12, .inr (.inl z_bl))), (a_po, .inl (G.2.2.2.1, 72, .inr (.inl z_po))), (a_pr, .inl (G.2.2.1, 72, .inl z_pr)), (a_an, .inl (G.2.2.2.1, 72, .inr (.inl z_an)))] H3 := hP
            have hD : va_D A [(a_st, .inl (G.2.2.1, 12, .inl z_st)), (a_si, .inl (G.2.2.2.1, 12, .inr (.inl (vp_updL z_sg motion.toNatClampNeg (f_MD_raised (z_bl motion.toNatClampNeg) (f_MD_inverse (65537 : Int64) ((2 : Int64) * z_m)) z_n))))), (a_bo, .inl (G.2.2.1, 12, .inl z_bo)), (y_, .inr (4, [.int (0 : Int32), .long z_n, .long z_m, .long z_d, .long z_a, .long z_b, .long z_v, .int z_ep, .int z_su, .ref a_buf, .int z_by, .int z_mo, .ref a_st, .ref a_bl, .ref a_fi, .ref a_ob, .ref a_si, .ref a_po, .ref a_pr, .ref a_an, .int z_bk, .ref a_bo, .long (f_MD_notGood_h motion z_n z_m z_d z_a z_b z_v z_bl z_po z_pr z_an z_fi z_h)])), (a_fi, .inl (G.2.2.1, 12, .inl z_fi)), (a_bl, .inl (G.2.2.2.1, 12, .inr (.inl z_bl))), (a_po, .inl (G.2.2.2.1, 72, .inr (.inl z_po))), (a_pr, .inl (G.2.2.1, 72, .inl z_pr)), (a_an, .inl (G.2.2.2.1, 72, .inr (.inl z_an)))] := hD
            refine lv_aload_n hx hb d_MD_join_119 rfl (lv_at hl 0 rfl) ?_
            refine gf_MD_48 hg hw S hP 3 rfl rfl d_MD_join_120 ?_
            refine lv_iload_n hx hb d_MD_join_123 rfl (lv_at hl 1 rfl) ?_
            refine lv_iconst (v := (1 : Int32)) hx hb d_MD_join_124 (by decide) ?_
            refine va_iast hx hb (xg_k hg hw) hP hD hS 0 0 rfl rfl (xs_isM h6 hQ) d_MD_join_125 (fun H4 L4 hP hD hS => ?_)
            have hP : va_P G.2.1 cl_all [(a_st, .inl (G.2.2.1, 12, .inl (upd z_st motion.toNatClampNeg (1 : Int32)))), (a_si, .inl (G.2.2.2.1, 12, .inr (.inl (vp_updL z_sg motion.toNatClampNeg (f_MD_raised (z_bl motion.toNatClampNeg) (f_MD_inverse (65537 : Int64) ((2 : Int64) * z_m)) z_n))))), (a_bo, .inl (G.2.2.1, 12, .inl z_bo)), (y_, .inr (4, [.int (0 : Int32), .long z_n, .long z_m, .long z_d, .long z_a, .long z_b, .long z_v, .int z_ep, .int z_su, .ref a_buf, .int z_by, .int z_mo, .ref a_st, .ref a_bl, .ref a_fi, .ref a_ob, .ref a_si, .ref a_po, .ref a_pr, .ref a_an, .int z_bk, .ref a_bo, .long (f_MD_notGood_h motion z_n z_m z_d z_a z_b z_v z_bl z_po z_pr z_an z_fi z_h)])), (a_fi, .inl (G.2.2.1, 12, .inl z_fi)), (a_bl, .inl (G.2.2.2.1, 12, .inr (.inl z_bl))), (a_po, .inl (G.2.2.2.1, 72, .inr (.inl z_po))), (a_pr, .inl (G.2.2.1, 72, .inl z_pr)), (a_an, .inl (G.2.2.2.1, 72, .inr (.inl z_an)))] H4 := hP
            have hD : va_D A [(a_st, .inl (G.2.2.1, 12, .inl (upd z_st motion.toNatClampNeg (1 : Int32)))), (a_si, .inl (G.2.2.2.1, 12, .inr (.inl (vp_updL z_sg motion.toNatClampNeg (f_MD_raised (z_bl motion.toNatClampNeg) (f_MD_inverse (65537 : Int64) ((2 : Int64) * z_m)) z_n))))), (a_bo, .inl (G.2.2.1, 12, .inl z_bo)), (y_, .inr (4, [.int (0 : Int32), .long z_n, .long z_m, .long z_d, .long z_a, .long z_b, .long z_v, .int z_ep, .int z_su, .ref a_buf, .int z_by, .int z_mo, .ref a_st, .ref a_bl, .ref a_fi, .ref a_ob, .ref a_si, .ref a_po, .ref a_pr, .ref a_an, .int z_bk, .ref a_bo, .long (f_MD_notGood_h motion z_n z_m z_d z_a z_b z_v z_bl z_po z_pr z_an z_fi z_h)])), (a_fi, .inl (G.2.2.1, 12, .inl z_fi)), (a_bl, .inl (G.2.2.2.1, 12, .inr (.inl z_bl))), (a_po, .inl (G.2.2.2.1, 72, .inr (.inl z_po))), (a_pr, .inl (G.2.2.1, 72, .inl z_pr)), (a_an, .inl (G.2.2.2.1, 72, .inr (.inl z_an)))] := hD
            refine lv_aload_n hx hb d_MD_join_126 rfl (lv_at hl 0 rfl) ?_
            refine gf_MD_76 hg hw S hP 3 rfl rfl d_MD_join_127 ?_
            refine lv_aload_n hx hb d_MD_join_130 rfl (lv_at hl 0 rfl) ?_
            refine gf_MD_73 hg hw S hP 3 rfl rfl d_MD_join_131 ?_
            refine lv_iload_n hx hb d_MD_join_134 rfl (lv_at hl 1 rfl) ?_
            refine va_iast hx hb (xg_k hg hw) hP hD hS 2 0 rfl rfl (hB h6 h19) d_MD_join_135 (fun H5 L5 hP hD hS => ?_)
            have hP : va_P G.2.1 cl_all [(a_st, .inl (G.2.2.1, 12, .inl (upd z_st motion.toNatClampNeg (1 : Int32)))), (a_si, .inl (G.2.2.2.1, 12, .inr (.inl (vp_updL z_sg motion.toNatClampNeg (f_MD_raised (z_bl motion.toNatClampNeg) (f_MD_inverse (65537 : Int64) ((2 : Int64) * z_m)) z_n))))), (a_bo, .inl (G.2.2.1, 12, .inl (upd z_bo z_bk.toNatClampNeg motion))), (y_, .inr (4, [.int (0 : Int32), .long z_n, .long z_m, .long z_d, .long z_a, .long z_b, .long z_v, .int z_ep, .int z_su, .ref a_buf, .int z_by, .int z_mo, .ref a_st, .ref a_bl, .ref a_fi, .ref a_ob, .ref a_si, .ref a_po, .ref a_pr, .ref a_an, .int z_bk, .ref a_bo, .long (f_MD_notGood_h motion z_n z_m z_d z_a z_b z_v z_bl z_po z_pr z_an z_fi z_h)])), (a_fi, .inl (G.2.2.1, 12, .inl z_fi)), (a_bl, .inl (G.2.2.2.1, 12, .inr (.inl z_bl))), (a_po, .inl (G.2.2.2.1, 72, .inr (.inl z_po))), (a_pr, .inl (G.2.2.1, 72, .inl z_pr)), (a_an, .inl (G.2.2.2.1, 72, .inr (.inl z_an)))] H5 := hP
            have hD : va_D A [(a_st, .inl (G.2.2.1, 12, .inl (upd z_st motion.toNatClampNeg (1 : Int32)))), (a_si, .inl (G.2.2.2.1, 12, .inr (.inl (vp_updL z_sg motion.toNatClampNeg (f_MD_raised (z_bl motion.toNatClampNeg) (f_MD_inverse (65537 : Int64) ((2 : Int64) * z_m)) z_n))))), (a_bo, .inl (G.2.2.1, 12, .inl (upd z_bo z_bk.toNatClampNeg motion))), (y_, .inr (4, [.int (0 : Int32), .long z_n, .long z_m, .long z_d, .long z_a, .long z_b, .long z_v, .int z_ep, .int z_su, .ref a_buf, .int z_by, .int z_mo, .ref a_st, .ref a_bl, .ref a_fi, .ref a_ob, .ref a_si, .ref a_po, .ref a_pr, .ref a_an, .int z_bk, .ref a_bo, .long (f_MD_notGood_h motion z_n z_m z_d z_a z_b z_v z_bl z_po z_pr z_an z_fi z_h)])), (a_fi, .inl (G.2.2.1, 12, .inl z_fi)), (a_bl, .inl (G.2.2.2.1, 12, .inr (.inl z_bl))), (a_po, .inl (G.2.2.2.1, 72, .inr (.inl z_po))), (a_pr, .inl (G.2.2.1, 72, .inl z_pr)), (a_an, .inl (G.2.2.2.1, 72, .inr (.inl z_an)))] := hD
            refine lv_aload_n hx hb d_MD_join_136 rfl (lv_at hl 0 rfl) ?_
            refine lv_dup hx hb d_MD_join_137 rfl ?_
            refine gf_MD_73 hg hw S hP 3 rfl rfl d_MD_join_138 ?_
            refine lv_iconst (v := (1 : Int32)) hx hb d_MD_join_141 (by decide) ?_
            refine lv_iadd hx hb d_MD_join_142 ?_
            refine pf_MD_73 hg hw S hP hD hS 3 rfl rfl rfl (Nat.le_of_ble_eq_true rfl) d_MD_join_143 (fun H6 L6 hP hD hS => ?_)
            have hP : va_P G.2.1 cl_all [(a_st, .inl (G.2.2.1, 12, .inl (upd z_st motion.toNatClampNeg (1 : Int32)))), (a_si, .inl (G.2.2.2.1, 12, .inr (.inl (vp_updL z_sg motion.toNatClampNeg (f_MD_raised (z_bl motion.toNatClampNeg) (f_MD_inverse (65537 : Int64) ((2 : Int64) * z_m)) z_n))))), (a_bo, .inl (G.2.2.1, 12, .inl (upd z_bo z_bk.toNatClampNeg motion))), (y_, .inr (4, [.int (0 : Int32), .long z_n, .long z_m, .long z_d, .long z_a, .long z_b, .long z_v, .int z_ep, .int z_su, .ref a_buf, .int z_by, .int z_mo, .ref a_st, .ref a_bl, .ref a_fi, .ref a_ob, .ref a_si, .ref a_po, .ref a_pr, .ref a_an, .int (z_bk + (1 : Int32)), .ref a_bo, .long (f_MD_notGood_h motion z_n z_m z_d z_a z_b z_v z_bl z_po z_pr z_an z_fi z_h)])), (a_fi, .inl (G.2.2.1, 12, .inl z_fi)), (a_bl, .inl (G.2.2.2.1, 12, .inr (.inl z_bl))), (a_po, .inl (G.2.2.2.1, 72, .inr (.inl z_po))), (a_pr, .inl (G.2.2.1, 72, .inl z_pr)), (a_an, .inl (G.2.2.2.1, 72, .inr (.inl z_an)))] H6 := hP
            have hD : va_D A [(a_st, .inl (G.2.2.1, 12, .inl (upd z_st motion.toNatClampNeg (1 : Int32)))), (a_si, .inl (G.2.2.2.1, 12, .inr (.inl (vp_updL z_sg motion.toNatClampNeg (f_MD_raised (z_bl motion.toNatClampNeg) (f_MD_inverse (65537 : Int64) ((2 : Int64) * z_m)) z_n))))), (a_bo, .inl (G.2.2.1, 12, .inl (upd z_bo z_bk.toNatClampNeg motion))), (y_, .inr (4, [.int (0 : Int32), .long z_n, .long z_m, .long z_d, .long z_a, .long z_b, .long z_v, .int z_ep, .int z_su, .ref a_buf, .int z_by, .int z_mo, .ref a_st, .ref a_bl, .ref a_fi, .ref a_ob, .ref a_si, .ref a_po, .ref a_pr, .ref a_an, .int (z_bk + (1 : Int32)), .ref a_bo, .long (f_MD_notGood_h motion z_n z_m z_d z_a z_b z_v z_bl z_po z_pr z_an z_fi z_h)])), (a_fi, .inl (G.2.2.1, 12, .inl z_fi)), (a_bl, .inl (G.2.2.2.1, 12, .inr (.inl z_bl))), (a_po, .inl (G.2.2.2.1, 72, .inr (.inl z_po))), (a_pr, .inl (G.2.2.1, 72, .inl z_pr)), (a_an, .inl (G.2.2.2.1, 72, .inr (.inl z_an)))] := hD
            refine lv_aload_n hx hb d_MD_join_146 rfl (lv_at hl 0 rfl) ?_
            refine gf_MD_61 hg hw S hP 3 rfl rfl d_MD_join_147 ?_
            refine lv_iload_n hx hb d_MD_join_150 rfl (lv_at hl 1 rfl) ?_
            refine va_lald hx hb (xg_k hg hw) hP 1 1 rfl rfl (xs_isM h6 hQ) d_MD_join_151 ?_
            subst hr0
            subst hr1
            subst hr2
            subst hr3
            subst hr4
            subst hr5
            subst hr6
            have hP := hP.sub (ws' := [(y_, .inr (4, [.int (0 : Int32), .long z_n, .long z_m, .long z_d, .long z_a, .long z_b, .long z_v, .int z_ep, .int z_su, .ref a_buf, .int z_by, .int z_mo, .ref a_st, .ref a_bl, .ref a_fi, .ref a_ob, .ref a_si, .ref a_po, .ref a_pr, .ref a_an, .int (z_bk + (1 : Int32)), .ref a_bo, .long (f_MD_notGood_h motion z_n z_m z_d z_a z_b z_v z_bl z_po z_pr z_an z_fi z_h)])), (a_st, .inl (G.2.2.1, 12, .inl (upd z_st motion.toNatClampNeg (1 : Int32)))), (a_bl, .inl (G.2.2.2.1, 12, .inr (.inl z_bl))), (a_fi, .inl (G.2.2.1, 12, .inl z_fi)), (a_po, .inl (G.2.2.2.1, 72, .inr (.inl z_po))), (a_pr, .inl (G.2.2.1, 72, .inl z_pr)), (a_an, .inl (G.2.2.2.1, 72, .inr (.inl z_an))), (a_si, .inl (G.2.2.2.1, 12, .inr (.inl (vp_updL z_sg motion.toNatClampNeg (f_MD_raised (z_bl motion.toNatClampNeg) (f_MD_inverse (65537 : Int64) ((2 : Int64) * z_m)) z_n))))), (a_bo, .inl (G.2.2.1, 12, .inl (upd z_bo z_bk.toNatClampNeg motion)))]) [3, 0, 5, 4, 6, 7, 8, 1, 2] rfl
            have hD := hD.sub (ws' := [(y_, .inr (4, [.int (0 : Int32), .long z_n, .long z_m, .long z_d, .long z_a, .long z_b, .long z_v, .int z_ep, .int z_su, .ref a_buf, .int z_by, .int z_mo, .ref a_st, .ref a_bl, .ref a_fi, .ref a_ob, .ref a_si, .ref a_po, .ref a_pr, .ref a_an, .int (z_bk + (1 : Int32)), .ref a_bo, .long (f_MD_notGood_h motion z_n z_m z_d z_a z_b z_v z_bl z_po z_pr z_an z_fi z_h)])), (a_st, .inl (G.2.2.1, 12, .inl (upd z_st motion.toNatClampNeg (1 : Int32)))), (a_bl, .inl (G.2.2.2.1, 12, .inr (.inl z_bl))), (a_fi, .inl (G.2.2.1, 12, .inl z_fi)), (a_po, .inl (G.2.2.2.1, 72, .inr (.inl z_po))), (a_pr, .inl (G.2.2.1, 72, .inl z_pr)), (a_an, .inl (G.2.2.2.1, 72, .inr (.inl z_an))), (a_si, .inl (G.2.2.2.1, 12, .inr (.inl (vp_updL z_sg motion.toNatClampNeg (f_MD_raised (z_bl motion.toNatClampNeg) (f_MD_inverse (65537 : Int64) ((2 : Int64) * z_m)) z_n))))), (a_bo, .inl (G.2.2.1, 12, .inl (upd z_bo z_bk.toNatClampNeg motion)))]) [3, 0, 5, 4, 6, 7, 8, 1, 2] (by decide) rfl
            exact xw_lret hx hb ht hl0 hP hD hS d_MD_join_152
          · exact absurd h81 (by decide)
        · rw [if_neg h66] at hr0
          rw [if_neg h66] at hr1
          rw [if_neg h66] at hr2
          rw [if_neg h66] at hr3
          rw [if_neg h66] at hr4
          rw [if_neg h66] at hr5
          rw [if_neg h66] at hr6
          refine lv_iconst (v := (2 : Int32)) hx hb d_MD_join_69 (by decide) ?_
          refine lv_goto hx hb d_MD_join_70 (tgt := 74) (by decide) ?_
          refine pf_MD_7 hg hw S hP hD hS 3 rfl rfl rfl (Nat.le_of_ble_eq_true rfl) d_MD_join_74 (fun H7 L7 hP hD hS => ?_)
          have hP : va_P G.2.1 cl_all [(a_st, .inl (G.2.2.1, 12, .inl z_st)), (a_si, .inl (G.2.2.2.1, 12, .inr (.inl z_sg))), (a_bo, .inl (G.2.2.1, 12, .inl z_bo)), (y_, .inr (4, [.int (2 : Int32), .long z_n, .long z_m, .long z_d, .long z_a, .long z_b, .long z_v, .int z_ep, .int z_su, .ref a_buf, .int z_by, .int z_mo, .ref a_st, .ref a_bl, .ref a_fi, .ref a_ob, .ref a_si, .ref a_po, .ref a_pr, .ref a_an, .int z_bk, .ref a_bo, .long (f_MD_notGood_h motion z_n z_m z_d z_a z_b z_v z_bl z_po z_pr z_an z_fi z_h)])), (a_fi, .inl (G.2.2.1, 12, .inl z_fi)), (a_bl, .inl (G.2.2.2.1, 12, .inr (.inl z_bl))), (a_po, .inl (G.2.2.2.1, 72, .inr (.inl z_po))), (a_pr, .inl (G.2.2.1, 72, .inl z_pr)), (a_an, .inl (G.2.2.2.1, 72, .inr (.inl z_an)))] H7 := hP
          have hD : va_D A [(a_st, .inl (G.2.2.1, 12, .inl z_st)), (a_si, .inl (G.2.2.2.1, 12, .inr (.inl z_sg))), (a_bo, .inl (G.2.2.1, 12, .inl z_bo)), (y_, .inr (4, [.int (2 : Int32), .long z_n, .long z_m, .long z_d, .long z_a, .long z_b, .long z_v, .int z_ep, .int z_su, .ref a_buf, .int z_by, .int z_mo, .ref a_st, .ref a_bl, .ref a_fi, .ref a_ob, .ref a_si, .ref a_po, .ref a_pr, .ref a_an, .int z_bk, .ref a_bo, .long (f_MD_notGood_h motion z_n z_m z_d z_a z_b z_v z_bl z_po z_pr z_an z_fi z_h)])), (a_fi, .inl (G.2.2.1, 12, .inl z_fi)), (a_bl, .inl (G.2.2.2.1, 12, .inr (.inl z_bl))), (a_po, .inl (G.2.2.2.1, 72, .inr (.inl z_po))), (a_pr, .inl (G.2.2.1, 72, .inl z_pr)), (a_an, .inl (G.2.2.2.1, 72, .inr (.inl z_an)))] := hD
          refine lv_aload_n hx hb d_MD_join_77 rfl (lv_at hl 0 rfl) ?_
          refine gf_MD_7 hg hw S hP 3 rfl rfl d_MD_join_78 ?_
          refine lv_if_eq hx hb d_MD_join_81 (tgt := 86) (by decide) (fun h81 => ?_) (fun h81 => ?_)
          · exact absurd h81 (by decide)
          · refine lv_lconst (v := (0 : Int64)) hx hb d_MD_join_84 (by decide) ?_
            subst hr0
            subst hr1
            subst hr2
            subst hr3
            subst hr4
            subst hr5
            subst hr6
            have hP := hP.sub (ws' := [(y_, .inr (4, [.int (2 : Int32), .long z_n, .long z_m, .long z_d, .long z_a, .long z_b, .long z_v, .int z_ep, .int z_su, .ref a_buf, .int z_by, .int z_mo, .ref a_st, .ref a_bl, .ref a_fi, .ref a_ob, .ref a_si, .ref a_po, .ref a_pr, .ref a_an, .int z_bk, .ref a_bo, .long (f_MD_notGood_h motion z_n z_m z_d z_a z_b z_v z_bl z_po z_pr z_an z_fi z_h)])), (a_st, .inl (G.2.2.1, 12, .inl z_st)), (a_bl, .inl (G.2.2.2.1, 12, .inr (.inl z_bl))), (a_fi, .inl (G.2.2.1, 12, .inl z_fi)), (a_po, .inl (G.2.2.2.1, 72, .inr (.inl z_po))), (a_pr, .inl (G.2.2.1, 72, .inl z_pr)), (a_an, .inl (G.2.2.2.1, 72, .inr (.inl z_an))), (a_si, .inl (G.2.2.2.1, 12, .inr (.inl z_sg))), (a_bo, .inl (G.2.2.1, 12, .inl z_bo))]) [3, 0, 5, 4, 6, 7, 8, 1, 2] rfl
            have hD := hD.sub (ws' := [(y_, .inr (4, [.int (2 : Int32), .long z_n, .long z_m, .long z_d, .long z_a, .long z_b, .long z_v, .int z_ep, .int z_su, .ref a_buf, .int z_by, .int z_mo, .ref a_st, .ref a_bl, .ref a_fi, .ref a_ob, .ref a_si, .ref a_po, .ref a_pr, .ref a_an, .int z_bk, .ref a_bo, .long (f_MD_notGood_h motion z_n z_m z_d z_a z_b z_v z_bl z_po z_pr z_an z_fi z_h)])), (a_st, .inl (G.2.2.1, 12, .inl z_st)), (a_bl, .inl (G.2.2.2.1, 12, .inr (.inl z_bl))), (a_fi, .inl (G.2.2.1, 12, .inl z_fi)), (a_po, .inl (G.2.2.2.1, 72, .inr (.inl z_po))), (a_pr, .inl (G.2.2.1, 72, .inl z_pr)), (a_an, .inl (G.2.2.2.1, 72, .inr (.inl z_an))), (a_si, .inl (G.2.2.2.1, 12, .inr (.inl z_sg))), (a_bo, .inl (G.2.2.1, 12, .inl z_bo))]) [3, 0, 5, 4, 6, 7, 8, 1, 2] (by decide) rfl
            exact xw_lret hx hb ht hl0 hP hD hS d_MD_join_85
      · rw [lg_cmp_eq] at h41
        rw [if_neg h41] at hr0
        rw [if_neg h41] at hr1
        rw [if_neg h41] at hr2
        rw [if_neg h41] at hr3
        rw [if_neg h41] at hr4
        rw [if_neg h41] at hr5
        rw [if_neg h41] at hr6
        refine lv_iconst (v := (3 : Int32)) hx hb d_MD_join_44 (by decide) ?_
        refine lv_goto hx hb d_MD_join_45 (tgt := 74) (by decide) ?_
        refine pf_MD_7 hg hw S hP hD hS 0 rfl rfl rfl (Nat.le_of_ble_eq_true rfl) d_MD_join_74 (fun H8 L8 hP hD hS => ?_)
        have hP : va_P G.2.1 cl_all [(y_, .inr (4, [.int (3 : Int32), .long z_n, .long z_m, .long z_d, .long z_a, .long z_b, .long z_v, .int z_ep, .int z_su, .ref a_buf, .int z_by, .int z_mo, .ref a_st, .ref a_bl, .ref a_fi, .ref a_ob, .ref a_si, .ref a_po, .ref a_pr, .ref a_an, .int z_bk, .ref a_bo, .long z_h])), (a_st, .inl (G.2.2.1, 12, .inl z_st)), (a_bl, .inl (G.2.2.2.1, 12, .inr (.inl z_bl))), (a_fi, .inl (G.2.2.1, 12, .inl z_fi)), (a_po, .inl (G.2.2.2.1, 72, .inr (.inl z_po))), (a_pr, .inl (G.2.2.1, 72, .inl z_pr)), (a_an, .inl (G.2.2.2.1, 72, .inr (.inl z_an))), (a_si, .inl (G.2.2.2.1, 12, .inr (.inl z_sg))), (a_bo, .inl (G.2.2.1, 12, .inl z_bo))] H8 := hP
        have hD : va_D A [(y_, .inr (4, [.int (3 : Int32), .long z_n, .long z_m, .long z_d, .long z_a, .long z_b, .long z_v, .int z_ep, .int z_su, .ref a_buf, .int z_by, .int z_mo, .ref a_st, .ref a_bl, .ref a_fi, .ref a_ob, .ref a_si, .ref a_po, .ref a_pr, .ref a_an, .int z_bk, .ref a_bo, .long z_h])), (a_st, .inl (G.2.2.1, 12, .inl z_st)), (a_bl, .inl (G.2.2.2.1, 12, .inr (.inl z_bl))), (a_fi, .inl (G.2.2.1, 12, .inl z_fi)), (a_po, .inl (G.2.2.2.1, 72, .inr (.inl z_po))), (a_pr, .inl (G.2.2.1, 72, .inl z_pr)), (a_an, .inl (G.2.2.2.1, 72, .inr (.inl z_an))), (a_si, .inl (G.2.2.2.1, 12, .inr (.inl z_sg))), (a_bo, .inl (G.2.2.1, 12, .inl z_bo))] := hD
        refine lv_aload_n hx hb d_MD_join_77 rfl (lv_at hl 0 rfl) ?_
        refine gf_MD_7 hg hw S hP 0 rfl rfl d_MD_join_78 ?_
        refine lv_if_eq hx hb d_MD_join_81 (tgt := 86) (by decide) (fun h81 => ?_) (fun h81 => ?_)
        · exact absurd h81 (by decide)
        · refine lv_lconst (v := (0 : Int64)) hx hb d_MD_join_84 (by decide) ?_
          subst hr0
          subst hr1
          subst hr2
          subst hr3
          subst hr4
          subst hr5
          subst hr6
          exact xw_lret hx hb ht hl0 hP hD hS d_MD_join_85
    · rw [if_neg h19] at hr0
      rw [if_neg h19] at hr1
      rw [if_neg h19] at hr2
      rw [if_neg h19] at hr3
      rw [if_neg h19] at hr4
      rw [if_neg h19] at hr5
      rw [if_neg h19] at hr6
      refine lv_iconst (v := (2 : Int32)) hx hb d_MD_join_22 (by decide) ?_
      refine lv_goto hx hb d_MD_join_23 (tgt := 74) (by decide) ?_
      refine pf_MD_7 hg hw S hP hD hS 0 rfl rfl rfl (Nat.le_of_ble_eq_true rfl) d_MD_join_74 (fun H9 L9 hP hD hS => ?_)
      have hP : va_P G.2.1 cl_all [(y_, .inr (4, [.int (2 : Int32), .long z_n, .long z_m, .long z_d, .long z_a, .long z_b, .long z_v, .int z_ep, .int z_su, .ref a_buf, .int z_by, .int z_mo, .ref a_st, .ref a_bl, .ref a_fi, .ref a_ob, .ref a_si, .ref a_po, .ref a_pr, .ref a_an, .int z_bk, .ref a_bo, .long z_h])), (a_st, .inl (G.2.2.1, 12, .inl z_st)), (a_bl, .inl (G.2.2.2.1, 12, .inr (.inl z_bl))), (a_fi, .inl (G.2.2.1, 12, .inl z_fi)), (a_po, .inl (G.2.2.2.1, 72, .inr (.inl z_po))), (a_pr, .inl (G.2.2.1, 72, .inl z_pr)), (a_an, .inl (G.2.2.2.1, 72, .inr (.inl z_an))), (a_si, .inl (G.2.2.2.1, 12, .inr (.inl z_sg))), (a_bo, .inl (G.2.2.1, 12, .inl z_bo))] H9 := hP
      have hD : va_D A [(y_, .inr (4, [.int (2 : Int32), .long z_n, .long z_m, .long z_d, .long z_a, .long z_b, .long z_v, .int z_ep, .int z_su, .ref a_buf, .int z_by, .int z_mo, .ref a_st, .ref a_bl, .ref a_fi, .ref a_ob, .ref a_si, .ref a_po, .ref a_pr, .ref a_an, .int z_bk, .ref a_bo, .long z_h])), (a_st, .inl (G.2.2.1, 12, .inl z_st)), (a_bl, .inl (G.2.2.2.1, 12, .inr (.inl z_bl))), (a_fi, .inl (G.2.2.1, 12, .inl z_fi)), (a_po, .inl (G.2.2.2.1, 72, .inr (.inl z_po))), (a_pr, .inl (G.2.2.1, 72, .inl z_pr)), (a_an, .inl (G.2.2.2.1, 72, .inr (.inl z_an))), (a_si, .inl (G.2.2.2.1, 12, .inr (.inl z_sg))), (a_bo, .inl (G.2.2.1, 12, .inl z_bo))] := hD
      refine lv_aload_n hx hb d_MD_join_77 rfl (lv_at hl 0 rfl) ?_
      refine gf_MD_7 hg hw S hP 0 rfl rfl d_MD_join_78 ?_
      refine lv_if_eq hx hb d_MD_join_81 (tgt := 86) (by decide) (fun h81 => ?_) (fun h81 => ?_)
      · exact absurd h81 (by decide)
      · refine lv_lconst (v := (0 : Int64)) hx hb d_MD_join_84 (by decide) ?_
        subst hr0
        subst hr1
        subst hr2
        subst hr3
        subst hr4
        subst hr5
        subst hr6
        exact xw_lret hx hb ht hl0 hP hD hS d_MD_join_85
  · rw [if_pos h6] at hr0
    rw [if_pos h6] at hr1
    rw [if_pos h6] at hr2
    rw [if_pos h6] at hr3
    rw [if_pos h6] at hr4
    rw [if_pos h6] at hr5
    rw [if_pos h6] at hr6
    refine lv_iconst (v := (1 : Int32)) hx hb d_MD_join_9 (by decide) ?_
    refine lv_goto hx hb d_MD_join_10 (tgt := 74) (by decide) ?_
    refine pf_MD_7 hg hw S hP hD hS 0 rfl rfl rfl (Nat.le_of_ble_eq_true rfl) d_MD_join_74 (fun H10 L10 hP hD hS => ?_)
    have hP : va_P G.2.1 cl_all [(y_, .inr (4, [.int (1 : Int32), .long z_n, .long z_m, .long z_d, .long z_a, .long z_b, .long z_v, .int z_ep, .int z_su, .ref a_buf, .int z_by, .int z_mo, .ref a_st, .ref a_bl, .ref a_fi, .ref a_ob, .ref a_si, .ref a_po, .ref a_pr, .ref a_an, .int z_bk, .ref a_bo, .long z_h])), (a_st, .inl (G.2.2.1, 12, .inl z_st)), (a_bl, .inl (G.2.2.2.1, 12, .inr (.inl z_bl))), (a_fi, .inl (G.2.2.1, 12, .inl z_fi)), (a_po, .inl (G.2.2.2.1, 72, .inr (.inl z_po))), (a_pr, .inl (G.2.2.1, 72, .inl z_pr)), (a_an, .inl (G.2.2.2.1, 72, .inr (.inl z_an))), (a_si, .inl (G.2.2.2.1, 12, .inr (.inl z_sg))), (a_bo, .inl (G.2.2.1, 12, .inl z_bo))] H10 := hP
    have hD : va_D A [(y_, .inr (4, [.int (1 : Int32), .long z_n, .long z_m, .long z_d, .long z_a, .long z_b, .long z_v, .int z_ep, .int z_su, .ref a_buf, .int z_by, .int z_mo, .ref a_st, .ref a_bl, .ref a_fi, .ref a_ob, .ref a_si, .ref a_po, .ref a_pr, .ref a_an, .int z_bk, .ref a_bo, .long z_h])), (a_st, .inl (G.2.2.1, 12, .inl z_st)), (a_bl, .inl (G.2.2.2.1, 12, .inr (.inl z_bl))), (a_fi, .inl (G.2.2.1, 12, .inl z_fi)), (a_po, .inl (G.2.2.2.1, 72, .inr (.inl z_po))), (a_pr, .inl (G.2.2.1, 72, .inl z_pr)), (a_an, .inl (G.2.2.2.1, 72, .inr (.inl z_an))), (a_si, .inl (G.2.2.2.1, 12, .inr (.inl z_sg))), (a_bo, .inl (G.2.2.1, 12, .inl z_bo))] := hD
    refine lv_aload_n hx hb d_MD_join_77 rfl (lv_at hl 0 rfl) ?_
    refine gf_MD_7 hg hw S hP 0 rfl rfl d_MD_join_78 ?_
    refine lv_if_eq hx hb d_MD_join_81 (tgt := 86) (by decide) (fun h81 => ?_) (fun h81 => ?_)
    · exact absurd h81 (by decide)
    · refine lv_lconst (v := (0 : Int64)) hx hb d_MD_join_84 (by decide) ?_
      subst hr0
      subst hr1
      subst hr2
      subst hr3
      subst hr4
      subst hr5
      subst hr6
      exact xw_lret hx hb ht hl0 hP hD hS d_MD_join_85
def f_MD_verify (sig_ : Int64) (z_n : Int64) (z_by : Int32) (z_buf : Nat → Int32) : Int32 := if z_n = (0 : Int64) then (0 : Int32) else (if z_by = 0 then (0 : Int32) else (if sig_ < (0 : Int64) then (0 : Int32) else (if z_n ≤ sig_ then (0 : Int32) else (if (f_MD_raised sig_ (65537 : Int64) z_n) = (f_MD_blockOf z_n z_by z_buf) then (1 : Int32) else (0 : Int32)))))
def f_MD_verify_thrownCode (sig_ : Int64) (z_n : Int64) (z_by : Int32) (z_buf : Nat → Int32) : Int32 := if z_n = (0 : Int64) then (1 : Int32) else (if z_by = 0 then (1 : Int32) else (if sig_ < (0 : Int64) then (0 : Int32) else (if z_n ≤ sig_ then (0 : Int32) else (if (f_MD_raised sig_ (65537 : Int64) z_n) = (f_MD_blockOf z_n z_by z_buf) then (0 : Int32) else (0 : Int32)))))
def f_MD_verify_h (sig_ : Int64) (z_n : Int64) (z_by : Int32) (z_h : Int64) (z_buf : Nat → Int32) : Int64 := if z_n = (0 : Int64) then z_h else (if z_by = 0 then z_h else (if sig_ < (0 : Int64) then z_h else (if z_n ≤ sig_ then z_h else (if (f_MD_raised sig_ (65537 : Int64) z_n) = (f_MD_blockOf z_n z_by z_buf) then (f_MD_blockOf_h z_n z_by z_buf) else (f_MD_blockOf_h z_n z_by z_buf)))))
set_option maxHeartbeats 4000000 in
set_option maxRecDepth 100000 in
theorem ct_MD_verify (l : Launch) {G : xg_G} (hg : xg_F G) (H : Heap) (y_ : Nat) (sig_ : Int64) (z_th : Int32) (z_n : Int64) (z_m : Int64) (z_d : Int64) (z_a : Int64) (z_b : Int64) (z_v : Int64) (z_ep : Int32) (z_su : Int32) (a_buf : Nat) (z_by : Int32) (z_mo : Int32) (a_st : Nat) (a_bl : Nat) (a_fi : Nat) (a_ob : Nat) (a_si : Nat) (a_po : Nat) (a_pr : Nat) (a_an : Nat) (z_bk : Int32) (a_bo : Nat) (z_h : Int64) (z_buf : Nat → Int32) (hP : va_P G.2.1 cl_all [(y_, .inr (4, [.int z_th, .long z_n, .long z_m, .long z_d, .long z_a, .long z_b, .long z_v, .int z_ep, .int z_su, .ref a_buf, .int z_by, .int z_mo, .ref a_st, .ref a_bl, .ref a_fi, .ref a_ob, .ref a_si, .ref a_po, .ref a_pr, .ref a_an, .int z_bk, .ref a_bo, .long z_h])), (a_buf, .inl (G.2.2.1, 24, .inl z_buf))] H) (hD0 : va_D (fun _ => True) [(y_, .inr (4, [.int z_th, .long z_n, .long z_m, .long z_d, .long z_a, .long z_b, .long z_v, .int z_ep, .int z_su, .ref a_buf, .int z_by, .int z_mo, .ref a_st, .ref a_bl, .ref a_fi, .ref a_ob, .ref a_si, .ref a_po, .ref a_pr, .ref a_an, .int z_bk, .ref a_bo, .long z_h])), (a_buf, .inl (G.2.2.1, 24, .inl z_buf))]) (hN : ¬ z_n = 0 → ¬ z_n - (3 : Int64) = 0) (hZ : z_by.toInt ≤ 24) : xc_Met l y_MD_verify (.code y_MD_verify b_MD_verify 3 (some .boolean)) ({ frames := 2, cells := 0, slots := 0, locals := 29 } : Room) (xg_Pc G [.ref y_, .long sig_] H) (xw_post G (va_A [(y_, .inr (4, [.int z_th, .long z_n, .long z_m, .long z_d, .long z_a, .long z_b, .long z_v, .int z_ep, .int z_su, .ref a_buf, .int z_by, .int z_mo, .ref a_st, .ref a_bl, .ref a_fi, .ref a_ob, .ref a_si, .ref a_po, .ref a_pr, .ref a_an, .int z_bk, .ref a_bo, .long z_h])), (a_buf, .inl (G.2.2.1, 24, .inl z_buf))] H.size) (some (.int (f_MD_verify sig_ z_n z_by z_buf))) [(y_, .inr (4, [.int (f_MD_verify_thrownCode sig_ z_n z_by z_buf), .long z_n, .long z_m, .long z_d, .long z_a, .long z_b, .long z_v, .int z_ep, .int z_su, .ref a_buf, .int z_by, .int z_mo, .ref a_st, .ref a_bl, .ref a_fi, .ref a_ob, .ref a_si, .ref a_po, .ref a_pr, .ref a_an, .int z_bk, .ref a_bo, .long (f_MD_verify_h sig_ z_n z_by z_h z_buf)])), (a_buf, .inl (G.2.2.1, 24, .inl z_buf))]) (va_A [(y_, .inr (4, [.int z_th, .long z_n, .long z_m, .long z_d, .long z_a, .long z_b, .long z_v, .int z_ep, .int z_su, .ref a_buf, .int z_by, .int z_mo, .ref a_st, .ref a_bl, .ref a_fi, .ref a_ob, .ref a_si, .ref a_po, .ref a_pr, .ref a_an, .int z_bk, .ref a_bo, .long z_h])), (a_buf, .inl (G.2.2.1, 24, .inl z_buf))] H.size) := by
  refine xc_ofW (by decide) ?_
  intro p e s m args below meth c s₁ B hml hE hv
  obtain ⟨rfl, rfl, hw⟩ := hv
  have hx := B.exec
  have hb := B.bytes
  have ht := B.returns
  have hl0 := B.notSynchronized
  have S : xc_Fix p m c b_MD_verify 3 s "SealTrustModel" := ⟨hx, hb, hml, findClass_of_methodNamed B.named⟩
  have hD := hD0.self (sz := s.heap.size)
  generalize hAe : va_A [(y_, .inr (4, [.int z_th, .long z_n, .long z_m, .long z_d, .long z_a, .long z_b, .long z_v, .int z_ep, .int z_su, .ref a_buf, .int z_by, .int z_mo, .ref a_st, .ref a_bl, .ref a_fi, .ref a_ob, .ref a_si, .ref a_po, .ref a_pr, .ref a_an, .int z_bk, .ref a_bo, .long z_h])), (a_buf, .inl (G.2.2.1, 24, .inl z_buf))] s.heap.size = A at hD ⊢
  have hA : ∀ q : Nat, s.heap.size ≤ q → A q := fun q h => by rw [← hAe]; exact Or.inr h
  have hS : va_S A s.heap s.heap [] := va_S.rf
  have hl := lv_entry ([.ref y_, .long sig_]) (n := 3) (Nat.le_of_ble_eq_true rfl)
  rw [lg_entry_eq]
  generalize (lg_sl ([.ref y_, .long sig_]) ++ List.replicate (3 - (lg_sl ([.ref y_, .long sig_])).length) Slot.unset).toArray = ls at hl ⊢
  have hl : lv_has ls 3 [(0, .ref y_), (1, .long sig_)] := hl
  obtain ⟨r0, hr0⟩ : ∃ r, f_MD_verify sig_ z_n z_by z_buf = r := ⟨_, rfl⟩
  rw [hr0]
  unfold f_MD_verify at hr0
  obtain ⟨r1, hr1⟩ : ∃ r, f_MD_verify_thrownCode sig_ z_n z_by z_buf = r := ⟨_, rfl⟩
  rw [hr1]
  unfold f_MD_verify_thrownCode at hr1
  obtain ⟨r2, hr2⟩ : ∃ r, f_MD_verify_h sig_ z_n z_by z_h z_buf = r := ⟨_, rfl⟩
  rw [hr2]
  unfold f_MD_verify_h at hr2
  refine lv_aload_n hx hb d_MD_verify_0 rfl (lv_at hl 0 rfl) ?_
  refine lv_aload_n hx hb d_MD_verify_1 rfl (lv_at hl 0 rfl) ?_
  refine gf_MD_13 hg hw S hP 0 rfl rfl d_MD_verify_2 ?_
  refine lv_lconst (v := (0 : Int64)) hx hb d_MD_verify_5 (by decide) ?_
  refine W.lcmp hx hb d_MD_verify_6 ?_
  refine lv_if_eq hx hb d_MD_verify_7 (tgt := 17) (by decide) (fun h7 => ?_) (fun h7 => ?_)
  · rw [lg_cmp_eq] at h7
    rw [if_pos h7] at hr0
    rw [if_pos h7] at hr1
    rw [if_pos h7] at hr2
    refine lv_iconst (v := (1 : Int32)) hx hb d_MD_verify_17 (by decide) ?_
    refine lv_goto hx hb d_MD_verify_18 (tgt := 22) (by decide) ?_
    refine pf_MD_7 hg hw S hP hD hS 0 rfl rfl rfl (Nat.le_of_ble_eq_true rfl) d_MD_verify_22 (fun H1 L1 hP hD hS => ?_)
    have hP : va_P G.2.1 cl_all [(y_, .inr (4, [.int (1 : Int32), .long z_n, .long z_m, .long z_d, .long z_a, .long z_b, .long z_v, .int z_ep, .int z_su, .ref a_buf, .int z_by, .int z_mo, .ref a_st, .ref a_bl, .ref a_fi, .ref a_ob, .ref a_si, .ref a_po, .ref a_pr, .ref a_an, .int z_bk, .ref a_bo, .long z_h])), (a_buf, .inl (G.2.2.1, 24, .inl z_buf))] H1 := hP
    have hD : va_D A [(y_, .inr (4, [.int (1 : Int32), .long z_n, .long z_m, .long z_d, .long z_a, .long z_b, .long z_v, .int z_ep, .int z_su, .ref a_buf, .int z_by, .int z_mo, .ref a_st, .ref a_bl, .ref a_fi, .ref a_ob, .ref a_si, .ref a_po, .ref a_pr, .ref a_an, .int z_bk, .ref a_bo, .long z_h])), (a_buf, .inl (G.2.2.1, 24, .inl z_buf))] := hD
    refine lv_aload_n hx hb d_MD_verify_25 rfl (lv_at hl 0 rfl) ?_
    refine gf_MD_7 hg hw S hP 0 rfl rfl d_MD_verify_26 ?_
    refine lv_if_ne hx hb d_MD_verify_29 (tgt := 70) (by decide) (fun h29 => ?_) (fun h29 => ?_)
    · refine lv_iconst (v := (0 : Int32)) hx hb d_MD_verify_70 (by decide) ?_
      subst hr0
      subst hr1
      subst hr2
      exact xw_zret hx hb ht hl0 rfl hP hD hS d_MD_verify_71
    · exact absurd h29 (by decide)
  · rw [lg_cmp_eq] at h7
    rw [if_neg h7] at hr0
    rw [if_neg h7] at hr1
    rw [if_neg h7] at hr2
    refine lv_aload_n hx hb d_MD_verify_10 rfl (lv_at hl 0 rfl) ?_
    refine gf_MD_42 hg hw S hP 0 rfl rfl d_MD_verify_11 ?_
    refine lv_if_ne hx hb d_MD_verify_14 (tgt := 21) (by decide) (fun h14 => ?_) (fun h14 => ?_)
    · rw [if_neg h14] at hr0
      rw [if_neg h14] at hr1
      rw [if_neg h14] at hr2
      refine lv_iconst (v := (0 : Int32)) hx hb d_MD_verify_21 (by decide) ?_
      refine pf_MD_7 hg hw S hP hD hS 0 rfl rfl rfl (Nat.le_of_ble_eq_true rfl) d_MD_verify_22 (fun H2 L2 hP hD hS => ?_)
      have hP : va_P G.2.1 cl_all [(y_, .inr (4, [.int (0 : Int32), .long z_n, .long z_m, .long z_d, .long z_a, .long z_b, .long z_v, .int z_ep, .int z_su, .ref a_buf, .int z_by, .int z_mo, .ref a_st, .ref a_bl, .ref a_fi, .ref a_ob, .ref a_si, .ref a_po, .ref a_pr, .ref a_an, .int z_bk, .ref a_bo, .long z_h])), (a_buf, .inl (G.2.2.1, 24, .inl z_buf))] H2 := hP
      have hD : va_D A [(y_, .inr (4, [.int (0 : Int32), .long z_n, .long z_m, .long z_d, .long z_a, .long z_b, .long z_v, .int z_ep, .int z_su, .ref a_buf, .int z_by, .int z_mo, .ref a_st, .ref a_bl, .ref a_fi, .ref a_ob, .ref a_si, .ref a_po, .ref a_pr, .ref a_an, .int z_bk, .ref a_bo, .long z_h])), (a_buf, .inl (G.2.2.1, 24, .inl z_buf))] := hD
      refine lv_aload_n hx hb d_MD_verify_25 rfl (lv_at hl 0 rfl) ?_
      refine gf_MD_7 hg hw S hP 0 rfl rfl d_MD_verify_26 ?_
      refine lv_if_ne hx hb d_MD_verify_29 (tgt := 70) (by decide) (fun h29 => ?_) (fun h29 => ?_)
      · exact absurd h29 (by decide)
      · refine lv_lload_n hx hb d_MD_verify_32 rfl (lv_at hl 1 rfl) ?_
        refine lv_lconst (v := (0 : Int64)) hx hb d_MD_verify_33 (by decide) ?_
        refine W.lcmp hx hb d_MD_verify_34 ?_
        refine lv_if_lt hx hb d_MD_verify_35 (tgt := 70) (by decide) (fun h35 => ?_) (fun h35 => ?_)
        · rw [lg_cmp_lt] at h35
          rw [if_pos h35] at hr0
          rw [if_pos h35] at hr1
          rw [if_pos h35] at hr2
          refine lv_iconst (v := (0 : Int32)) hx hb d_MD_verify_70 (by decide) ?_
          subst hr0
          subst hr1
          subst hr2
          exact xw_zret hx hb ht hl0 rfl hP hD hS d_MD_verify_71
        · rw [lg_cmp_lt] at h35
          rw [if_neg h35] at hr0
          rw [if_neg h35] at hr1
          rw [if_neg h35] at hr2
          refine lv_lload_n hx hb d_MD_verify_38 rfl (lv_at hl 1 rfl) ?_
          refine lv_aload_n hx hb d_MD_verify_39 rfl (lv_at hl 0 rfl) ?_
          refine gf_MD_13 hg hw S hP 0 rfl rfl d_MD_verify_40 ?_
          refine W.lcmp hx hb d_MD_verify_43 ?_
          refine lv_if_ge hx hb d_MD_verify_44 (tgt := 70) (by decide) (fun h44 => ?_) (fun h44 => ?_)
          · rw [lg_cmp_ge] at h44
            rw [if_pos h44] at hr0
            rw [if_pos h44] at hr1
            rw [if_pos h44] at hr2
            refine lv_iconst (v := (0 : Int32)) hx hb d_MD_verify_70 (by decide) ?_
            subst hr0
            subst hr1
            subst hr2
            exact xw_zret hx hb ht hl0 rfl hP hD hS d_MD_verify_71
          · rw [lg_cmp_ge] at h44
            rw [if_neg h44] at hr0
            rw [if_neg h44] at hr1
            rw [if_neg h44] at hr2
            refine lv_lload_n hx hb d_MD_verify_47 rfl (lv_at hl 1 rfl) ?_
            refine kc_MD_137 hg hw S d_MD_verify_48 ?_
            refine lv_aload_n hx hb d_MD_verify_51 rfl (lv_at hl 0 rfl) ?_
            refine gf_MD_13 hg hw S hP 0 rfl rfl d_MD_verify_52 ?_
            refine xg_read (xg_runS (rest := []) (kw := 0) si_MD_96 hg hw S (ct_MD_raised l hg H2 sig_ (65537 : Int64) z_n h7) ⟨by decide, by decide, by decide, by decide⟩ rfl hl.1 rfl (Nat.le_of_ble_eq_true rfl) d_MD_verify_55) ?_
            refine lv_aload_n hx hb d_MD_verify_58 rfl (lv_at hl 0 rfl) ?_
            refine xw_use (wc := [(y_, .inr (4, [.int (0 : Int32), .long z_n, .long z_m, .long z_d, .long z_a, .long z_b, .long z_v, .int z_ep, .int z_su, .ref a_buf, .int z_by, .int z_mo, .ref a_st, .ref a_bl, .ref a_fi, .ref a_ob, .ref a_si, .ref a_po, .ref a_pr, .ref a_an, .int z_bk, .ref a_bo, .long z_h])), (a_buf, .inl (G.2.2.1, 24, .inl z_buf))]) (wr := []) (xg_runV (rest := [.long (f_MD_raised sig_ (65537 : Int64) z_n)]) (kw := 2) si_MD_139 hg hw S (va_recv (xg_k hg hw) hP (ci := 4) rfl (q0 := 0) rfl) (ct_MD_blockOf l hg H2 y_ (0 : Int32) z_n z_m z_d z_a z_b z_v z_ep z_su a_buf z_by z_mo a_st a_bl a_fi a_ob a_si a_po a_pr a_an z_bk a_bo z_h z_buf (hP.sub [0, 1] rfl) ((hD.sub [0, 1] (by decide) rfl).weaken (fun _ _ _ _ => trivial)) (hN h7) hZ) ⟨by decide, by decide, by decide, by decide⟩ rfl hl.1 rfl (Nat.le_of_ble_eq_true rfl) d_MD_verify_59) hP hD hS hA [0, 1] [] rfl rfl (by decide) (by decide) (fun H3 L3 hP hD hS => ?_)
            have hP : va_P G.2.1 cl_all [(y_, .inr (4, [.int (0 : Int32), .long z_n, .long z_m, .long z_d, .long z_a, .long z_b, .long z_v, .int z_ep, .int z_su, .ref a_buf, .int z_by, .int z_mo, .ref a_st, .ref a_bl, .ref a_fi, .ref a_ob, .ref a_si, .ref a_po, .ref a_pr, .ref a_an, .int z_bk, .ref a_bo, .long (f_MD_blockOf_h z_n z_by z_buf)])), (a_buf, .inl (G.2.2.1, 24, .inl z_buf))] H3 := hP
            have hD : va_D A [(y_, .inr (4, [.int (0 : Int32), .long z_n, .long z_m, .long z_d, .long z_a, .long z_b, .long z_v, .int z_ep, .int z_su, .ref a_buf, .int z_by, .int z_mo, .ref a_st, .ref a_bl, .ref a_fi, .ref a_ob, .ref a_si, .ref a_po, .ref a_pr, .ref a_an, .int z_bk, .ref a_bo, .long (f_MD_blockOf_h z_n z_by z_buf)])), (a_buf, .inl (G.2.2.1, 24, .inl z_buf))] := hD
            refine W.lcmp hx hb d_MD_verify_62 ?_
            refine lv_if_ne hx hb d_MD_verify_63 (tgt := 70) (by decide) (fun h63 => ?_) (fun h63 => ?_)
            · rw [lg_cmp_eq] at h63
              rw [if_neg h63] at hr0
              rw [if_neg h63] at hr1
              rw [if_neg h63] at hr2
              refine lv_iconst (v := (0 : Int32)) hx hb d_MD_verify_70 (by decide) ?_
              subst hr0
              subst hr1
              subst hr2
              exact xw_zret hx hb ht hl0 rfl hP hD hS d_MD_verify_71
            · rw [lg_cmp_eq] at h63
              rw [if_pos h63] at hr0
              rw [if_pos h63] at hr1
              rw [if_pos h63] at hr2
              refine lv_iconst (v := (1 : Int32)) hx hb d_MD_verify_66 (by decide) ?_
              refine lv_goto hx hb d_MD_verify_67 (tgt := 71) (by decide) ?_
              subst hr0
              subst hr1
              subst hr2
              exact xw_zret hx hb ht hl0 rfl hP hD hS d_MD_verify_71
    · rw [if_pos h14] at hr0
      rw [if_pos h14] at hr1
      rw [if_pos h14] at hr2
      refine lv_iconst (v := (1 : Int32)) hx hb d_MD_verify_17 (by decide) ?_
      refine lv_goto hx hb d_MD_verify_18 (tgt := 22) (by decide) ?_
      refine pf_MD_7 hg hw S hP hD hS 0 rfl rfl rfl (Nat.le_of_ble_eq_true rfl) d_MD_verify_22 (fun H4 L4 hP hD hS => ?_)
      have hP : va_P G.2.1 cl_all [(y_, .inr (4, [.int (1 : Int32), .long z_n, .long z_m, .long z_d, .long z_a, .long z_b, .long z_v, .int z_ep, .int z_su, .ref a_buf, .int z_by, .int z_mo, .ref a_st, .ref a_bl, .ref a_fi, .ref a_ob, .ref a_si, .ref a_po, .ref a_pr, .ref a_an, .int z_bk, .ref a_bo, .long z_h])), (a_buf, .inl (G.2.2.1, 24, .inl z_buf))] H4 := hP
      have hD : va_D A [(y_, .inr (4, [.int (1 : Int32), .long z_n, .long z_m, .long z_d, .long z_a, .long z_b, .long z_v, .int z_ep, .int z_su, .ref a_buf, .int z_by, .int z_mo, .ref a_st, .ref a_bl, .ref a_fi, .ref a_ob, .ref a_si, .ref a_po, .ref a_pr, .ref a_an, .int z_bk, .ref a_bo, .long z_h])), (a_buf, .inl (G.2.2.1, 24, .inl z_buf))] := hD
      refine lv_aload_n hx hb d_MD_verify_25 rfl (lv_at hl 0 rfl) ?_
      refine gf_MD_7 hg hw S hP 0 rfl rfl d_MD_verify_26 ?_
      refine lv_if_ne hx hb d_MD_verify_29 (tgt := 70) (by decide) (fun h29 => ?_) (fun h29 => ?_)
      · refine lv_iconst (v := (0 : Int32)) hx hb d_MD_verify_70 (by decide) ?_
        subst hr0
        subst hr1
        subst hr2
        exact xw_zret hx hb ht hl0 rfl hP hD hS d_MD_verify_71
      · exact absurd h29 (by decide)
def lf_MD_refresh_82_4 (na : Int32) (nb_ : Int32) (z_n : Int64) (z_m : Int64) (z_a : Int64) (z_b : Int64) (z_ep : Int32) (z_mo : Int32) (z_st : Nat → Int32) (z_fi : Nat → Int32) : Nat → Int32 → (Nat → Int32) → (Nat → Int32)
  | 0, _, _ => fun _ => 0
  | n + 1, i, ff => if z_mo ≤ i then ff else (if (z_st i.toNatClampNeg) = 0 then (lf_MD_refresh_82_4 na nb_ z_n z_m z_a z_b z_ep z_mo z_st z_fi n (i + (1 : Int32)) (upd ff i.toNatClampNeg (0 : Int32))) else (lf_MD_refresh_82_4 na nb_ z_n z_m z_a z_b z_ep z_mo z_st z_fi n (i + (1 : Int32)) ff))
def f_MD_refresh_thrownCode (na : Int32) (nb_ : Int32) (z_n : Int64) (z_m : Int64) (z_a : Int64) (z_b : Int64) (z_ep : Int32) (z_mo : Int32) (z_st : Nat → Int32) (z_fi : Nat → Int32) : Int32 := if na < 0 then (1 : Int32) else (if 0 ≤ nb_ then (if z_n = (0 : Int64) then (2 : Int32) else (0 : Int32)) else (1 : Int32))
def f_MD_refresh_a (na : Int32) (nb_ : Int32) (z_n : Int64) (z_m : Int64) (z_a : Int64) (z_b : Int64) (z_ep : Int32) (z_mo : Int32) (z_st : Nat → Int32) (z_fi : Nat → Int32) : Int64 := if na < 0 then z_a else (if 0 ≤ nb_ then (if z_n = (0 : Int64) then z_a else ((z_a + na.toInt64) - (z_a + na.toInt64) / z_m * z_m)) else z_a)
def f_MD_refresh_b (na : Int32) (nb_ : Int32) (z_n : Int64) (z_m : Int64) (z_a : Int64) (z_b : Int64) (z_ep : Int32) (z_mo : Int32) (z_st : Nat → Int32) (z_fi : Nat → Int32) : Int64 := if na < 0 then z_b else (if 0 ≤ nb_ then (if z_n = (0 : Int64) then z_b else ((z_b + nb_.toInt64) - (z_b + nb_.toInt64) / z_m * z_m)) else z_b)
def f_MD_refresh_epoch (na : Int32) (nb_ : Int32) (z_n : Int64) (z_m : Int64) (z_a : Int64) (z_b : Int64) (z_ep : Int32) (z_mo : Int32) (z_st : Nat → Int32) (z_fi : Nat → Int32) : Int32 := if na < 0 then z_ep else (if 0 ≤ nb_ then (if z_n = (0 : Int64) then z_ep else (z_ep + (1 : Int32))) else z_ep)
def f_MD_refresh_a_fi (na : Int32) (nb_ : Int32) (z_n : Int64) (z_m : Int64) (z_a : Int64) (z_b : Int64) (z_ep : Int32) (z_mo : Int32) (z_st : Nat → Int32) (z_fi : Nat → Int32) : Nat → Int32 := if na < 0 then z_fi else (if 0 ≤ nb_ then (if z_n = (0 : Int64) then z_fi else (lf_MD_refresh_82_4 na nb_ z_n z_m z_a z_b z_ep z_mo z_st z_fi 13 (0 : Int32) z_fi)) else z_fi)
set_option maxHeartbeats 4000000 in
set_option maxRecDepth 100000 in
theorem wl_MD_refresh_82 {p : Program} {l : Launch} {e : Env} {s : State} {m : MethodId} {args : Array Value} {below : List Frame} {meth : Method} {c : Code} {G : xg_G} {A : Nat → Prop} {y_ : Nat} {na : Int32} {nb_ : Int32} {z_th : Int32} {z_n : Int64} {z_m : Int64} {z_d : Int64} {z_a : Int64} {z_b : Int64} {z_v : Int64} {z_ep : Int32} {z_su : Int32} {a_buf : Nat} {z_by : Int32} {z_mo : Int32} {a_st : Nat} {a_bl : Nat} {a_fi : Nat} {a_ob : Nat} {a_si : Nat} {a_po : Nat} {a_pr : Nat} {a_an : Nat} {z_bk : Int32} {a_bo : Nat} {z_h : Int64} {z_st : Nat → Int32} {z_fi : Nat → Int32} (hg : xg_F G) (hw : G.1.WarmedH s.vm) (S : xc_Fix p m c b_MD_refresh 4 s "SealTrustModel") (hl0 : meth.locks = false) (ht : meth.sig.returnType = none) (hA : ∀ q, s.heap.size ≤ q → A q) (hQ : z_mo.toInt ≤ 12) : ∀ (n : Nat) (i : Int32) (ff : Nat → Int32) (r4 : Nat → Int32) (ls : Array Slot) (H9 : Heap) (L9 : List Loc), lf_MD_refresh_82_4 na nb_ z_n z_m z_a z_b z_ep z_mo z_st z_fi n i ff = r4 → (0 ≤ i.toInt ∧ (z_mo.toInt - i.toInt).toNat < n) → lv_has ls 4 [(3, .int i), (0, .ref y_), (1, .int na), (2, .int nb_)] → va_P G.2.1 cl_all [(y_, .inr (4, [.int (0 : Int32), .long z_n, .long z_m, .long z_d, .long ((z_a + na.toInt64) - (z_a + na.toInt64) / z_m * z_m), .long ((z_b + nb_.toInt64) - (z_b + nb_.toInt64) / z_m * z_m), .long z_v, .int (z_ep + (1 : Int32)), .int z_su, .ref a_buf, .int z_by, .int z_mo, .ref a_st, .ref a_bl, .ref a_fi, .ref a_ob, .ref a_si, .ref a_po, .ref a_pr, .ref a_an, .int z_bk, .ref a_bo, .long z_h])), (a_st, .inl (G.2.2.1, 12, .inl z_st)), (a_fi, .inl (G.2.2.1, 12, .inl ff))] H9 → va_D A [(y_, .inr (4, [.int (0 : Int32), .long z_n, .long z_m, .long z_d, .long ((z_a + na.toInt64) - (z_a + na.toInt64) / z_m * z_m), .long ((z_b + nb_.toInt64) - (z_b + nb_.toInt64) / z_m * z_m), .long z_v, .int (z_ep + (1 : Int32)), .int z_su, .ref a_buf, .int z_by, .int z_mo, .ref a_st, .ref a_bl, .ref a_fi, .ref a_ob, .ref a_si, .ref a_po, .ref a_pr, .ref a_an, .int z_bk, .ref a_bo, .long z_h])), (a_st, .inl (G.2.2.1, 12, .inl z_st)), (a_fi, .inl (G.2.2.1, 12, .inl ff))] → va_S A s.heap H9 L9 → W p l e ({ frames := 0, cells := 0, slots := 0, locals := 0 } : Room) s m args below meth c H9 L9 0 0 (xw_Z G below A none [(y_, .inr (4, [.int (0 : Int32), .long z_n, .long z_m, .long z_d, .long ((z_a + na.toInt64) - (z_a + na.toInt64) / z_m * z_m), .long ((z_b + nb_.toInt64) - (z_b + nb_.toInt64) / z_m * z_m), .long z_v, .int (z_ep + (1 : Int32)), .int z_su, .ref a_buf, .int z_by, .int z_mo, .ref a_st, .ref a_bl, .ref a_fi, .ref a_ob, .ref a_si, .ref a_po, .ref a_pr, .ref a_an, .int z_bk, .ref a_bo, .long z_h])), (a_st, .inl (G.2.2.1, 12, .inl z_st)), (a_fi, .inl (G.2.2.1, 12, .inl r4))] args s 0 0) (F0 m 82 ls []) := by
  have hx := S.1
  have hb := S.2.1
  intro n
  induction n with
  | zero =>
    intro i ff r4 ls H9 L9 hr4 hmu
    omega
  | succ n ih =>
    intro i ff r4 ls H9 L9 hr4 hmu hl hP hD hS
    rw [lf_MD_refresh_82_4] at hr4
    refine lv_iload_n hx hb d_MD_refresh_82 rfl (lv_at hl 0 rfl) ?_
    refine lv_aload_n hx hb d_MD_refresh_83 rfl (lv_at hl 1 rfl) ?_
    refine gf_MD_45 hg hw S hP 0 rfl rfl d_MD_refresh_84 ?_
    refine lv_icmp_ge hx hb d_MD_refresh_87 (tgt := 112) (by decide) (fun h87 => ?_) (fun h87 => ?_)
    · rw [if_pos h87] at hr4
      subst hr4
      exact xw_vret hx hb ht hl0 hP hD hS d_MD_refresh_112
    · rw [if_neg h87] at hr4
      refine lv_aload_n hx hb d_MD_refresh_90 rfl (lv_at hl 1 rfl) ?_
      refine gf_MD_48 hg hw S hP 0 rfl rfl d_MD_refresh_91 ?_
      refine lv_iload_n hx hb d_MD_refresh_94 rfl (lv_at hl 0 rfl) ?_
      refine va_iald hx hb (xg_k hg hw) hP 1 0 rfl rfl (xi_in h87 hmu.1 hQ) d_MD_refresh_95 ?_
      refine lv_if_ne hx hb d_MD_refresh_96 (tgt := 106) (by decide) (fun h96 => ?_) (fun h96 => ?_)
      · rw [if_neg h96] at hr4
        refine lv_iinc (v := i + (1 : Int32)) hx hb d_MD_refresh_106 hl (k := 0) rfl rfl (by decide) rfl (fun ls hl => ?_)
        have hl : lv_has ls 4 [(3, .int (i + (1 : Int32))), (0, .ref y_), (1, .int na), (2, .int nb_)] := hl
        refine lv_goto hx hb d_MD_refresh_109 (tgt := 82) (by decide) ?_
        exact ih (i + (1 : Int32)) ff r4 ls H9 L9 hr4 (xi_up0 h87 hmu) (lv_sub hl [0, 1, 2, 3] rfl) hP hD hS
      · rw [if_pos h96] at hr4
        refine lv_aload_n hx hb d_MD_refresh_99 rfl (lv_at hl 1 rfl) ?_
        refine gf_MD_55 hg hw S hP 0 rfl rfl d_MD_refresh_100 ?_
        refine lv_iload_n hx hb d_MD_refresh_103 rfl (lv_at hl 0 rfl) ?_
        refine lv_iconst (v := (0 : Int32)) hx hb d_MD_refresh_104 (by decide) ?_
        refine va_iast hx hb (xg_k hg hw) hP hD hS 2 0 rfl rfl (xi_in h87 hmu.1 hQ) d_MD_refresh_105 (fun H6 L6 hP hD hS => ?_)
        have hP : va_P G.2.1 cl_all [(y_, .inr (4, [.int (0 : Int32), .long z_n, .long z_m, .long z_d, .long ((z_a + na.toInt64) - (z_a + na.toInt64) / z_m * z_m), .long ((z_b + nb_.toInt64) - (z_b + nb_.toInt64) / z_m * z_m), .long z_v, .int (z_ep + (1 : Int32)), .int z_su, .ref a_buf, .int z_by, .int z_mo, .ref a_st, .ref a_bl, .ref a_fi, .ref a_ob, .ref a_si, .ref a_po, .ref a_pr, .ref a_an, .int z_bk, .ref a_bo, .long z_h])), (a_st, .inl (G.2.2.1, 12, .inl z_st)), (a_fi, .inl (G.2.2.1, 12, .inl (upd ff i.toNatClampNeg (0 : Int32))))] H6 := hP
        have hD : va_D A [(y_, .inr (4, [.int (0 : Int32), .long z_n, .long z_m, .long z_d, .long ((z_a + na.toInt64) - (z_a + na.toInt64) / z_m * z_m), .long ((z_b + nb_.toInt64) - (z_b + nb_.toInt64) / z_m * z_m), .long z_v, .int (z_ep + (1 : Int32)), .int z_su, .ref a_buf, .int z_by, .int z_mo, .ref a_st, .ref a_bl, .ref a_fi, .ref a_ob, .ref a_si, .ref a_po, .ref a_pr, .ref a_an, .int z_bk, .ref a_bo, .long z_h])), (a_st, .inl (G.2.2.1, 12, .inl z_st)), (a_fi, .inl (G.2.2.1, 12, .inl (upd ff i.toNatClampNeg (0 : Int32))))] := hD
        refine lv_iinc (v := i + (1 : Int32)) hx hb d_MD_refresh_106 hl (k := 0) rfl rfl (by decide) rfl (fun ls hl => ?_)
        have hl : lv_has ls 4 [(3, .int (i + (1 : Int32))), (0, .ref y_), (1, .int na), (2, .int nb_)] := hl
        refine lv_goto hx hb d_MD_refresh_109 (tgt := 82) (by decide) ?_
        exact ih (i + (1 : Int32)) (upd ff i.toNatClampNeg (0 : Int32)) r4 ls H6 L6 hr4 (xi_up0 h87 hmu) (lv_sub hl [0, 1, 2, 3] rfl) hP hD hS
set_option maxHeartbeats 4000000 in
set_option maxRecDepth 100000 in
theorem ct_MD_refresh (l : Launch) {G : xg_G} (hg : xg_F G) (H : Heap) (y_ : Nat) (na : Int32) (nb_ : Int32) (z_th : Int32) (z_n : Int64) (z_m : Int64) (z_d : Int64) (z_a : Int64) (z_b : Int64) (z_v : Int64) (z_ep : Int32) (z_su : Int32) (a_buf : Nat) (z_by : Int32) (z_mo : Int32) (a_st : Nat) (a_bl : Nat) (a_fi : Nat) (a_ob : Nat) (a_si : Nat) (a_po : Nat) (a_pr : Nat) (a_an : Nat) (z_bk : Int32) (a_bo : Nat) (z_h : Int64) (z_st : Nat → Int32) (z_fi : Nat → Int32) (hP : va_P G.2.1 cl_all [(y_, .inr (4, [.int z_th, .long z_n, .long z_m, .long z_d, .long z_a, .long z_b, .long z_v, .int z_ep, .int z_su, .ref a_buf, .int z_by, .int z_mo, .ref a_st, .ref a_bl, .ref a_fi, .ref a_ob, .ref a_si, .ref a_po, .ref a_pr, .ref a_an, .int z_bk, .ref a_bo, .long z_h])), (a_st, .inl (G.2.2.1, 12, .inl z_st)), (a_fi, .inl (G.2.2.1, 12, .inl z_fi))] H) (hD0 : va_D (fun _ => True) [(y_, .inr (4, [.int z_th, .long z_n, .long z_m, .long z_d, .long z_a, .long z_b, .long z_v, .int z_ep, .int z_su, .ref a_buf, .int z_by, .int z_mo, .ref a_st, .ref a_bl, .ref a_fi, .ref a_ob, .ref a_si, .ref a_po, .ref a_pr, .ref a_an, .int z_bk, .ref a_bo, .long z_h])), (a_st, .inl (G.2.2.1, 12, .inl z_st)), (a_fi, .inl (G.2.2.1, 12, .inl z_fi))]) (hN : ¬ z_n = 0 → ¬ z_m = 0) (hQ : z_mo.toInt ≤ 12) : xc_Met l y_MD_refresh (.code y_MD_refresh b_MD_refresh 4 none) ({ frames := 0, cells := 0, slots := 0, locals := 0 } : Room) (xg_Pc G [.ref y_, .int na, .int nb_] H) (xw_post G (va_A [(y_, .inr (4, [.int z_th, .long z_n, .long z_m, .long z_d, .long z_a, .long z_b, .long z_v, .int z_ep, .int z_su, .ref a_buf, .int z_by, .int z_mo, .ref a_st, .ref a_bl, .ref a_fi, .ref a_ob, .ref a_si, .ref a_po, .ref a_pr, .ref a_an, .int z_bk, .ref a_bo, .long z_h])), (a_st, .inl (G.2.2.1, 12, .inl z_st)), (a_fi, .inl (G.2.2.1, 12, .inl z_fi))] H.size) none [(y_, .inr (4, [.int (f_MD_refresh_thrownCode na nb_ z_n z_m z_a z_b z_ep z_mo z_st z_fi), .long z_n, .long z_m, .long z_d, .long (f_MD_refresh_a na nb_ z_n z_m z_a z_b z_ep z_mo z_st z_fi), .long (f_MD_refresh_b na nb_ z_n z_m z_a z_b z_ep z_mo z_st z_fi), .long z_v, .int (f_MD_refresh_epoch na nb_ z_n z_m z_a z_b z_ep z_mo z_st z_fi), .int z_su, .ref a_buf, .int z_by, .int z_mo, .ref a_st, .ref a_bl, .ref a_fi, .ref a_ob, .ref a_si, .ref a_po, .ref a_pr, .ref a_an, .int z_bk, .ref a_bo, .long z_h])), (a_st, .inl (G.2.2.1, 12, .inl z_st)), (a_fi, .inl (G.2.2.1, 12, .inl (f_MD_refresh_a_fi na nb_ z_n z_m z_a z_b z_ep z_mo z_st z_fi)))]) (va_A [(y_, .inr (4, [.int z_th, .long z_n, .long z_m, .long z_d, .long z_a, .long z_b, .long z_v, .int z_ep, .int z_su, .ref a_buf, .int z_by, .int z_mo, .ref a_st, .ref a_bl, .ref a_fi, .ref a_ob, .ref a_si, .ref a_po, .ref a_pr, .ref a_an, .int z_bk, .ref a_bo, .long z_h])), (a_st, .inl (G.2.2.1, 12, .inl z_st)), (a_fi, .inl (G.2.2.1, 12, .inl z_fi))] H.size) := by
  refine xc_ofW (by decide) ?_
  intro p e s m args below meth c s₁ B hml hE hv
  obtain ⟨rfl, rfl, hw⟩ := hv
  have hx := B.exec
  have hb := B.bytes
  have ht := B.returns
  have hl0 := B.notSynchronized
  have S : xc_Fix p m c b_MD_refresh 4 s "SealTrustModel" := ⟨hx, hb, hml, findClass_of_methodNamed B.named⟩
  have hD := hD0.self (sz := s.heap.size)
  generalize hAe : va_A [(y_, .inr (4, [.int z_th, .long z_n, .long z_m, .long z_d, .long z_a, .long z_b, .long z_v, .int z_ep, .int z_su, .ref a_buf, .int z_by, .int z_mo, .ref a_st, .ref a_bl, .ref a_fi, .ref a_ob, .ref a_si, .ref a_po, .ref a_pr, .ref a_an, .int z_bk, .ref a_bo, .long z_h])), (a_st, .inl (G.2.2.1, 12, .inl z_st)), (a_fi, .inl (G.2.2.1, 12, .inl z_fi))] s.heap.size = A at hD ⊢
  have hA : ∀ q : Nat, s.heap.size ≤ q → A q := fun q h => by rw [← hAe]; exact Or.inr h
  have hS : va_S A s.heap s.heap [] := va_S.rf
  have hl := lv_entry ([.ref y_, .int na, .int nb_]) (n := 4) (Nat.le_of_ble_eq_true rfl)
  rw [lg_entry_eq]
  generalize (lg_sl ([.ref y_, .int na, .int nb_]) ++ List.replicate (4 - (lg_sl ([.ref y_, .int na, .int nb_])).length) Slot.unset).toArray = ls at hl ⊢
  have hl : lv_has ls 4 [(0, .ref y_), (1, .int na), (2, .int nb_)] := hl
  obtain ⟨r0, hr0⟩ : ∃ r, f_MD_refresh_thrownCode na nb_ z_n z_m z_a z_b z_ep z_mo z_st z_fi = r := ⟨_, rfl⟩
  rw [hr0]
  unfold f_MD_refresh_thrownCode at hr0
  obtain ⟨r1, hr1⟩ : ∃ r, f_MD_refresh_a na nb_ z_n z_m z_a z_b z_ep z_mo z_st z_fi = r := ⟨_, rfl⟩
  rw [hr1]
  unfold f_MD_refresh_a at hr1
  obtain ⟨r2, hr2⟩ : ∃ r, f_MD_refresh_b na nb_ z_n z_m z_a z_b z_ep z_mo z_st z_fi = r := ⟨_, rfl⟩
  rw [hr2]
  unfold f_MD_refresh_b at hr2
  obtain ⟨r3, hr3⟩ : ∃ r, f_MD_refresh_epoch na nb_ z_n z_m z_a z_b z_ep z_mo z_st z_fi = r := ⟨_, rfl⟩
  rw [hr3]
  unfold f_MD_refresh_epoch at hr3
  obtain ⟨r4, hr4⟩ : ∃ r, f_MD_refresh_a_fi na nb_ z_n z_m z_a z_b z_ep z_mo z_st z_fi = r := ⟨_, rfl⟩
  rw [hr4]
  unfold f_MD_refresh_a_fi at hr4
  refine lv_aload_n hx hb d_MD_refresh_0 rfl (lv_at hl 0 rfl) ?_
  refine lv_iload_n hx hb d_MD_refresh_1 rfl (lv_at hl 1 rfl) ?_
  refine lv_if_lt hx hb d_MD_refresh_2 (tgt := 9) (by decide) (fun h2 => ?_) (fun h2 => ?_)
  · rw [if_pos h2] at hr0
    rw [if_pos h2] at hr1
    rw [if_pos h2] at hr2
    rw [if_pos h2] at hr3
    rw [if_pos h2] at hr4
    refine lv_iconst (v := (1 : Int32)) hx hb d_MD_refresh_9 (by decide) ?_
    refine lv_goto hx hb d_MD_refresh_10 (tgt := 27) (by decide) ?_
    refine pf_MD_7 hg hw S hP hD hS 0 rfl rfl rfl (Nat.le_of_ble_eq_true rfl) d_MD_refresh_27 (fun H1 L1 hP hD hS => ?_)
    have hP : va_P G.2.1 cl_all [(y_, .inr (4, [.int (1 : Int32), .long z_n, .long z_m, .long z_d, .long z_a, .long z_b, .long z_v, .int z_ep, .int z_su, .ref a_buf, .int z_by, .int z_mo, .ref a_st, .ref a_bl, .ref a_fi, .ref a_ob, .ref a_si, .ref a_po, .ref a_pr, .ref a_an, .int z_bk, .ref a_bo, .long z_h])), (a_st, .inl (G.2.2.1, 12, .inl z_st)), (a_fi, .inl (G.2.2.1, 12, .inl z_fi))] H1 := hP
    have hD : va_D A [(y_, .inr (4, [.int (1 : Int32), .long z_n, .long z_m, .long z_d, .long z_a, .long z_b, .long z_v, .int z_ep, .int z_su, .ref a_buf, .int z_by, .int z_mo, .ref a_st, .ref a_bl, .ref a_fi, .ref a_ob, .ref a_si, .ref a_po, .ref a_pr, .ref a_an, .int z_bk, .ref a_bo, .long z_h])), (a_st, .inl (G.2.2.1, 12, .inl z_st)), (a_fi, .inl (G.2.2.1, 12, .inl z_fi))] := hD
    refine lv_aload_n hx hb d_MD_refresh_30 rfl (lv_at hl 0 rfl) ?_
    refine gf_MD_7 hg hw S hP 0 rfl rfl d_MD_refresh_31 ?_
    refine lv_if_eq hx hb d_MD_refresh_34 (tgt := 38) (by decide) (fun h34 => ?_) (fun h34 => ?_)
    · exact absurd h34 (by decide)
    · subst hr0
      subst hr1
      subst hr2
      subst hr3
      subst hr4
      exact xw_vret hx hb ht hl0 hP hD hS d_MD_refresh_37
  · rw [if_neg h2] at hr0
    rw [if_neg h2] at hr1
    rw [if_neg h2] at hr2
    rw [if_neg h2] at hr3
    rw [if_neg h2] at hr4
    refine lv_iload_n hx hb d_MD_refresh_5 rfl (lv_at hl 2 rfl) ?_
    refine lv_if_ge hx hb d_MD_refresh_6 (tgt := 13) (by decide) (fun h6 => ?_) (fun h6 => ?_)
    · rw [if_pos h6] at hr0
      rw [if_pos h6] at hr1
      rw [if_pos h6] at hr2
      rw [if_pos h6] at hr3
      rw [if_pos h6] at hr4
      refine lv_aload_n hx hb d_MD_refresh_13 rfl (lv_at hl 0 rfl) ?_
      refine gf_MD_13 hg hw S hP 0 rfl rfl d_MD_refresh_14 ?_
      refine lv_lconst (v := (0 : Int64)) hx hb d_MD_refresh_17 (by decide) ?_
      refine W.lcmp hx hb d_MD_refresh_18 ?_
      refine lv_if_ne hx hb d_MD_refresh_19 (tgt := 26) (by decide) (fun h19 => ?_) (fun h19 => ?_)
      · rw [lg_cmp_eq] at h19
        rw [if_neg h19] at hr0
        rw [if_neg h19] at hr1
        rw [if_neg h19] at hr2
        rw [if_neg h19] at hr3
        rw [if_neg h19] at hr4
        refine lv_iconst (v := (0 : Int32)) hx hb d_MD_refresh_26 (by decide) ?_
        refine pf_MD_7 hg hw S hP hD hS 0 rfl rfl rfl (Nat.le_of_ble_eq_true rfl) d_MD_refresh_27 (fun H2 L2 hP hD hS => ?_)
        have hP : va_P G.2.1 cl_all [(y_, .inr (4, [.int (0 : Int32), .long z_n, .long z_m, .long z_d, .long z_a, .long z_b, .long z_v, .int z_ep, .int z_su, .ref a_buf, .int z_by, .int z_mo, .ref a_st, .ref a_bl, .ref a_fi, .ref a_ob, .ref a_si, .ref a_po, .ref a_pr, .ref a_an, .int z_bk, .ref a_bo, .long z_h])), (a_st, .inl (G.2.2.1, 12, .inl z_st)), (a_fi, .inl (G.2.2.1, 12, .inl z_fi))] H2 := hP
        have hD : va_D A [(y_, .inr (4, [.int (0 : Int32), .long z_n, .long z_m, .long z_d, .long z_a, .long z_b, .long z_v, .int z_ep, .int z_su, .ref a_buf, .int z_by, .int z_mo, .ref a_st, .ref a_bl, .ref a_fi, .ref a_ob, .ref a_si, .ref a_po, .ref a_pr, .ref a_an, .int z_bk, .ref a_bo, .long z_h])), (a_st, .inl (G.2.2.1, 12, .inl z_st)), (a_fi, .inl (G.2.2.1, 12, .inl z_fi))] := hD
        refine lv_aload_n hx hb d_MD_refresh_30 rfl (lv_at hl 0 rfl) ?_
        refine gf_MD_7 hg hw S hP 0 rfl rfl d_MD_refresh_31 ?_
        refine lv_if_eq hx hb d_MD_refresh_34 (tgt := 38) (by decide) (fun h34 => ?_) (fun h34 => ?_)
        · refine lv_aload_n hx hb d_MD_refresh_38 rfl (lv_at hl 0 rfl) ?_
          refine lv_aload_n hx hb d_MD_refresh_39 rfl (lv_at hl 0 rfl) ?_
          refine gf_MD_23 hg hw S hP 0 rfl rfl d_MD_refresh_40 ?_
          refine lv_iload_n hx hb d_MD_refresh_43 rfl (lv_at hl 1 rfl) ?_
          refine lv_i2l hx hb d_MD_refresh_44 rfl ?_
          refine lv_ladd hx hb d_MD_refresh_45 ?_
          refine lv_aload_n hx hb d_MD_refresh_46 rfl (lv_at hl 0 rfl) ?_
          refine gf_MD_17 hg hw S hP 0 rfl rfl d_MD_refresh_47 ?_
          refine lv_lrem hx hb d_MD_refresh_50 (hN h19) ?_
          refine pf_MD_23 hg hw S hP hD hS 0 rfl rfl rfl (Nat.le_of_ble_eq_true rfl) d_MD_refresh_51 (fun H3 L3 hP hD hS => ?_)
          have hP : va_P G.2.1 cl_all [(y_, .inr (4, [.int (0 : Int32), .long z_n, .long z_m, .long z_d, .long ((z_a + na.toInt64) - (z_a + na.toInt64) / z_m * z_m), .long z_b, .long z_v, .int z_ep, .int z_su, .ref a_buf, .int z_by, .int z_mo, .ref a_st, .ref a_bl, .ref a_fi, .ref a_ob, .ref a_si, .ref a_po, .ref a_pr, .ref a_an, .int z_bk, .ref a_bo, .long z_h])), (a_st, .inl (G.2.2.1, 12, .inl z_st)), (a_fi, .inl (G.2.2.1, 12, .inl z_fi))] H3 := hP
          have hD : va_D A [(y_, .inr (4, [.int (0 : Int32), .long z_n, .long z_m, .long z_d, .long ((z_a + na.toInt64) - (z_a + na.toInt64) / z_m * z_m), .long z_b, .long z_v, .int z_ep, .int z_su, .ref a_buf, .int z_by, .int z_mo, .ref a_st, .ref a_bl, .ref a_fi, .ref a_ob, .ref a_si, .ref a_po, .ref a_pr, .ref a_an, .int z_bk, .ref a_bo, .long z_h])), (a_st, .inl (G.2.2.1, 12, .inl z_st)), (a_fi, .inl (G.2.2.1, 12, .inl z_fi))] := hD
          refine lv_aload_n hx hb d_MD_refresh_54 rfl (lv_at hl 0 rfl) ?_
          refine lv_aload_n hx hb d_MD_refresh_55 rfl (lv_at hl 0 rfl) ?_
          refine gf_MD_26 hg hw S hP 0 rfl rfl d_MD_refresh_56 ?_
          refine lv_iload_n hx hb d_MD_refresh_59 rfl (lv_at hl 2 rfl) ?_
          refine lv_i2l hx hb d_MD_refresh_60 rfl ?_
          refine lv_ladd hx hb d_MD_refresh_61 ?_
          refine lv_aload_n hx hb d_MD_refresh_62 rfl (lv_at hl 0 rfl) ?_
          refine gf_MD_17 hg hw S hP 0 rfl rfl d_MD_refresh_63 ?_
          refine lv_lrem hx hb d_MD_refresh_66 (hN h19) ?_
          refine pf_MD_26 hg hw S hP hD hS 0 rfl rfl rfl (Nat.le_of_ble_eq_true rfl) d_MD_refresh_67 (fun H4 L4 hP hD hS => ?_)
          have hP : va_P G.2.1 cl_all [(y_, .inr (4, [.int (0 : Int32), .long z_n, .long z_m, .long z_d, .long ((z_a + na.toInt64) - (z_a + na.toInt64) / z_m * z_m), .long ((z_b + nb_.toInt64) - (z_b + nb_.toInt64) / z_m * z_m), .long z_v, .int z_ep, .int z_su, .ref a_buf, .int z_by, .int z_mo, .ref a_st, .ref a_bl, .ref a_fi, .ref a_ob, .ref a_si, .ref a_po, .ref a_pr, .ref a_an, .int z_bk, .ref a_bo, .long z_h])), (a_st, .inl (G.2.2.1, 12, .inl z_st)), (a_fi, .inl (G.2.2.1, 12, .inl z_fi))] H4 := hP
          have hD : va_D A [(y_, .inr (4, [.int (0 : Int32), .long z_n, .long z_m, .long z_d, .long ((z_a + na.toInt64) - (z_a + na.toInt64) / z_m * z_m), .long ((z_b + nb_.toInt64) - (z_b + nb_.toInt64) / z_m * z_m), .long z_v, .int z_ep, .int z_su, .ref a_buf, .int z_by, .int z_mo, .ref a_st, .ref a_bl, .ref a_fi, .ref a_ob, .ref a_si, .ref a_po, .ref a_pr, .ref a_an, .int z_bk, .ref a_bo, .long z_h])), (a_st, .inl (G.2.2.1, 12, .inl z_st)), (a_fi, .inl (G.2.2.1, 12, .inl z_fi))] := hD
          refine lv_aload_n hx hb d_MD_refresh_70 rfl (lv_at hl 0 rfl) ?_
          refine lv_dup hx hb d_MD_refresh_71 rfl ?_
          refine gf_MD_32 hg hw S hP 0 rfl rfl d_MD_refresh_72 ?_
          refine lv_iconst (v := (1 : Int32)) hx hb d_MD_refresh_75 (by decide) ?_
          refine lv_iadd hx hb d_MD_refresh_76 ?_
          refine pf_MD_32 hg hw S hP hD hS 0 rfl rfl rfl (Nat.le_of_ble_eq_true rfl) d_MD_refresh_77 (fun H5 L5 hP hD hS => ?_)
          have hP : va_P G.2.1 cl_all [(y_, .inr (4, [.int (0 : Int32), .long z_n, .long z_m, .long z_d, .long ((z_a + na.toInt64) - (z_a + na.toInt64) / z_m * z_m), .long ((z_b + nb_.toInt64) - (z_b + nb_.toInt64) / z_m * z_m), .long z_v, .int (z_ep + (1 : Int32)), .int z_su, .ref a_buf, .int z_by, .int z_mo, .ref a_st, .ref a_bl, .ref a_fi, .ref a_ob, .ref a_si, .ref a_po, .ref a_pr, .ref a_an, .int z_bk, .ref a_bo, .long z_h])), (a_st, .inl (G.2.2.1, 12, .inl z_st)), (a_fi, .inl (G.2.2.1, 12, .inl z_fi))] H5 := hP
          have hD : va_D A [(y_, .inr (4, [.int (0 : Int32), .long z_n, .long z_m, .long z_d, .long ((z_a + na.toInt64) - (z_a + na.toInt64) / z_m * z_m), .long ((z_b + nb_.toInt64) - (z_b + nb_.toInt64) / z_m * z_m), .long z_v, .int (z_ep + (1 : Int32)), .int z_su, .ref a_buf, .int z_by, .int z_mo, .ref a_st, .ref a_bl, .ref a_fi, .ref a_ob, .ref a_si, .ref a_po, .ref a_pr, .ref a_an, .int z_bk, .ref a_bo, .long z_h])), (a_st, .inl (G.2.2.1, 12, .inl z_st)), (a_fi, .inl (G.2.2.1, 12, .inl z_fi))] := hD
          refine lv_iconst (v := (0 : Int32)) hx hb d_MD_refresh_80 (by decide) ?_
          refine lv_istore_n hx hb d_MD_refresh_81 rfl hl (by decide) rfl (fun ls hl => ?_)
          have hl : lv_has ls 4 [(3, .int (0 : Int32)), (0, .ref y_), (1, .int na), (2, .int nb_)] := hl
          subst hr0
          subst hr1
          subst hr2
          subst hr3
          exact wl_MD_refresh_82 (y_ := y_) (na := na) (nb_ := nb_) (z_th := z_th) (z_n := z_n) (z_m := z_m) (z_d := z_d) (z_a := z_a) (z_b := z_b) (z_v := z_v) (z_ep := z_ep) (z_su := z_su) (a_buf := a_buf) (z_by := z_by) (z_mo := z_mo) (a_st := a_st) (a_bl := a_bl) (a_fi := a_fi) (a_ob := a_ob) (a_si := a_si) (a_po := a_po) (a_pr := a_pr) (a_an := a_an) (z_bk := z_bk) (a_bo := a_bo) (z_h := z_h) (z_st := z_st) (z_fi := z_fi) hg hw S hl0 ht hA hQ 13 (0 : Int32) z_fi r4 ls H5 L5 hr4 ⟨by decide, by rw [show (0 : Int32).toInt = 0 from rfl]; omega⟩ (lv_sub hl [0, 1, 2, 3] rfl) hP hD hS
        · exact absurd h34 (by decide)
      · rw [lg_cmp_eq] at h19
        rw [if_pos h19] at hr0
        rw [if_pos h19] at hr1
        rw [if_pos h19] at hr2
        rw [if_pos h19] at hr3
        rw [if_pos h19] at hr4
        refine lv_iconst (v := (2 : Int32)) hx hb d_MD_refresh_22 (by decide) ?_
        refine lv_goto hx hb d_MD_refresh_23 (tgt := 27) (by decide) ?_
        refine pf_MD_7 hg hw S hP hD hS 0 rfl rfl rfl (Nat.le_of_ble_eq_true rfl) d_MD_refresh_27 (fun H7 L7 hP hD hS => ?_)
        have hP : va_P G.2.1 cl_all [(y_, .inr (4, [.int (2 : Int32), .long z_n, .long z_m, .long z_d, .long z_a, .long z_b, .long z_v, .int z_ep, .int z_su, .ref a_buf, .int z_by, .int z_mo, .ref a_st, .ref a_bl, .ref a_fi, .ref a_ob, .ref a_si, .ref a_po, .ref a_pr, .ref a_an, .int z_bk, .ref a_bo, .long z_h])), (a_st, .inl (G.2.2.1, 12, .inl z_st)), (a_fi, .inl (G.2.2.1, 12, .inl z_fi))] H7 := hP
        have hD : va_D A [(y_, .inr (4, [.int (2 : Int32), .long z_n, .long z_m, .long z_d, .long z_a, .long z_b, .long z_v, .int z_ep, .int z_su, .ref a_buf, .int z_by, .int z_mo, .ref a_st, .ref a_bl, .ref a_fi, .ref a_ob, .ref a_si, .ref a_po, .ref a_pr, .ref a_an, .int z_bk, .ref a_bo, .long z_h])), (a_st, .inl (G.2.2.1, 12, .inl z_st)), (a_fi, .inl (G.2.2.1, 12, .inl z_fi))] := hD
        refine lv_aload_n hx hb d_MD_refresh_30 rfl (lv_at hl 0 rfl) ?_
        refine gf_MD_7 hg hw S hP 0 rfl rfl d_MD_refresh_31 ?_
        refine lv_if_eq hx hb d_MD_refresh_34 (tgt := 38) (by decide) (fun h34 => ?_) (fun h34 => ?_)
        · exact absurd h34 (by decide)
        · subst hr0
          subst hr1
          subst hr2
          subst hr3
          subst hr4
          exact xw_vret hx hb ht hl0 hP hD hS d_MD_refresh_37
    · rw [if_neg h6] at hr0
      rw [if_neg h6] at hr1
      rw [if_neg h6] at hr2
      rw [if_neg h6] at hr3
      rw [if_neg h6] at hr4
      refine lv_iconst (v := (1 : Int32)) hx hb d_MD_refresh_9 (by decide) ?_
      refine lv_goto hx hb d_MD_refresh_10 (tgt := 27) (by decide) ?_
      refine pf_MD_7 hg hw S hP hD hS 0 rfl rfl rfl (Nat.le_of_ble_eq_true rfl) d_MD_refresh_27 (fun H8 L8 hP hD hS => ?_)
      have hP : va_P G.2.1 cl_all [(y_, .inr (4, [.int (1 : Int32), .long z_n, .long z_m, .long z_d, .long z_a, .long z_b, .long z_v, .int z_ep, .int z_su, .ref a_buf, .int z_by, .int z_mo, .ref a_st, .ref a_bl, .ref a_fi, .ref a_ob, .ref a_si, .ref a_po, .ref a_pr, .ref a_an, .int z_bk, .ref a_bo, .long z_h])), (a_st, .inl (G.2.2.1, 12, .inl z_st)), (a_fi, .inl (G.2.2.1, 12, .inl z_fi))] H8 := hP
      have hD : va_D A [(y_, .inr (4, [.int (1 : Int32), .long z_n, .long z_m, .long z_d, .long z_a, .long z_b, .long z_v, .int z_ep, .int z_su, .ref a_buf, .int z_by, .int z_mo, .ref a_st, .ref a_bl, .ref a_fi, .ref a_ob, .ref a_si, .ref a_po, .ref a_pr, .ref a_an, .int z_bk, .ref a_bo, .long z_h])), (a_st, .inl (G.2.2.1, 12, .inl z_st)), (a_fi, .inl (G.2.2.1, 12, .inl z_fi))] := hD
      refine lv_aload_n hx hb d_MD_refresh_30 rfl (lv_at hl 0 rfl) ?_
      refine gf_MD_7 hg hw S hP 0 rfl rfl d_MD_refresh_31 ?_
      refine lv_if_eq hx hb d_MD_refresh_34 (tgt := 38) (by decide) (fun h34 => ?_) (fun h34 => ?_)
      · exact absurd h34 (by decide)
      · subst hr0
        subst hr1
        subst hr2
        subst hr3
        subst hr4
        exact xw_vret hx hb ht hl0 hP hD hS d_MD_refresh_37
def f_MD_suspend (trustee : Int32) (on_ : Int32) (z_n : Int64) (z_su : Int32) : Int32 := if (f_MD_isTrustee trustee) = 0 then (0 : Int32) else (if z_n = (0 : Int64) then (0 : Int32) else (if ((z_su >>> (trustee &&& 31)) &&& (1 : Int32)) = (1 : Int32) then (if on_ = 0 then (if (1 : Int32) = on_ then (0 : Int32) else (1 : Int32)) else (if (1 : Int32) = on_ then (0 : Int32) else (1 : Int32))) else (if on_ = 0 then (if (0 : Int32) = on_ then (0 : Int32) else (1 : Int32)) else (if (0 : Int32) = on_ then (0 : Int32) else (1 : Int32)))))
def f_MD_suspend_thrownCode (trustee : Int32) (on_ : Int32) (z_n : Int64) (z_su : Int32) : Int32 := if (f_MD_isTrustee trustee) = 0 then (1 : Int32) else (if z_n = (0 : Int64) then (2 : Int32) else (if ((z_su >>> (trustee &&& 31)) &&& (1 : Int32)) = (1 : Int32) then (if on_ = 0 then (if (1 : Int32) = on_ then (0 : Int32) else (0 : Int32)) else (if (1 : Int32) = on_ then (0 : Int32) else (0 : Int32))) else (if on_ = 0 then (if (0 : Int32) = on_ then (0 : Int32) else (0 : Int32)) else (if (0 : Int32) = on_ then (0 : Int32) else (0 : Int32)))))
def f_MD_suspend_suspended (trustee : Int32) (on_ : Int32) (z_n : Int64) (z_su : Int32) : Int32 := if (f_MD_isTrustee trustee) = 0 then z_su else (if z_n = (0 : Int64) then z_su else (if ((z_su >>> (trustee &&& 31)) &&& (1 : Int32)) = (1 : Int32) then (if on_ = 0 then (if (1 : Int32) = on_ then (z_su &&& (((1 : Int32) <<< (trustee &&& 31)) ^^^ (-1 : Int32))) else (z_su &&& (((1 : Int32) <<< (trustee &&& 31)) ^^^ (-1 : Int32)))) else (if (1 : Int32) = on_ then (z_su ||| ((1 : Int32) <<< (trustee &&& 31))) else (z_su ||| ((1 : Int32) <<< (trustee &&& 31))))) else (if on_ = 0 then (if (0 : Int32) = on_ then (z_su &&& (((1 : Int32) <<< (trustee &&& 31)) ^^^ (-1 : Int32))) else (z_su &&& (((1 : Int32) <<< (trustee &&& 31)) ^^^ (-1 : Int32)))) else (if (0 : Int32) = on_ then (z_su ||| ((1 : Int32) <<< (trustee &&& 31))) else (z_su ||| ((1 : Int32) <<< (trustee &&& 31)))))))
set_option maxHeartbeats 4000000 in
set_option maxRecDepth 100000 in
theorem ct_MD_suspend (l : Launch) {G : xg_G} (hg : xg_F G) (H : Heap) (y_ : Nat) (trustee : Int32) (on_ : Int32) (z_th : Int32) (z_n : Int64) (z_m : Int64) (z_d : Int64) (z_a : Int64) (z_b : Int64) (z_v : Int64) (z_ep : Int32) (z_su : Int32) (a_buf : Nat) (z_by : Int32) (z_mo : Int32) (a_st : Nat) (a_bl : Nat) (a_fi : Nat) (a_ob : Nat) (a_si : Nat) (a_po : Nat) (a_pr : Nat) (a_an : Nat) (z_bk : Int32) (a_bo : Nat) (z_h : Int64) (hP : va_P G.2.1 cl_all [(y_, .inr (4, [.int z_th, .long z_n, .long z_m, .long z_d, .long z_a, .long z_b, .long z_v, .int z_ep, .int z_su, .ref a_buf, .int z_by, .int z_mo, .ref a_st, .ref a_bl, .ref a_fi, .ref a_ob, .ref a_si, .ref a_po, .ref a_pr, .ref a_an, .int z_bk, .ref a_bo, .long z_h]))] H) (hD0 : va_D (fun _ => True) [(y_, .inr (4, [.int z_th, .long z_n, .long z_m, .long z_d, .long z_a, .long z_b, .long z_v, .int z_ep, .int z_su, .ref a_buf, .int z_by, .int z_mo, .ref a_st, .ref a_bl, .ref a_fi, .ref a_ob, .ref a_si, .ref a_po, .ref a_pr, .ref a_an, .int z_bk, .ref a_bo, .long z_h]))])  : xc_Met l y_MD_suspend (.code y_MD_suspend b_MD_suspend 4 (some .boolean)) ({ frames := 1, cells := 0, slots := 0, locals := 13 } : Room) (xg_Pc G [.ref y_, .int trustee, .int on_] H) (xw_post G (va_A [(y_, .inr (4, [.int z_th, .long z_n, .long z_m, .long z_d, .long z_a, .long z_b, .long z_v, .int z_ep, .int z_su, .ref a_buf, .int z_by, .int z_mo, .ref a_st, .ref a_bl, .ref a_fi, .ref a_ob, .ref a_si, .ref a_po, .ref a_pr, .ref a_an, .int z_bk, .ref a_bo, .long z_h]))] H.size) (some (.int (f_MD_suspend trustee on_ z_n z_su))) [(y_, .inr (4, [.int (f_MD_suspend_thrownCode trustee on_ z_n z_su), .long z_n, .long z_m, .long z_d, .long z_a, .long z_b, .long z_v, .int z_ep, .int (f_MD_suspend_suspended trustee on_ z_n z_su), .ref a_buf, .int z_by, .int z_mo, .ref a_st, .ref a_bl, .ref a_fi, .ref a_ob, .ref a_si, .ref a_po, .ref a_pr, .ref a_an, .int z_bk, .ref a_bo, .long z_h]))]) (va_A [(y_, .inr (4, [.int z_th, .long z_n, .long z_m, .long z_d, .long z_a, .long z_b, .long z_v, .int z_ep, .int z_su, .ref a_buf, .int z_by, .int z_mo, .ref a_st, .ref a_bl, .ref a_fi, .ref a_ob, .ref a_si, .ref a_po, .ref a_pr, .ref a_an, .int z_bk, .ref a_bo, .long z_h]))] H.size) := by
  refine xc_ofW (by decide) ?_
  intro p e s m args below meth c s₁ B hml hE hv
  obtain ⟨rfl, rfl, hw⟩ := hv
  have hx := B.exec
  have hb := B.bytes
  have ht := B.returns
  have hl0 := B.notSynchronized
  have S : xc_Fix p m c b_MD_suspend 4 s "SealTrustModel" := ⟨hx, hb, hml, findClass_of_methodNamed B.named⟩
  have hD := hD0.self (sz := s.heap.size)
  generalize hAe : va_A [(y_, .inr (4, [.int z_th, .long z_n, .long z_m, .long z_d, .long z_a, .long z_b, .long z_v, .int z_ep, .int z_su, .ref a_buf, .int z_by, .int z_mo, .ref a_st, .ref a_bl, .ref a_fi, .ref a_ob, .ref a_si, .ref a_po, .ref a_pr, .ref a_an, .int z_bk, .ref a_bo, .long z_h]))] s.heap.size = A at hD ⊢
  have hA : ∀ q : Nat, s.heap.size ≤ q → A q := fun q h => by rw [← hAe]; exact Or.inr h
  have hS : va_S A s.heap s.heap [] := va_S.rf
  have hl := lv_entry ([.ref y_, .int trustee, .int on_]) (n := 4) (Nat.le_of_ble_eq_true rfl)
  rw [lg_entry_eq]
  generalize (lg_sl ([.ref y_, .int trustee, .int on_]) ++ List.replicate (4 - (lg_sl ([.ref y_, .int trustee, .int on_])).length) Slot.unset).toArray = ls at hl ⊢
  have hl : lv_has ls 4 [(0, .ref y_), (1, .int trustee), (2, .int on_)] := hl
  obtain ⟨r0, hr0⟩ : ∃ r, f_MD_suspend trustee on_ z_n z_su = r := ⟨_, rfl⟩
  rw [hr0]
  unfold f_MD_suspend at hr0
  obtain ⟨r1, hr1⟩ : ∃ r, f_MD_suspend_thrownCode trustee on_ z_n z_su = r := ⟨_, rfl⟩
  rw [hr1]
  unfold f_MD_suspend_thrownCode at hr1
  obtain ⟨r2, hr2⟩ : ∃ r, f_MD_suspend_suspended trustee on_ z_n z_su = r := ⟨_, rfl⟩
  rw [hr2]
  unfold f_MD_suspend_suspended at hr2
  refine lv_aload_n hx hb d_MD_suspend_0 rfl (lv_at hl 0 rfl) ?_
  refine lv_iload_n hx hb d_MD_suspend_1 rfl (lv_at hl 1 rfl) ?_
  refine xg_read (xg_runS (rest := [.ref y_]) (kw := 1) si_MD_145 hg hw S (ct_MD_isTrustee l hg s.heap trustee ) ⟨by decide, by decide, by decide, by decide⟩ rfl hl.1 rfl (Nat.le_of_ble_eq_true rfl) d_MD_suspend_2) ?_
  refine lv_if_ne hx hb d_MD_suspend_5 (tgt := 12) (by decide) (fun h5 => ?_) (fun h5 => ?_)
  · rw [if_neg h5] at hr0
    rw [if_neg h5] at hr1
    rw [if_neg h5] at hr2
    refine lv_aload_n hx hb d_MD_suspend_12 rfl (lv_at hl 0 rfl) ?_
    refine gf_MD_13 hg hw S hP 0 rfl rfl d_MD_suspend_13 ?_
    refine lv_lconst (v := (0 : Int64)) hx hb d_MD_suspend_16 (by decide) ?_
    refine W.lcmp hx hb d_MD_suspend_17 ?_
    refine lv_if_ne hx hb d_MD_suspend_18 (tgt := 25) (by decide) (fun h18 => ?_) (fun h18 => ?_)
    · rw [lg_cmp_eq] at h18
      rw [if_neg h18] at hr0
      rw [if_neg h18] at hr1
      rw [if_neg h18] at hr2
      refine lv_iconst (v := (0 : Int32)) hx hb d_MD_suspend_25 (by decide) ?_
      refine pf_MD_7 hg hw S hP hD hS 0 rfl rfl rfl (Nat.le_of_ble_eq_true rfl) d_MD_suspend_26 (fun H1 L1 hP hD hS => ?_)
      have hP : va_P G.2.1 cl_all [(y_, .inr (4, [.int (0 : Int32), .long z_n, .long z_m, .long z_d, .long z_a, .long z_b, .long z_v, .int z_ep, .int z_su, .ref a_buf, .int z_by, .int z_mo, .ref a_st, .ref a_bl, .ref a_fi, .ref a_ob, .ref a_si, .ref a_po, .ref a_pr, .ref a_an, .int z_bk, .ref a_bo, .long z_h]))] H1 := hP
      have hD : va_D A [(y_, .inr (4, [.int (0 : Int32), .long z_n, .long z_m, .long z_d, .long z_a, .long z_b, .long z_v, .int z_ep, .int z_su, .ref a_buf, .int z_by, .int z_mo, .ref a_st, .ref a_bl, .ref a_fi, .ref a_ob, .ref a_si, .ref a_po, .ref a_pr, .ref a_an, .int z_bk, .ref a_bo, .long z_h]))] := hD
      refine lv_aload_n hx hb d_MD_suspend_29 rfl (lv_at hl 0 rfl) ?_
      refine gf_MD_7 hg hw S hP 0 rfl rfl d_MD_suspend_30 ?_
      refine lv_if_eq hx hb d_MD_suspend_33 (tgt := 38) (by decide) (fun h33 => ?_) (fun h33 => ?_)
      · refine lv_aload_n hx hb d_MD_suspend_38 rfl (lv_at hl 0 rfl) ?_
        refine gf_MD_35 hg hw S hP 0 rfl rfl d_MD_suspend_39 ?_
        refine lv_iload_n hx hb d_MD_suspend_42 rfl (lv_at hl 1 rfl) ?_
        refine lv_ishr hx hb d_MD_suspend_43 ?_
        refine lv_iconst (v := (1 : Int32)) hx hb d_MD_suspend_44 (by decide) ?_
        refine lv_iand hx hb d_MD_suspend_45 ?_
        refine lv_iconst (v := (1 : Int32)) hx hb d_MD_suspend_46 (by decide) ?_
        refine lv_icmp_ne hx hb d_MD_suspend_47 (tgt := 54) (by decide) (fun h47 => ?_) (fun h47 => ?_)
        · rw [if_neg h47] at hr0
          rw [if_neg h47] at hr1
          rw [if_neg h47] at hr2
          refine lv_iconst (v := (0 : Int32)) hx hb d_MD_suspend_54 (by decide) ?_
          refine lv_istore_n hx hb d_MD_suspend_55 rfl hl (by decide) rfl (fun ls hl => ?_)
          have hl : lv_has ls 4 [(3, .int (0 : Int32)), (0, .ref y_), (1, .int trustee), (2, .int on_)] := hl
          refine lv_aload_n hx hb d_MD_suspend_56 rfl (lv_at hl 1 rfl) ?_
          refine lv_iload_n hx hb d_MD_suspend_57 rfl (lv_at hl 3 rfl) ?_
          refine lv_if_eq hx hb d_MD_suspend_58 (tgt := 72) (by decide) (fun h58 => ?_) (fun h58 => ?_)
          · rw [if_pos h58] at hr0
            rw [if_pos h58] at hr1
            rw [if_pos h58] at hr2
            refine lv_aload_n hx hb d_MD_suspend_72 rfl (lv_at hl 1 rfl) ?_
            refine gf_MD_35 hg hw S hP 0 rfl rfl d_MD_suspend_73 ?_
            refine lv_iconst (v := (1 : Int32)) hx hb d_MD_suspend_76 (by decide) ?_
            refine lv_iload_n hx hb d_MD_suspend_77 rfl (lv_at hl 2 rfl) ?_
            refine lv_ishl hx hb d_MD_suspend_78 ?_
            refine lv_iconst (v := (-1 : Int32)) hx hb d_MD_suspend_79 (by decide) ?_
            refine lv_ixor hx hb d_MD_suspend_80 ?_
            refine lv_iand hx hb d_MD_suspend_81 ?_
            refine pf_MD_35 hg hw S hP hD hS 0 rfl rfl rfl (Nat.le_of_ble_eq_true rfl) d_MD_suspend_82 (fun H2 L2 hP hD hS => ?_)
            have hP : va_P G.2.1 cl_all [(y_, .inr (4, [.int (0 : Int32), .long z_n, .long z_m, .long z_d, .long z_a, .long z_b, .long z_v, .int z_ep, .int (z_su &&& (((1 : Int32) <<< (trustee &&& 31)) ^^^ (-1 : Int32))), .ref a_buf, .int z_by, .int z_mo, .ref a_st, .ref a_bl, .ref a_fi, .ref a_ob, .ref a_si, .ref a_po, .ref a_pr, .ref a_an, .int z_bk, .ref a_bo, .long z_h]))] H2 := hP
            have hD : va_D A [(y_, .inr (4, [.int (0 : Int32), .long z_n, .long z_m, .long z_d, .long z_a, .long z_b, .long z_v, .int z_ep, .int (z_su &&& (((1 : Int32) <<< (trustee &&& 31)) ^^^ (-1 : Int32))), .ref a_buf, .int z_by, .int z_mo, .ref a_st, .ref a_bl, .ref a_fi, .ref a_ob, .ref a_si, .ref a_po, .ref a_pr, .ref a_an, .int z_bk, .ref a_bo, .long z_h]))] := hD
            refine lv_iload_n hx hb d_MD_suspend_85 rfl (lv_at hl 0 rfl) ?_
            refine lv_iload_n hx hb d_MD_suspend_86 rfl (lv_at hl 3 rfl) ?_
            refine lv_icmp_eq hx hb d_MD_suspend_87 (tgt := 94) (by decide) (fun h87 => ?_) (fun h87 => ?_)
            · rw [if_pos h87] at hr0
              rw [if_pos h87] at hr1
              rw [if_pos h87] at hr2
              refine lv_iconst (v := (0 : Int32)) hx hb d_MD_suspend_94 (by decide) ?_
              subst hr0
              subst hr1
              subst hr2
              exact xw_zret hx hb ht hl0 rfl hP hD hS d_MD_suspend_95
            · rw [if_neg h87] at hr0
              rw [if_neg h87] at hr1
              rw [if_neg h87] at hr2
              refine lv_iconst (v := (1 : Int32)) hx hb d_MD_suspend_90 (by decide) ?_
              refine lv_goto hx hb d_MD_suspend_91 (tgt := 95) (by decide) ?_
              subst hr0
              subst hr1
              subst hr2
              exact xw_zret hx hb ht hl0 rfl hP hD hS d_MD_suspend_95
          · rw [if_neg h58] at hr0
            rw [if_neg h58] at hr1
            rw [if_neg h58] at hr2
            refine lv_aload_n hx hb d_MD_suspend_61 rfl (lv_at hl 1 rfl) ?_
            refine gf_MD_35 hg hw S hP 0 rfl rfl d_MD_suspend_62 ?_
            refine lv_iconst (v := (1 : Int32)) hx hb d_MD_suspend_65 (by decide) ?_
            refine lv_iload_n hx hb d_MD_suspend_66 rfl (lv_at hl 2 rfl) ?_
            refine lv_ishl hx hb d_MD_suspend_67 ?_
            refine lv_ior hx hb d_MD_suspend_68 ?_
            refine lv_goto hx hb d_MD_suspend_69 (tgt := 82) (by decide) ?_
            refine pf_MD_35 hg hw S hP hD hS 0 rfl rfl rfl (Nat.le_of_ble_eq_true rfl) d_MD_suspend_82 (fun H3 L3 hP hD hS => ?_)
            have hP : va_P G.2.1 cl_all [(y_, .inr (4, [.int (0 : Int32), .long z_n, .long z_m, .long z_d, .long z_a, .long z_b, .long z_v, .int z_ep, .int (z_su ||| ((1 : Int32) <<< (trustee &&& 31))), .ref a_buf, .int z_by, .int z_mo, .ref a_st, .ref a_bl, .ref a_fi, .ref a_ob, .ref a_si, .ref a_po, .ref a_pr, .ref a_an, .int z_bk, .ref a_bo, .long z_h]))] H3 := hP
            have hD : va_D A [(y_, .inr (4, [.int (0 : Int32), .long z_n, .long z_m, .long z_d, .long z_a, .long z_b, .long z_v, .int z_ep, .int (z_su ||| ((1 : Int32) <<< (trustee &&& 31))), .ref a_buf, .int z_by, .int z_mo, .ref a_st, .ref a_bl, .ref a_fi, .ref a_ob, .ref a_si, .ref a_po, .ref a_pr, .ref a_an, .int z_bk, .ref a_bo, .long z_h]))] := hD
            refine lv_iload_n hx hb d_MD_suspend_85 rfl (lv_at hl 0 rfl) ?_
            refine lv_iload_n hx hb d_MD_suspend_86 rfl (lv_at hl 3 rfl) ?_
            refine lv_icmp_eq hx hb d_MD_suspend_87 (tgt := 94) (by decide) (fun h87 => ?_) (fun h87 => ?_)
            · rw [if_pos h87] at hr0
              rw [if_pos h87] at hr1
              rw [if_pos h87] at hr2
              refine lv_iconst (v := (0 : Int32)) hx hb d_MD_suspend_94 (by decide) ?_
              subst hr0
              subst hr1
              subst hr2
              exact xw_zret hx hb ht hl0 rfl hP hD hS d_MD_suspend_95
            · rw [if_neg h87] at hr0
              rw [if_neg h87] at hr1
              rw [if_neg h87] at hr2
              refine lv_iconst (v := (1 : Int32)) hx hb d_MD_suspend_90 (by decide) ?_
              refine lv_goto hx hb d_MD_suspend_91 (tgt := 95) (by decide) ?_
              subst hr0
              subst hr1
              subst hr2
              exact xw_zret hx hb ht hl0 rfl hP hD hS d_MD_suspend_95
        · rw [if_pos h47] at hr0
          rw [if_pos h47] at hr1
          rw [if_pos h47] at hr2
          refine lv_iconst (v := (1 : Int32)) hx hb d_MD_suspend_50 (by decide) ?_
          refine lv_goto hx hb d_MD_suspend_51 (tgt := 55) (by decide) ?_
          refine lv_istore_n hx hb d_MD_suspend_55 rfl hl (by decide) rfl (fun ls hl => ?_)
          have hl : lv_has ls 4 [(3, .int (1 : Int32)), (0, .ref y_), (1, .int trustee), (2, .int on_)] := hl
          refine lv_aload_n hx hb d_MD_suspend_56 rfl (lv_at hl 1 rfl) ?_
          refine lv_iload_n hx hb d_MD_suspend_57 rfl (lv_at hl 3 rfl) ?_
          refine lv_if_eq hx hb d_MD_suspend_58 (tgt := 72) (by decide) (fun h58 => ?_) (fun h58 => ?_)
          · rw [if_pos h58] at hr0
            rw [if_pos h58] at hr1
            rw [if_pos h58] at hr2
            refine lv_aload_n hx hb d_MD_suspend_72 rfl (lv_at hl 1 rfl) ?_
            refine gf_MD_35 hg hw S hP 0 rfl rfl d_MD_suspend_73 ?_
            refine lv_iconst (v := (1 : Int32)) hx hb d_MD_suspend_76 (by decide) ?_
            refine lv_iload_n hx hb d_MD_suspend_77 rfl (lv_at hl 2 rfl) ?_
            refine lv_ishl hx hb d_MD_suspend_78 ?_
            refine lv_iconst (v := (-1 : Int32)) hx hb d_MD_suspend_79 (by decide) ?_
            refine lv_ixor hx hb d_MD_suspend_80 ?_
            refine lv_iand hx hb d_MD_suspend_81 ?_
            refine pf_MD_35 hg hw S hP hD hS 0 rfl rfl rfl (Nat.le_of_ble_eq_true rfl) d_MD_suspend_82 (fun H4 L4 hP hD hS => ?_)
            have hP : va_P G.2.1 cl_all [(y_, .inr (4, [.int (0 : Int32), .long z_n, .long z_m, .long z_d, .long z_a, .long z_b, .long z_v, .int z_ep, .int (z_su &&& (((1 : Int32) <<< (trustee &&& 31)) ^^^ (-1 : Int32))), .ref a_buf, .int z_by, .int z_mo, .ref a_st, .ref a_bl, .ref a_fi, .ref a_ob, .ref a_si, .ref a_po, .ref a_pr, .ref a_an, .int z_bk, .ref a_bo, .long z_h]))] H4 := hP
            have hD : va_D A [(y_, .inr (4, [.int (0 : Int32), .long z_n, .long z_m, .long z_d, .long z_a, .long z_b, .long z_v, .int z_ep, .int (z_su &&& (((1 : Int32) <<< (trustee &&& 31)) ^^^ (-1 : Int32))), .ref a_buf, .int z_by, .int z_mo, .ref a_st, .ref a_bl, .ref a_fi, .ref a_ob, .ref a_si, .ref a_po, .ref a_pr, .ref a_an, .int z_bk, .ref a_bo, .long z_h]))] := hD
            refine lv_iload_n hx hb d_MD_suspend_85 rfl (lv_at hl 0 rfl) ?_
            refine lv_iload_n hx hb d_MD_suspend_86 rfl (lv_at hl 3 rfl) ?_
            refine lv_icmp_eq hx hb d_MD_suspend_87 (tgt := 94) (by decide) (fun h87 => ?_) (fun h87 => ?_)
            · rw [if_pos h87] at hr0
              rw [if_pos h87] at hr1
              rw [if_pos h87] at hr2
              refine lv_iconst (v := (0 : Int32)) hx hb d_MD_suspend_94 (by decide) ?_
              subst hr0
              subst hr1
              subst hr2
              exact xw_zret hx hb ht hl0 rfl hP hD hS d_MD_suspend_95
            · rw [if_neg h87] at hr0
              rw [if_neg h87] at hr1
              rw [if_neg h87] at hr2
              refine lv_iconst (v := (1 : Int32)) hx hb d_MD_suspend_90 (by decide) ?_
              refine lv_goto hx hb d_MD_suspend_91 (tgt := 95) (by decide) ?_
              subst hr0
              subst hr1
              subst hr2
              exact xw_zret hx hb ht hl0 rfl hP hD hS d_MD_suspend_95
          · rw [if_neg h58] at hr0
            rw [if_neg h58] at hr1
            rw [if_neg h58] at hr2
            refine lv_aload_n hx hb d_MD_suspend_61 rfl (lv_at hl 1 rfl) ?_
            refine gf_MD_35 hg hw S hP 0 rfl rfl d_MD_suspend_62 ?_
            refine lv_iconst (v := (1 : Int32)) hx hb d_MD_suspend_65 (by decide) ?_
            refine lv_iload_n hx hb d_MD_suspend_66 rfl (lv_at hl 2 rfl) ?_
            refine lv_ishl hx hb d_MD_suspend_67 ?_
            refine lv_ior hx hb d_MD_suspend_68 ?_
            refine lv_goto hx hb d_MD_suspend_69 (tgt := 82) (by decide) ?_
            refine pf_MD_35 hg hw S hP hD hS 0 rfl rfl rfl (Nat.le_of_ble_eq_true rfl) d_MD_suspend_82 (fun H5 L5 hP hD hS => ?_)
            have hP : va_P G.2.1 cl_all [(y_, .inr (4, [.int (0 : Int32), .long z_n, .long z_m, .long z_d, .long z_a, .long z_b, .long z_v, .int z_ep, .int (z_su ||| ((1 : Int32) <<< (trustee &&& 31))), .ref a_buf, .int z_by, .int z_mo, .ref a_st, .ref a_bl, .ref a_fi, .ref a_ob, .ref a_si, .ref a_po, .ref a_pr, .ref a_an, .int z_bk, .ref a_bo, .long z_h]))] H5 := hP
            have hD : va_D A [(y_, .inr (4, [.int (0 : Int32), .long z_n, .long z_m, .long z_d, .long z_a, .long z_b, .long z_v, .int z_ep, .int (z_su ||| ((1 : Int32) <<< (trustee &&& 31))), .ref a_buf, .int z_by, .int z_mo, .ref a_st, .ref a_bl, .ref a_fi, .ref a_ob, .ref a_si, .ref a_po, .ref a_pr, .ref a_an, .int z_bk, .ref a_bo, .long z_h]))] := hD
            refine lv_iload_n hx hb d_MD_suspend_85 rfl (lv_at hl 0 rfl) ?_
            refine lv_iload_n hx hb d_MD_suspend_86 rfl (lv_at hl 3 rfl) ?_
            refine lv_icmp_eq hx hb d_MD_suspend_87 (tgt := 94) (by decide) (fun h87 => ?_) (fun h87 => ?_)
            · rw [if_pos h87] at hr0
              rw [if_pos h87] at hr1
              rw [if_pos h87] at hr2
              refine lv_iconst (v := (0 : Int32)) hx hb d_MD_suspend_94 (by decide) ?_
              subst hr0
              subst hr1
              subst hr2
              exact xw_zret hx hb ht hl0 rfl hP hD hS d_MD_suspend_95
            · rw [if_neg h87] at hr0
              rw [if_neg h87] at hr1
              rw [if_neg h87] at hr2
              refine lv_iconst (v := (1 : Int32)) hx hb d_MD_suspend_90 (by decide) ?_
              refine lv_goto hx hb d_MD_suspend_91 (tgt := 95) (by decide) ?_
              subst hr0
              subst hr1
              subst hr2
              exact xw_zret hx hb ht hl0 rfl hP hD hS d_MD_suspend_95
      · exact absurd h33 (by decide)
    · rw [lg_cmp_eq] at h18
      rw [if_pos h18] at hr0
      rw [if_pos h18] at hr1
      rw [if_pos h18] at hr2
      refine lv_iconst (v := (2 : Int32)) hx hb d_MD_suspend_21 (by decide) ?_
      refine lv_goto hx hb d_MD_suspend_22 (tgt := 26) (by decide) ?_
      refine pf_MD_7 hg hw S hP hD hS 0 rfl rfl rfl (Nat.le_of_ble_eq_true rfl) d_MD_suspend_26 (fun H6 L6 hP hD hS => ?_)
      have hP : va_P G.2.1 cl_all [(y_, .inr (4, [.int (2 : Int32), .long z_n, .long z_m, .long z_d, .long z_a, .long z_b, .long z_v, .int z_ep, .int z_su, .ref a_buf, .int z_by, .int z_mo, .ref a_st, .ref a_bl, .ref a_fi, .ref a_ob, .ref a_si, .ref a_po, .ref a_pr, .ref a_an, .int z_bk, .ref a_bo, .long z_h]))] H6 := hP
      have hD : va_D A [(y_, .inr (4, [.int (2 : Int32), .long z_n, .long z_m, .long z_d, .long z_a, .long z_b, .long z_v, .int z_ep, .int z_su, .ref a_buf, .int z_by, .int z_mo, .ref a_st, .ref a_bl, .ref a_fi, .ref a_ob, .ref a_si, .ref a_po, .ref a_pr, .ref a_an, .int z_bk, .ref a_bo, .long z_h]))] := hD
      refine lv_aload_n hx hb d_MD_suspend_29 rfl (lv_at hl 0 rfl) ?_
      refine gf_MD_7 hg hw S hP 0 rfl rfl d_MD_suspend_30 ?_
      refine lv_if_eq hx hb d_MD_suspend_33 (tgt := 38) (by decide) (fun h33 => ?_) (fun h33 => ?_)
      · exact absurd h33 (by decide)
      · refine lv_iconst (v := (0 : Int32)) hx hb d_MD_suspend_36 (by decide) ?_
        subst hr0
        subst hr1
        subst hr2
        exact xw_zret hx hb ht hl0 rfl hP hD hS d_MD_suspend_37
  · rw [if_pos h5] at hr0
    rw [if_pos h5] at hr1
    rw [if_pos h5] at hr2
    refine lv_iconst (v := (1 : Int32)) hx hb d_MD_suspend_8 (by decide) ?_
    refine lv_goto hx hb d_MD_suspend_9 (tgt := 26) (by decide) ?_
    refine pf_MD_7 hg hw S hP hD hS 0 rfl rfl rfl (Nat.le_of_ble_eq_true rfl) d_MD_suspend_26 (fun H7 L7 hP hD hS => ?_)
    have hP : va_P G.2.1 cl_all [(y_, .inr (4, [.int (1 : Int32), .long z_n, .long z_m, .long z_d, .long z_a, .long z_b, .long z_v, .int z_ep, .int z_su, .ref a_buf, .int z_by, .int z_mo, .ref a_st, .ref a_bl, .ref a_fi, .ref a_ob, .ref a_si, .ref a_po, .ref a_pr, .ref a_an, .int z_bk, .ref a_bo, .long z_h]))] H7 := hP
    have hD : va_D A [(y_, .inr (4, [.int (1 : Int32), .long z_n, .long z_m, .long z_d, .long z_a, .long z_b, .long z_v, .int z_ep, .int z_su, .ref a_buf, .int z_by, .int z_mo, .ref a_st, .ref a_bl, .ref a_fi, .ref a_ob, .ref a_si, .ref a_po, .ref a_pr, .ref a_an, .int z_bk, .ref a_bo, .long z_h]))] := hD
    refine lv_aload_n hx hb d_MD_suspend_29 rfl (lv_at hl 0 rfl) ?_
    refine gf_MD_7 hg hw S hP 0 rfl rfl d_MD_suspend_30 ?_
    refine lv_if_eq hx hb d_MD_suspend_33 (tgt := 38) (by decide) (fun h33 => ?_) (fun h33 => ?_)
    · exact absurd h33 (by decide)
    · refine lv_iconst (v := (0 : Int32)) hx hb d_MD_suspend_36 (by decide) ?_
      subst hr0
      subst hr1
      subst hr2
      exact xw_zret hx hb ht hl0 rfl hP hD hS d_MD_suspend_37
def f_MD_told (motion : Int32) (what : Int32) (z_mo : Int32) (z_st : Nat → Int32) (z_bl : Nat → Int64) (z_fi : Nat → Int32) (z_ob : Nat → Int32) (z_sg : Nat → Int64) : Int64 := if (f_MD_isMotion motion z_mo) = 0 then (0 : Int64) else (if what < 0 then (0 : Int64) else (if what ≤ (4 : Int32) then (if what = 0 then ((z_st motion.toNatClampNeg).toInt64) else (if what = (1 : Int32) then (z_bl motion.toNatClampNeg) else (if what = (2 : Int32) then ((z_fi motion.toNatClampNeg).toInt64) else (if what = (3 : Int32) then ((z_ob motion.toNatClampNeg).toInt64) else (z_sg motion.toNatClampNeg))))) else (0 : Int64)))
def f_MD_told_thrownCode (motion : Int32) (what : Int32) (z_mo : Int32) : Int32 := if (f_MD_isMotion motion z_mo) = 0 then (1 : Int32) else (if what < 0 then (2 : Int32) else (if what ≤ (4 : Int32) then (if what = 0 then (0 : Int32) else (if what = (1 : Int32) then (0 : Int32) else (if what = (2 : Int32) then (0 : Int32) else (if what = (3 : Int32) then (0 : Int32) else (0 : Int32))))) else (2 : Int32)))
set_option maxHeartbeats 4000000 in
set_option maxRecDepth 100000 in
theorem ct_MD_told (l : Launch) {G : xg_G} (hg : xg_F G) (H : Heap) (y_ : Nat) (motion : Int32) (what : Int32) (z_th : Int32) (z_n : Int64) (z_m : Int64) (z_d : Int64) (z_a : Int64) (z_b : Int64) (z_v : Int64) (z_ep : Int32) (z_su : Int32) (a_buf : Nat) (z_by : Int32) (z_mo : Int32) (a_st : Nat) (a_bl : Nat) (a_fi : Nat) (a_ob : Nat) (a_si : Nat) (a_po : Nat) (a_pr : Nat) (a_an : Nat) (z_bk : Int32) (a_bo : Nat) (z_h : Int64) (z_st : Nat → Int32) (z_bl : Nat → Int64) (z_fi : Nat → Int32) (z_ob : Nat → Int32) (z_sg : Nat → Int64) (hP : va_P G.2.1 cl_all [(y_, .inr (4, [.int z_th, .long z_n, .long z_m, .long z_d, .long z_a, .long z_b, .long z_v, .int z_ep, .int z_su, .ref a_buf, .int z_by, .int z_mo, .ref a_st, .ref a_bl, .ref a_fi, .ref a_ob, .ref a_si, .ref a_po, .ref a_pr, .ref a_an, .int z_bk, .ref a_bo, .long z_h])), (a_st, .inl (G.2.2.1, 12, .inl z_st)), (a_bl, .inl (G.2.2.2.1, 12, .inr (.inl z_bl))), (a_fi, .inl (G.2.2.1, 12, .inl z_fi)), (a_ob, .inl (G.2.2.1, 12, .inl z_ob)), (a_si, .inl (G.2.2.2.1, 12, .inr (.inl z_sg)))] H) (hD0 : va_D (fun _ => True) [(y_, .inr (4, [.int z_th, .long z_n, .long z_m, .long z_d, .long z_a, .long z_b, .long z_v, .int z_ep, .int z_su, .ref a_buf, .int z_by, .int z_mo, .ref a_st, .ref a_bl, .ref a_fi, .ref a_ob, .ref a_si, .ref a_po, .ref a_pr, .ref a_an, .int z_bk, .ref a_bo, .long z_h])), (a_st, .inl (G.2.2.1, 12, .inl z_st)), (a_bl, .inl (G.2.2.2.1, 12, .inr (.inl z_bl))), (a_fi, .inl (G.2.2.1, 12, .inl z_fi)), (a_ob, .inl (G.2.2.1, 12, .inl z_ob)), (a_si, .inl (G.2.2.2.1, 12, .inr (.inl z_sg)))]) (hQ : z_mo.toInt ≤ 12) : xc_Met l y_MD_told (.code y_MD_told b_MD_told 3 (some .long)) ({ frames := 1, cells := 0, slots := 0, locals := 14 } : Room) (xg_Pc G [.ref y_, .int motion, .int what] H) (xw_post G (va_A [(y_, .inr (4, [.int z_th, .long z_n, .long z_m, .long z_d, .long z_a, .long z_b, .long z_v, .int z_ep, .int z_su, .ref a_buf, .int z_by, .int z_mo, .ref a_st, .ref a_bl, .ref a_fi, .ref a_ob, .ref a_si, .ref a_po, .ref a_pr, .ref a_an, .int z_bk, .ref a_bo, .long z_h])), (a_st, .inl (G.2.2.1, 12, .inl z_st)), (a_bl, .inl (G.2.2.2.1, 12, .inr (.inl z_bl))), (a_fi, .inl (G.2.2.1, 12, .inl z_fi)), (a_ob, .inl (G.2.2.1, 12, .inl z_ob)), (a_si, .inl (G.2.2.2.1, 12, .inr (.inl z_sg)))] H.size) (some (.long (f_MD_told motion what z_mo z_st z_bl z_fi z_ob z_sg))) [(y_, .inr (4, [.int (f_MD_told_thrownCode motion what z_mo), .long z_n, .long z_m, .long z_d, .long z_a, .long z_b, .long z_v, .int z_ep, .int z_su, .ref a_buf, .int z_by, .int z_mo, .ref a_st, .ref a_bl, .ref a_fi, .ref a_ob, .ref a_si, .ref a_po, .ref a_pr, .ref a_an, .int z_bk, .ref a_bo, .long z_h])), (a_st, .inl (G.2.2.1, 12, .inl z_st)), (a_bl, .inl (G.2.2.2.1, 12, .inr (.inl z_bl))), (a_fi, .inl (G.2.2.1, 12, .inl z_fi)), (a_ob, .inl (G.2.2.1, 12, .inl z_ob)), (a_si, .inl (G.2.2.2.1, 12, .inr (.inl z_sg)))]) (va_A [(y_, .inr (4, [.int z_th, .long z_n, .long z_m, .long z_d, .long z_a, .long z_b, .long z_v, .int z_ep, .int z_su, .ref a_buf, .int z_by, .int z_mo, .ref a_st, .ref a_bl, .ref a_fi, .ref a_ob, .ref a_si, .ref a_po, .ref a_pr, .ref a_an, .int z_bk, .ref a_bo, .long z_h])), (a_st, .inl (G.2.2.1, 12, .inl z_st)), (a_bl, .inl (G.2.2.2.1, 12, .inr (.inl z_bl))), (a_fi, .inl (G.2.2.1, 12, .inl z_fi)), (a_ob, .inl (G.2.2.1, 12, .inl z_ob)), (a_si, .inl (G.2.2.2.1, 12, .inr (.inl z_sg)))] H.size) := by
  refine xc_ofW (by decide) ?_
  intro p e s m args below meth c s₁ B hml hE hv
  obtain ⟨rfl, rfl, hw⟩ := hv
  have hx := B.exec
  have hb := B.bytes
  have ht := B.returns
  have hl0 := B.notSynchronized
  have S : xc_Fix p m c b_MD_told 3 s "SealTrustModel" := ⟨hx, hb, hml, findClass_of_methodNamed B.named⟩
  have hD := hD0.self (sz := s.heap.size)
  generalize hAe : va_A [(y_, .inr (4, [.int z_th, .long z_n, .long z_m, .long z_d, .long z_a, .long z_b, .long z_v, .int z_ep, .int z_su, .ref a_buf, .int z_by, .int z_mo, .ref a_st, .ref a_bl, .ref a_fi, .ref a_ob, .ref a_si, .ref a_po, .ref a_pr, .ref a_an, .int z_bk, .ref a_bo, .long z_h])), (a_st, .inl (G.2.2.1, 12, .inl z_st)), (a_bl, .inl (G.2.2.2.1, 12, .inr (.inl z_bl))), (a_fi, .inl (G.2.2.1, 12, .inl z_fi)), (a_ob, .inl (G.2.2.1, 12, .inl z_ob)), (a_si, .inl (G.2.2.2.1, 12, .inr (.inl z_sg)))] s.heap.size = A at hD ⊢
  have hA : ∀ q : Nat, s.heap.size ≤ q → A q := fun q h => by rw [← hAe]; exact Or.inr h
  have hS : va_S A s.heap s.heap [] := va_S.rf
  have hl := lv_entry ([.ref y_, .int motion, .int what]) (n := 3) (Nat.le_of_ble_eq_true rfl)
  rw [lg_entry_eq]
  generalize (lg_sl ([.ref y_, .int motion, .int what]) ++ List.replicate (3 - (lg_sl ([.ref y_, .int motion, .int what])).length) Slot.unset).toArray = ls at hl ⊢
  have hl : lv_has ls 3 [(0, .ref y_), (1, .int motion), (2, .int what)] := hl
  obtain ⟨r0, hr0⟩ : ∃ r, f_MD_told motion what z_mo z_st z_bl z_fi z_ob z_sg = r := ⟨_, rfl⟩
  rw [hr0]
  unfold f_MD_told at hr0
  obtain ⟨r1, hr1⟩ : ∃ r, f_MD_told_thrownCode motion what z_mo = r := ⟨_, rfl⟩
  rw [hr1]
  unfold f_MD_told_thrownCode at hr1
  refine lv_aload_n hx hb d_MD_told_0 rfl (lv_at hl 0 rfl) ?_
  refine lv_aload_n hx hb d_MD_told_1 rfl (lv_at hl 0 rfl) ?_
  refine lv_iload_n hx hb d_MD_told_2 rfl (lv_at hl 1 rfl) ?_
  refine xg_read (xg_runV (rest := [.ref y_]) (kw := 1) si_MD_142 hg hw S (va_recv (xg_k hg hw) hP (ci := 4) rfl (q0 := 0) rfl) (ct_MD_isMotion l hg s.heap y_ motion z_th z_n z_m z_d z_a z_b z_v z_ep z_su a_buf z_by z_mo a_st a_bl a_fi a_ob a_si a_po a_pr a_an z_bk a_bo z_h (hP.sub [0] rfl) ) ⟨by decide, by decide, by decide, by decide⟩ rfl hl.1 rfl (Nat.le_of_ble_eq_true rfl) d_MD_told_3) ?_
  refine lv_if_ne hx hb d_MD_told_6 (tgt := 13) (by decide) (fun h6 => ?_) (fun h6 => ?_)
  · rw [if_neg h6] at hr0
    rw [if_neg h6] at hr1
    refine lv_iload_n hx hb d_MD_told_13 rfl (lv_at hl 2 rfl) ?_
    refine lv_if_lt hx hb d_MD_told_14 (tgt := 22) (by decide) (fun h14 => ?_) (fun h14 => ?_)
    · rw [if_pos h14] at hr0
      rw [if_pos h14] at hr1
      refine lv_iconst (v := (2 : Int32)) hx hb d_MD_told_22 (by decide) ?_
      refine lv_goto hx hb d_MD_told_23 (tgt := 27) (by decide) ?_
      refine pf_MD_7 hg hw S hP hD hS 0 rfl rfl rfl (Nat.le_of_ble_eq_true rfl) d_MD_told_27 (fun H1 L1 hP hD hS => ?_)
      have hP : va_P G.2.1 cl_all [(y_, .inr (4, [.int (2 : Int32), .long z_n, .long z_m, .long z_d, .long z_a, .long z_b, .long z_v, .int z_ep, .int z_su, .ref a_buf, .int z_by, .int z_mo, .ref a_st, .ref a_bl, .ref a_fi, .ref a_ob, .ref a_si, .ref a_po, .ref a_pr, .ref a_an, .int z_bk, .ref a_bo, .long z_h])), (a_st, .inl (G.2.2.1, 12, .inl z_st)), (a_bl, .inl (G.2.2.2.1, 12, .inr (.inl z_bl))), (a_fi, .inl (G.2.2.1, 12, .inl z_fi)), (a_ob, .inl (G.2.2.1, 12, .inl z_ob)), (a_si, .inl (G.2.2.2.1, 12, .inr (.inl z_sg)))] H1 := hP
      have hD : va_D A [(y_, .inr (4, [.int (2 : Int32), .long z_n, .long z_m, .long z_d, .long z_a, .long z_b, .long z_v, .int z_ep, .int z_su, .ref a_buf, .int z_by, .int z_mo, .ref a_st, .ref a_bl, .ref a_fi, .ref a_ob, .ref a_si, .ref a_po, .ref a_pr, .ref a_an, .int z_bk, .ref a_bo, .long z_h])), (a_st, .inl (G.2.2.1, 12, .inl z_st)), (a_bl, .inl (G.2.2.2.1, 12, .inr (.inl z_bl))), (a_fi, .inl (G.2.2.1, 12, .inl z_fi)), (a_ob, .inl (G.2.2.1, 12, .inl z_ob)), (a_si, .inl (G.2.2.2.1, 12, .inr (.inl z_sg)))] := hD
      refine lv_aload_n hx hb d_MD_told_30 rfl (lv_at hl 0 rfl) ?_
      refine gf_MD_7 hg hw S hP 0 rfl rfl d_MD_told_31 ?_
      refine lv_if_eq hx hb d_MD_told_34 (tgt := 39) (by decide) (fun h34 => ?_) (fun h34 => ?_)
      · exact absurd h34 (by decide)
      · refine lv_lconst (v := (0 : Int64)) hx hb d_MD_told_37 (by decide) ?_
        subst hr0
        subst hr1
        exact xw_lret hx hb ht hl0 hP hD hS d_MD_told_38
    · rw [if_neg h14] at hr0
      rw [if_neg h14] at hr1
      refine lv_iload_n hx hb d_MD_told_17 rfl (lv_at hl 2 rfl) ?_
      refine lv_iconst (v := (4 : Int32)) hx hb d_MD_told_18 (by decide) ?_
      refine lv_icmp_le hx hb d_MD_told_19 (tgt := 26) (by decide) (fun h19 => ?_) (fun h19 => ?_)
      · rw [if_pos h19] at hr0
        rw [if_pos h19] at hr1
        refine lv_iconst (v := (0 : Int32)) hx hb d_MD_told_26 (by decide) ?_
        refine pf_MD_7 hg hw S hP hD hS 0 rfl rfl rfl (Nat.le_of_ble_eq_true rfl) d_MD_told_27 (fun H2 L2 hP hD hS => ?_)
        have hP : va_P G.2.1 cl_all [(y_, .inr (4, [.int (0 : Int32), .long z_n, .long z_m, .long z_d, .long z_a, .long z_b, .long z_v, .int z_ep, .int z_su, .ref a_buf, .int z_by, .int z_mo, .ref a_st, .ref a_bl, .ref a_fi, .ref a_ob, .ref a_si, .ref a_po, .ref a_pr, .ref a_an, .int z_bk, .ref a_bo, .long z_h])), (a_st, .inl (G.2.2.1, 12, .inl z_st)), (a_bl, .inl (G.2.2.2.1, 12, .inr (.inl z_bl))), (a_fi, .inl (G.2.2.1, 12, .inl z_fi)), (a_ob, .inl (G.2.2.1, 12, .inl z_ob)), (a_si, .inl (G.2.2.2.1, 12, .inr (.inl z_sg)))] H2 := hP
        have hD : va_D A [(y_, .inr (4, [.int (0 : Int32), .long z_n, .long z_m, .long z_d, .long z_a, .long z_b, .long z_v, .int z_ep, .int z_su, .ref a_buf, .int z_by, .int z_mo, .ref a_st, .ref a_bl, .ref a_fi, .ref a_ob, .ref a_si, .ref a_po, .ref a_pr, .ref a_an, .int z_bk, .ref a_bo, .long z_h])), (a_st, .inl (G.2.2.1, 12, .inl z_st)), (a_bl, .inl (G.2.2.2.1, 12, .inr (.inl z_bl))), (a_fi, .inl (G.2.2.1, 12, .inl z_fi)), (a_ob, .inl (G.2.2.1, 12, .inl z_ob)), (a_si, .inl (G.2.2.2.1, 12, .inr (.inl z_sg)))] := hD
        refine lv_aload_n hx hb d_MD_told_30 rfl (lv_at hl 0 rfl) ?_
        refine gf_MD_7 hg hw S hP 0 rfl rfl d_MD_told_31 ?_
        refine lv_if_eq hx hb d_MD_told_34 (tgt := 39) (by decide) (fun h34 => ?_) (fun h34 => ?_)
        · refine lv_iload_n hx hb d_MD_told_39 rfl (lv_at hl 2 rfl) ?_
          refine lv_if_ne hx hb d_MD_told_40 (tgt := 53) (by decide) (fun h40 => ?_) (fun h40 => ?_)
          · rw [if_neg h40] at hr0
            rw [if_neg h40] at hr1
            refine lv_iload_n hx hb d_MD_told_53 rfl (lv_at hl 2 rfl) ?_
            refine lv_iconst (v := (1 : Int32)) hx hb d_MD_told_54 (by decide) ?_
            refine lv_icmp_ne hx hb d_MD_told_55 (tgt := 67) (by decide) (fun h55 => ?_) (fun h55 => ?_)
            · rw [if_neg h55] at hr0
              rw [if_neg h55] at hr1
              refine lv_iload_n hx hb d_MD_told_67 rfl (lv_at hl 2 rfl) ?_
              refine lv_iconst (v := (2 : Int32)) hx hb d_MD_told_68 (by decide) ?_
              refine lv_icmp_ne hx hb d_MD_told_69 (tgt := 82) (by decide) (fun h69 => ?_) (fun h69 => ?_)
              · rw [if_neg h69] at hr0
                rw [if_neg h69] at hr1
                refine lv_iload_n hx hb d_MD_told_82 rfl (lv_at hl 2 rfl) ?_
                refine lv_iconst (v := (3 : Int32)) hx hb d_MD_told_83 (by decide) ?_
                refine lv_icmp_ne hx hb d_MD_told_84 (tgt := 97) (by decide) (fun h84 => ?_) (fun h84 => ?_)
                · rw [if_neg h84] at hr0
                  rw [if_neg h84] at hr1
                  refine lv_aload_n hx hb d_MD_told_97 rfl (lv_at hl 0 rfl) ?_
                  refine gf_MD_61 hg hw S hP 0 rfl rfl d_MD_told_98 ?_
                  refine lv_iload_n hx hb d_MD_told_101 rfl (lv_at hl 1 rfl) ?_
                  refine va_lald hx hb (xg_k hg hw) hP 5 1 rfl rfl (xs_isM h6 hQ) d_MD_told_102 ?_
                  subst hr0
                  subst hr1
                  exact xw_lret hx hb ht hl0 hP hD hS d_MD_told_103
                · rw [if_pos h84] at hr0
                  rw [if_pos h84] at hr1
                  refine lv_aload_n hx hb d_MD_told_87 rfl (lv_at hl 0 rfl) ?_
                  refine gf_MD_58 hg hw S hP 0 rfl rfl d_MD_told_88 ?_
                  refine lv_iload_n hx hb d_MD_told_91 rfl (lv_at hl 1 rfl) ?_
                  refine va_iald hx hb (xg_k hg hw) hP 4 0 rfl rfl (xs_isM h6 hQ) d_MD_told_92 ?_
                  refine lv_i2l hx hb d_MD_told_93 rfl ?_
                  refine lv_goto hx hb d_MD_told_94 (tgt := 103) (by decide) ?_
                  subst hr0
                  subst hr1
                  exact xw_lret hx hb ht hl0 hP hD hS d_MD_told_103
              · rw [if_pos h69] at hr0
                rw [if_pos h69] at hr1
                refine lv_aload_n hx hb d_MD_told_72 rfl (lv_at hl 0 rfl) ?_
                refine gf_MD_55 hg hw S hP 0 rfl rfl d_MD_told_73 ?_
                refine lv_iload_n hx hb d_MD_told_76 rfl (lv_at hl 1 rfl) ?_
                refine va_iald hx hb (xg_k hg hw) hP 3 0 rfl rfl (xs_isM h6 hQ) d_MD_told_77 ?_
                refine lv_i2l hx hb d_MD_told_78 rfl ?_
                refine lv_goto hx hb d_MD_told_79 (tgt := 103) (by decide) ?_
                subst hr0
                subst hr1
                exact xw_lret hx hb ht hl0 hP hD hS d_MD_told_103
            · rw [if_pos h55] at hr0
              rw [if_pos h55] at hr1
              refine lv_aload_n hx hb d_MD_told_58 rfl (lv_at hl 0 rfl) ?_
              refine gf_MD_51 hg hw S hP 0 rfl rfl d_MD_told_59 ?_
              refine lv_iload_n hx hb d_MD_told_62 rfl (lv_at hl 1 rfl) ?_
              refine va_lald hx hb (xg_k hg hw) hP 2 1 rfl rfl (xs_isM h6 hQ) d_MD_told_63 ?_
              refine lv_goto hx hb d_MD_told_64 (tgt := 103) (by decide) ?_
              subst hr0
              subst hr1
              exact xw_lret hx hb ht hl0 hP hD hS d_MD_told_103
          · rw [if_pos h40] at hr0
            rw [if_pos h40] at hr1
            refine lv_aload_n hx hb d_MD_told_43 rfl (lv_at hl 0 rfl) ?_
            refine gf_MD_48 hg hw S hP 0 rfl rfl d_MD_told_44 ?_
            refine lv_iload_n hx hb d_MD_told_47 rfl (lv_at hl 1 rfl) ?_
            refine va_iald hx hb (xg_k hg hw) hP 1 0 rfl rfl (xs_isM h6 hQ) d_MD_told_48 ?_
            refine lv_i2l hx hb d_MD_told_49 rfl ?_
            refine lv_goto hx hb d_MD_told_50 (tgt := 103) (by decide) ?_
            subst hr0
            subst hr1
            exact xw_lret hx hb ht hl0 hP hD hS d_MD_told_103
        · exact absurd h34 (by decide)
      · rw [if_neg h19] at hr0
        rw [if_neg h19] at hr1
        refine lv_iconst (v := (2 : Int32)) hx hb d_MD_told_22 (by decide) ?_
        refine lv_goto hx hb d_MD_told_23 (tgt := 27) (by decide) ?_
        refine pf_MD_7 hg hw S hP hD hS 0 rfl rfl rfl (Nat.le_of_ble_eq_true rfl) d_MD_told_27 (fun H3 L3 hP hD hS => ?_)
        have hP : va_P G.2.1 cl_all [(y_, .inr (4, [.int (2 : Int32), .long z_n, .long z_m, .long z_d, .long z_a, .long z_b, .long z_v, .int z_ep, .int z_su, .ref a_buf, .int z_by, .int z_mo, .ref a_st, .ref a_bl, .ref a_fi, .ref a_ob, .ref a_si, .ref a_po, .ref a_pr, .ref a_an, .int z_bk, .ref a_bo, .long z_h])), (a_st, .inl (G.2.2.1, 12, .inl z_st)), (a_bl, .inl (G.2.2.2.1, 12, .inr (.inl z_bl))), (a_fi, .inl (G.2.2.1, 12, .inl z_fi)), (a_ob, .inl (G.2.2.1, 12, .inl z_ob)), (a_si, .inl (G.2.2.2.1, 12, .inr (.inl z_sg)))] H3 := hP
        have hD : va_D A [(y_, .inr (4, [.int (2 : Int32), .long z_n, .long z_m, .long z_d, .long z_a, .long z_b, .long z_v, .int z_ep, .int z_su, .ref a_buf, .int z_by, .int z_mo, .ref a_st, .ref a_bl, .ref a_fi, .ref a_ob, .ref a_si, .ref a_po, .ref a_pr, .ref a_an, .int z_bk, .ref a_bo, .long z_h])), (a_st, .inl (G.2.2.1, 12, .inl z_st)), (a_bl, .inl (G.2.2.2.1, 12, .inr (.inl z_bl))), (a_fi, .inl (G.2.2.1, 12, .inl z_fi)), (a_ob, .inl (G.2.2.1, 12, .inl z_ob)), (a_si, .inl (G.2.2.2.1, 12, .inr (.inl z_sg)))] := hD
        refine lv_aload_n hx hb d_MD_told_30 rfl (lv_at hl 0 rfl) ?_
        refine gf_MD_7 hg hw S hP 0 rfl rfl d_MD_told_31 ?_
        refine lv_if_eq hx hb d_MD_told_34 (tgt := 39) (by decide) (fun h34 => ?_) (fun h34 => ?_)
        · exact absurd h34 (by decide)
        · refine lv_lconst (v := (0 : Int64)) hx hb d_MD_told_37 (by decide) ?_
          subst hr0
          subst hr1
          exact xw_lret hx hb ht hl0 hP hD hS d_MD_told_38
  · rw [if_pos h6] at hr0
    rw [if_pos h6] at hr1
    refine lv_iconst (v := (1 : Int32)) hx hb d_MD_told_9 (by decide) ?_
    refine lv_goto hx hb d_MD_told_10 (tgt := 27) (by decide) ?_
    refine pf_MD_7 hg hw S hP hD hS 0 rfl rfl rfl (Nat.le_of_ble_eq_true rfl) d_MD_told_27 (fun H4 L4 hP hD hS => ?_)
    have hP : va_P G.2.1 cl_all [(y_, .inr (4, [.int (1 : Int32), .long z_n, .long z_m, .long z_d, .long z_a, .long z_b, .long z_v, .int z_ep, .int z_su, .ref a_buf, .int z_by, .int z_mo, .ref a_st, .ref a_bl, .ref a_fi, .ref a_ob, .ref a_si, .ref a_po, .ref a_pr, .ref a_an, .int z_bk, .ref a_bo, .long z_h])), (a_st, .inl (G.2.2.1, 12, .inl z_st)), (a_bl, .inl (G.2.2.2.1, 12, .inr (.inl z_bl))), (a_fi, .inl (G.2.2.1, 12, .inl z_fi)), (a_ob, .inl (G.2.2.1, 12, .inl z_ob)), (a_si, .inl (G.2.2.2.1, 12, .inr (.inl z_sg)))] H4 := hP
    have hD : va_D A [(y_, .inr (4, [.int (1 : Int32), .long z_n, .long z_m, .long z_d, .long z_a, .long z_b, .long z_v, .int z_ep, .int z_su, .ref a_buf, .int z_by, .int z_mo, .ref a_st, .ref a_bl, .ref a_fi, .ref a_ob, .ref a_si, .ref a_po, .ref a_pr, .ref a_an, .int z_bk, .ref a_bo, .long z_h])), (a_st, .inl (G.2.2.1, 12, .inl z_st)), (a_bl, .inl (G.2.2.2.1, 12, .inr (.inl z_bl))), (a_fi, .inl (G.2.2.1, 12, .inl z_fi)), (a_ob, .inl (G.2.2.1, 12, .inl z_ob)), (a_si, .inl (G.2.2.2.1, 12, .inr (.inl z_sg)))] := hD
    refine lv_aload_n hx hb d_MD_told_30 rfl (lv_at hl 0 rfl) ?_
    refine gf_MD_7 hg hw S hP 0 rfl rfl d_MD_told_31 ?_
    refine lv_if_eq hx hb d_MD_told_34 (tgt := 39) (by decide) (fun h34 => ?_) (fun h34 => ?_)
    · exact absurd h34 (by decide)
    · refine lv_lconst (v := (0 : Int64)) hx hb d_MD_told_37 (by decide) ?_
      subst hr0
      subst hr1
      exact xw_lret hx hb ht hl0 hP hD hS d_MD_told_38
def f_MD_book (n_ : Int32) (z_bk : Int32) (z_bo : Nat → Int32) : Int32 := if 0 ≤ n_ then (if z_bk ≤ n_ then (-1 : Int32) else (z_bo n_.toNatClampNeg)) else (0 : Int32)
def f_MD_book_thrownCode (n_ : Int32) (z_bk : Int32) : Int32 := if 0 ≤ n_ then (if z_bk ≤ n_ then (0 : Int32) else (0 : Int32)) else (1 : Int32)
set_option maxHeartbeats 4000000 in
set_option maxRecDepth 100000 in
theorem ct_MD_book (l : Launch) {G : xg_G} (hg : xg_F G) (H : Heap) (y_ : Nat) (n_ : Int32) (z_th : Int32) (z_n : Int64) (z_m : Int64) (z_d : Int64) (z_a : Int64) (z_b : Int64) (z_v : Int64) (z_ep : Int32) (z_su : Int32) (a_buf : Nat) (z_by : Int32) (z_mo : Int32) (a_st : Nat) (a_bl : Nat) (a_fi : Nat) (a_ob : Nat) (a_si : Nat) (a_po : Nat) (a_pr : Nat) (a_an : Nat) (z_bk : Int32) (a_bo : Nat) (z_h : Int64) (z_bo : Nat → Int32) (hP : va_P G.2.1 cl_all [(y_, .inr (4, [.int z_th, .long z_n, .long z_m, .long z_d, .long z_a, .long z_b, .long z_v, .int z_ep, .int z_su, .ref a_buf, .int z_by, .int z_mo, .ref a_st, .ref a_bl, .ref a_fi, .ref a_ob, .ref a_si, .ref a_po, .ref a_pr, .ref a_an, .int z_bk, .ref a_bo, .long z_h])), (a_bo, .inl (G.2.2.1, 12, .inl z_bo))] H) (hD0 : va_D (fun _ => True) [(y_, .inr (4, [.int z_th, .long z_n, .long z_m, .long z_d, .long z_a, .long z_b, .long z_v, .int z_ep, .int z_su, .ref a_buf, .int z_by, .int z_mo, .ref a_st, .ref a_bl, .ref a_fi, .ref a_ob, .ref a_si, .ref a_po, .ref a_pr, .ref a_an, .int z_bk, .ref a_bo, .long z_h])), (a_bo, .inl (G.2.2.1, 12, .inl z_bo))]) (hB : z_bk.toInt ≤ 12) : xc_Met l y_MD_book (.code y_MD_book b_MD_book 2 (some .int)) ({ frames := 0, cells := 0, slots := 0, locals := 0 } : Room) (xg_Pc G [.ref y_, .int n_] H) (xw_post G (va_A [(y_, .inr (4, [.int z_th, .long z_n, .long z_m, .long z_d, .long z_a, .long z_b, .long z_v, .int z_ep, .int z_su, .ref a_buf, .int z_by, .int z_mo, .ref a_st, .ref a_bl, .ref a_fi, .ref a_ob, .ref a_si, .ref a_po, .ref a_pr, .ref a_an, .int z_bk, .ref a_bo, .long z_h])), (a_bo, .inl (G.2.2.1, 12, .inl z_bo))] H.size) (some (.int (f_MD_book n_ z_bk z_bo))) [(y_, .inr (4, [.int (f_MD_book_thrownCode n_ z_bk), .long z_n, .long z_m, .long z_d, .long z_a, .long z_b, .long z_v, .int z_ep, .int z_su, .ref a_buf, .int z_by, .int z_mo, .ref a_st, .ref a_bl, .ref a_fi, .ref a_ob, .ref a_si, .ref a_po, .ref a_pr, .ref a_an, .int z_bk, .ref a_bo, .long z_h])), (a_bo, .inl (G.2.2.1, 12, .inl z_bo))]) (va_A [(y_, .inr (4, [.int z_th, .long z_n, .long z_m, .long z_d, .long z_a, .long z_b, .long z_v, .int z_ep, .int z_su, .ref a_buf, .int z_by, .int z_mo, .ref a_st, .ref a_bl, .ref a_fi, .ref a_ob, .ref a_si, .ref a_po, .ref a_pr, .ref a_an, .int z_bk, .ref a_bo, .long z_h])), (a_bo, .inl (G.2.2.1, 12, .inl z_bo))] H.size) := by
  refine xc_ofW (by decide) ?_
  intro p e s m args below meth c s₁ B hml hE hv
  obtain ⟨rfl, rfl, hw⟩ := hv
  have hx := B.exec
  have hb := B.bytes
  have ht := B.returns
  have hl0 := B.notSynchronized
  have S : xc_Fix p m c b_MD_book 2 s "SealTrustModel" := ⟨hx, hb, hml, findClass_of_methodNamed B.named⟩
  have hD := hD0.self (sz := s.heap.size)
  generalize hAe : va_A [(y_, .inr (4, [.int z_th, .long z_n, .long z_m, .long z_d, .long z_a, .long z_b, .long z_v, .int z_ep, .int z_su, .ref a_buf, .int z_by, .int z_mo, .ref a_st, .ref a_bl, .ref a_fi, .ref a_ob, .ref a_si, .ref a_po, .ref a_pr, .ref a_an, .int z_bk, .ref a_bo, .long z_h])), (a_bo, .inl (G.2.2.1, 12, .inl z_bo))] s.heap.size = A at hD ⊢
  have hA : ∀ q : Nat, s.heap.size ≤ q → A q := fun q h => by rw [← hAe]; exact Or.inr h
  have hS : va_S A s.heap s.heap [] := va_S.rf
  have hl := lv_entry ([.ref y_, .int n_]) (n := 2) (Nat.le_of_ble_eq_true rfl)
  rw [lg_entry_eq]
  generalize (lg_sl ([.ref y_, .int n_]) ++ List.replicate (2 - (lg_sl ([.ref y_, .int n_])).length) Slot.unset).toArray = ls at hl ⊢
  have hl : lv_has ls 2 [(0, .ref y_), (1, .int n_)] := hl
  obtain ⟨r0, hr0⟩ : ∃ r, f_MD_book n_ z_bk z_bo = r := ⟨_, rfl⟩
  rw [hr0]
  unfold f_MD_book at hr0
  obtain ⟨r1, hr1⟩ : ∃ r, f_MD_book_thrownCode n_ z_bk = r := ⟨_, rfl⟩
  rw [hr1]
  unfold f_MD_book_thrownCode at hr1
  refine lv_aload_n hx hb d_MD_book_0 rfl (lv_at hl 0 rfl) ?_
  refine lv_iload_n hx hb d_MD_book_1 rfl (lv_at hl 1 rfl) ?_
  refine lv_if_ge hx hb d_MD_book_2 (tgt := 9) (by decide) (fun h2 => ?_) (fun h2 => ?_)
  · rw [if_pos h2] at hr0
    rw [if_pos h2] at hr1
    refine lv_iconst (v := (0 : Int32)) hx hb d_MD_book_9 (by decide) ?_
    refine pf_MD_7 hg hw S hP hD hS 0 rfl rfl rfl (Nat.le_of_ble_eq_true rfl) d_MD_book_10 (fun H1 L1 hP hD hS => ?_)
    have hP : va_P G.2.1 cl_all [(y_, .inr (4, [.int (0 : Int32), .long z_n, .long z_m, .long z_d, .long z_a, .long z_b, .long z_v, .int z_ep, .int z_su, .ref a_buf, .int z_by, .int z_mo, .ref a_st, .ref a_bl, .ref a_fi, .ref a_ob, .ref a_si, .ref a_po, .ref a_pr, .ref a_an, .int z_bk, .ref a_bo, .long z_h])), (a_bo, .inl (G.2.2.1, 12, .inl z_bo))] H1 := hP
    have hD : va_D A [(y_, .inr (4, [.int (0 : Int32), .long z_n, .long z_m, .long z_d, .long z_a, .long z_b, .long z_v, .int z_ep, .int z_su, .ref a_buf, .int z_by, .int z_mo, .ref a_st, .ref a_bl, .ref a_fi, .ref a_ob, .ref a_si, .ref a_po, .ref a_pr, .ref a_an, .int z_bk, .ref a_bo, .long z_h])), (a_bo, .inl (G.2.2.1, 12, .inl z_bo))] := hD
    refine lv_aload_n hx hb d_MD_book_13 rfl (lv_at hl 0 rfl) ?_
    refine gf_MD_7 hg hw S hP 0 rfl rfl d_MD_book_14 ?_
    refine lv_if_eq hx hb d_MD_book_17 (tgt := 24) (by decide) (fun h17 => ?_) (fun h17 => ?_)
    · refine lv_iload_n hx hb d_MD_book_24 rfl (lv_at hl 1 rfl) ?_
      refine lv_aload_n hx hb d_MD_book_25 rfl (lv_at hl 0 rfl) ?_
      refine gf_MD_73 hg hw S hP 0 rfl rfl d_MD_book_26 ?_
      refine lv_icmp_ge hx hb d_MD_book_29 (tgt := 41) (by decide) (fun h29 => ?_) (fun h29 => ?_)
      · rw [if_pos h29] at hr0
        rw [if_pos h29] at hr1
        refine lv_iconst (v := (-1 : Int32)) hx hb d_MD_book_41 (by decide) ?_
        subst hr0
        subst hr1
        exact xw_iret hx hb ht hl0 hP hD hS d_MD_book_42
      · rw [if_neg h29] at hr0
        rw [if_neg h29] at hr1
        refine lv_aload_n hx hb d_MD_book_32 rfl (lv_at hl 0 rfl) ?_
        refine gf_MD_76 hg hw S hP 0 rfl rfl d_MD_book_33 ?_
        refine lv_iload_n hx hb d_MD_book_36 rfl (lv_at hl 1 rfl) ?_
        refine va_iald hx hb (xg_k hg hw) hP 1 0 rfl rfl (xs_min2 h2 h29 hB) d_MD_book_37 ?_
        refine lv_goto hx hb d_MD_book_38 (tgt := 42) (by decide) ?_
        subst hr0
        subst hr1
        exact xw_iret hx hb ht hl0 hP hD hS d_MD_book_42
    · exact absurd h17 (by decide)
  · rw [if_neg h2] at hr0
    rw [if_neg h2] at hr1
    refine lv_iconst (v := (1 : Int32)) hx hb d_MD_book_5 (by decide) ?_
    refine lv_goto hx hb d_MD_book_6 (tgt := 10) (by decide) ?_
    refine pf_MD_7 hg hw S hP hD hS 0 rfl rfl rfl (Nat.le_of_ble_eq_true rfl) d_MD_book_10 (fun H2 L2 hP hD hS => ?_)
    have hP : va_P G.2.1 cl_all [(y_, .inr (4, [.int (1 : Int32), .long z_n, .long z_m, .long z_d, .long z_a, .long z_b, .long z_v, .int z_ep, .int z_su, .ref a_buf, .int z_by, .int z_mo, .ref a_st, .ref a_bl, .ref a_fi, .ref a_ob, .ref a_si, .ref a_po, .ref a_pr, .ref a_an, .int z_bk, .ref a_bo, .long z_h])), (a_bo, .inl (G.2.2.1, 12, .inl z_bo))] H2 := hP
    have hD : va_D A [(y_, .inr (4, [.int (1 : Int32), .long z_n, .long z_m, .long z_d, .long z_a, .long z_b, .long z_v, .int z_ep, .int z_su, .ref a_buf, .int z_by, .int z_mo, .ref a_st, .ref a_bl, .ref a_fi, .ref a_ob, .ref a_si, .ref a_po, .ref a_pr, .ref a_an, .int z_bk, .ref a_bo, .long z_h])), (a_bo, .inl (G.2.2.1, 12, .inl z_bo))] := hD
    refine lv_aload_n hx hb d_MD_book_13 rfl (lv_at hl 0 rfl) ?_
    refine gf_MD_7 hg hw S hP 0 rfl rfl d_MD_book_14 ?_
    refine lv_if_eq hx hb d_MD_book_17 (tgt := 24) (by decide) (fun h17 => ?_) (fun h17 => ?_)
    · exact absurd h17 (by decide)
    · refine lv_iconst (v := (0 : Int32)) hx hb d_MD_book_20 (by decide) ?_
      refine lv_goto hx hb d_MD_book_21 (tgt := 42) (by decide) ?_
      subst hr0
      subst hr1
      exact xw_iret hx hb ht hl0 hP hD hS d_MD_book_42
def f_MD_state (what : Int32) (z_n : Int64) (z_m : Int64) (z_d : Int64) (z_a : Int64) (z_b : Int64) (z_v : Int64) (z_ep : Int32) (z_su : Int32) (z_by : Int32) (z_mo : Int32) : Int64 := if what < 0 then (0 : Int64) else (if what ≤ (10 : Int32) then (if what = (4 : Int32) then z_by.toInt64 else (if z_n = (0 : Int64) then (0 : Int64) else (if what = 0 then z_n else (if what = (1 : Int32) then z_ep.toInt64 else (if what = (2 : Int32) then z_mo.toInt64 else (if what = (3 : Int32) then z_su.toInt64 else (f_MD_check (what - (5 : Int32)) z_n z_m z_d z_a z_b z_v))))))) else (0 : Int64))
def f_MD_state_thrownCode (what : Int32) (z_n : Int64) : Int32 := if what < 0 then (1 : Int32) else (if what ≤ (10 : Int32) then (if what = (4 : Int32) then (0 : Int32) else (if z_n = (0 : Int64) then (0 : Int32) else (if what = 0 then (0 : Int32) else (if what = (1 : Int32) then (0 : Int32) else (if what = (2 : Int32) then (0 : Int32) else (if what = (3 : Int32) then (0 : Int32) else (0 : Int32))))))) else (1 : Int32))
set_option maxHeartbeats 4000000 in
set_option maxRecDepth 100000 in
theorem ct_MD_state (l : Launch) {G : xg_G} (hg : xg_F G) (H : Heap) (y_ : Nat) (what : Int32) (z_th : Int32) (z_n : Int64) (z_m : Int64) (z_d : Int64) (z_a : Int64) (z_b : Int64) (z_v : Int64) (z_ep : Int32) (z_su : Int32) (a_buf : Nat) (z_by : Int32) (z_mo : Int32) (a_st : Nat) (a_bl : Nat) (a_fi : Nat) (a_ob : Nat) (a_si : Nat) (a_po : Nat) (a_pr : Nat) (a_an : Nat) (z_bk : Int32) (a_bo : Nat) (z_h : Int64) (hP : va_P G.2.1 cl_all [(y_, .inr (4, [.int z_th, .long z_n, .long z_m, .long z_d, .long z_a, .long z_b, .long z_v, .int z_ep, .int z_su, .ref a_buf, .int z_by, .int z_mo, .ref a_st, .ref a_bl, .ref a_fi, .ref a_ob, .ref a_si, .ref a_po, .ref a_pr, .ref a_an, .int z_bk, .ref a_bo, .long z_h]))] H) (hD0 : va_D (fun _ => True) [(y_, .inr (4, [.int z_th, .long z_n, .long z_m, .long z_d, .long z_a, .long z_b, .long z_v, .int z_ep, .int z_su, .ref a_buf, .int z_by, .int z_mo, .ref a_st, .ref a_bl, .ref a_fi, .ref a_ob, .ref a_si, .ref a_po, .ref a_pr, .ref a_an, .int z_bk, .ref a_bo, .long z_h]))]) (hN : ¬ z_n = 0 → ¬ z_m = 0) : xc_Met l y_MD_state (.code y_MD_state b_MD_state 2 (some .long)) ({ frames := 2, cells := 0, slots := 0, locals := 36 } : Room) (xg_Pc G [.ref y_, .int what] H) (xw_post G (va_A [(y_, .inr (4, [.int z_th, .long z_n, .long z_m, .long z_d, .long z_a, .long z_b, .long z_v, .int z_ep, .int z_su, .ref a_buf, .int z_by, .int z_mo, .ref a_st, .ref a_bl, .ref a_fi, .ref a_ob, .ref a_si, .ref a_po, .ref a_pr, .ref a_an, .int z_bk, .ref a_bo, .long z_h]))] H.size) (some (.long (f_MD_state what z_n z_m z_d z_a z_b z_v z_ep z_su z_by z_mo))) [(y_, .inr (4, [.int (f_MD_state_thrownCode what z_n), .long z_n, .long z_m, .long z_d, .long z_a, .long z_b, .long z_v, .int z_ep, .int z_su, .ref a_buf, .int z_by, .int z_mo, .ref a_st, .ref a_bl, .ref a_fi, .ref a_ob, .ref a_si, .ref a_po, .ref a_pr, .ref a_an, .int z_bk, .ref a_bo, .long z_h]))]) (va_A [(y_, .inr (4, [.int z_th, .long z_n, .long z_m, .long z_d, .long z_a, .long z_b, .long z_v, .int z_ep, .int z_su, .ref a_buf, .int z_by, .int z_mo, .ref a_st, .ref a_bl, .ref a_fi, .ref a_ob, .ref a_si, .ref a_po, .ref a_pr, .ref a_an, .int z_bk, .ref a_bo, .long z_h]))] H.size) := by
  refine xc_ofW (by decide) ?_
  intro p e s m args below meth c s₁ B hml hE hv
  obtain ⟨rfl, rfl, hw⟩ := hv
  have hx := B.exec
  have hb := B.bytes
  have ht := B.returns
  have hl0 := B.notSynchronized
  have S : xc_Fix p m c b_MD_state 2 s "SealTrustModel" := ⟨hx, hb, hml, findClass_of_methodNamed B.named⟩
  have hD := hD0.self (sz := s.heap.size)
  generalize hAe : va_A [(y_, .inr (4, [.int z_th, .long z_n, .long z_m, .long z_d, .long z_a, .long z_b, .long z_v, .int z_ep, .int z_su, .ref a_buf, .int z_by, .int z_mo, .ref a_st, .ref a_bl, .ref a_fi, .ref a_ob, .ref a_si, .ref a_po, .ref a_pr, .ref a_an, .int z_bk, .ref a_bo, .long z_h]))] s.heap.size = A at hD ⊢
  have hA : ∀ q : Nat, s.heap.size ≤ q → A q := fun q h => by rw [← hAe]; exact Or.inr h
  have hS : va_S A s.heap s.heap [] := va_S.rf
  have hl := lv_entry ([.ref y_, .int what]) (n := 2) (Nat.le_of_ble_eq_true rfl)
  rw [lg_entry_eq]
  generalize (lg_sl ([.ref y_, .int what]) ++ List.replicate (2 - (lg_sl ([.ref y_, .int what])).length) Slot.unset).toArray = ls at hl ⊢
  have hl : lv_has ls 2 [(0, .ref y_), (1, .int what)] := hl
  obtain ⟨r0, hr0⟩ : ∃ r, f_MD_state what z_n z_m z_d z_a z_b z_v z_ep z_su z_by z_mo = r := ⟨_, rfl⟩
  rw [hr0]
  unfold f_MD_state at hr0
  obtain ⟨r1, hr1⟩ : ∃ r, f_MD_state_thrownCode what z_n = r := ⟨_, rfl⟩
  rw [hr1]
  unfold f_MD_state_thrownCode at hr1
  refine lv_aload_n hx hb d_MD_state_0 rfl (lv_at hl 0 rfl) ?_
  refine lv_iload_n hx hb d_MD_state_1 rfl (lv_at hl 1 rfl) ?_
  refine lv_if_lt hx hb d_MD_state_2 (tgt := 11) (by decide) (fun h2 => ?_) (fun h2 => ?_)
  · rw [if_pos h2] at hr0
    rw [if_pos h2] at hr1
    refine lv_iconst (v := (1 : Int32)) hx hb d_MD_state_11 (by decide) ?_
    refine lv_goto hx hb d_MD_state_12 (tgt := 16) (by decide) ?_
    refine pf_MD_7 hg hw S hP hD hS 0 rfl rfl rfl (Nat.le_of_ble_eq_true rfl) d_MD_state_16 (fun H1 L1 hP hD hS => ?_)
    have hP : va_P G.2.1 cl_all [(y_, .inr (4, [.int (1 : Int32), .long z_n, .long z_m, .long z_d, .long z_a, .long z_b, .long z_v, .int z_ep, .int z_su, .ref a_buf, .int z_by, .int z_mo, .ref a_st, .ref a_bl, .ref a_fi, .ref a_ob, .ref a_si, .ref a_po, .ref a_pr, .ref a_an, .int z_bk, .ref a_bo, .long z_h]))] H1 := hP
    have hD : va_D A [(y_, .inr (4, [.int (1 : Int32), .long z_n, .long z_m, .long z_d, .long z_a, .long z_b, .long z_v, .int z_ep, .int z_su, .ref a_buf, .int z_by, .int z_mo, .ref a_st, .ref a_bl, .ref a_fi, .ref a_ob, .ref a_si, .ref a_po, .ref a_pr, .ref a_an, .int z_bk, .ref a_bo, .long z_h]))] := hD
    refine lv_aload_n hx hb d_MD_state_19 rfl (lv_at hl 0 rfl) ?_
    refine gf_MD_7 hg hw S hP 0 rfl rfl d_MD_state_20 ?_
    refine lv_if_eq hx hb d_MD_state_23 (tgt := 28) (by decide) (fun h23 => ?_) (fun h23 => ?_)
    · exact absurd h23 (by decide)
    · refine lv_lconst (v := (0 : Int64)) hx hb d_MD_state_26 (by decide) ?_
      subst hr0
      subst hr1
      exact xw_lret hx hb ht hl0 hP hD hS d_MD_state_27
  · rw [if_neg h2] at hr0
    rw [if_neg h2] at hr1
    refine lv_iload_n hx hb d_MD_state_5 rfl (lv_at hl 1 rfl) ?_
    refine lv_bipush (v := (10 : Int32)) hx hb d_MD_state_6 (by decide) ?_
    refine lv_icmp_le hx hb d_MD_state_8 (tgt := 15) (by decide) (fun h8 => ?_) (fun h8 => ?_)
    · rw [if_pos h8] at hr0
      rw [if_pos h8] at hr1
      refine lv_iconst (v := (0 : Int32)) hx hb d_MD_state_15 (by decide) ?_
      refine pf_MD_7 hg hw S hP hD hS 0 rfl rfl rfl (Nat.le_of_ble_eq_true rfl) d_MD_state_16 (fun H2 L2 hP hD hS => ?_)
      have hP : va_P G.2.1 cl_all [(y_, .inr (4, [.int (0 : Int32), .long z_n, .long z_m, .long z_d, .long z_a, .long z_b, .long z_v, .int z_ep, .int z_su, .ref a_buf, .int z_by, .int z_mo, .ref a_st, .ref a_bl, .ref a_fi, .ref a_ob, .ref a_si, .ref a_po, .ref a_pr, .ref a_an, .int z_bk, .ref a_bo, .long z_h]))] H2 := hP
      have hD : va_D A [(y_, .inr (4, [.int (0 : Int32), .long z_n, .long z_m, .long z_d, .long z_a, .long z_b, .long z_v, .int z_ep, .int z_su, .ref a_buf, .int z_by, .int z_mo, .ref a_st, .ref a_bl, .ref a_fi, .ref a_ob, .ref a_si, .ref a_po, .ref a_pr, .ref a_an, .int z_bk, .ref a_bo, .long z_h]))] := hD
      refine lv_aload_n hx hb d_MD_state_19 rfl (lv_at hl 0 rfl) ?_
      refine gf_MD_7 hg hw S hP 0 rfl rfl d_MD_state_20 ?_
      refine lv_if_eq hx hb d_MD_state_23 (tgt := 28) (by decide) (fun h23 => ?_) (fun h23 => ?_)
      · refine lv_iload_n hx hb d_MD_state_28 rfl (lv_at hl 1 rfl) ?_
        refine lv_iconst (v := (4 : Int32)) hx hb d_MD_state_29 (by decide) ?_
        refine lv_icmp_ne hx hb d_MD_state_30 (tgt := 39) (by decide) (fun h30 => ?_) (fun h30 => ?_)
        · rw [if_neg h30] at hr0
          rw [if_neg h30] at hr1
          refine lv_aload_n hx hb d_MD_state_39 rfl (lv_at hl 0 rfl) ?_
          refine gf_MD_13 hg hw S hP 0 rfl rfl d_MD_state_40 ?_
          refine lv_lconst (v := (0 : Int64)) hx hb d_MD_state_43 (by decide) ?_
          refine W.lcmp hx hb d_MD_state_44 ?_
          refine lv_if_ne hx hb d_MD_state_45 (tgt := 50) (by decide) (fun h45 => ?_) (fun h45 => ?_)
          · rw [lg_cmp_eq] at h45
            rw [if_neg h45] at hr0
            rw [if_neg h45] at hr1
            refine lv_iload_n hx hb d_MD_state_50 rfl (lv_at hl 1 rfl) ?_
            refine lv_if_ne hx hb d_MD_state_51 (tgt := 61) (by decide) (fun h51 => ?_) (fun h51 => ?_)
            · rw [if_neg h51] at hr0
              rw [if_neg h51] at hr1
              refine lv_iload_n hx hb d_MD_state_61 rfl (lv_at hl 1 rfl) ?_
              refine lv_iconst (v := (1 : Int32)) hx hb d_MD_state_62 (by decide) ?_
              refine lv_icmp_ne hx hb d_MD_state_63 (tgt := 74) (by decide) (fun h63 => ?_) (fun h63 => ?_)
              · rw [if_neg h63] at hr0
                rw [if_neg h63] at hr1
                refine lv_iload_n hx hb d_MD_state_74 rfl (lv_at hl 1 rfl) ?_
                refine lv_iconst (v := (2 : Int32)) hx hb d_MD_state_75 (by decide) ?_
                refine lv_icmp_ne hx hb d_MD_state_76 (tgt := 87) (by decide) (fun h76 => ?_) (fun h76 => ?_)
                · rw [if_neg h76] at hr0
                  rw [if_neg h76] at hr1
                  refine lv_iload_n hx hb d_MD_state_87 rfl (lv_at hl 1 rfl) ?_
                  refine lv_iconst (v := (3 : Int32)) hx hb d_MD_state_88 (by decide) ?_
                  refine lv_icmp_ne hx hb d_MD_state_89 (tgt := 100) (by decide) (fun h89 => ?_) (fun h89 => ?_)
                  · rw [if_neg h89] at hr0
                    rw [if_neg h89] at hr1
                    refine lv_aload_n hx hb d_MD_state_100 rfl (lv_at hl 0 rfl) ?_
                    refine lv_iload_n hx hb d_MD_state_101 rfl (lv_at hl 1 rfl) ?_
                    refine lv_iconst (v := (5 : Int32)) hx hb d_MD_state_102 (by decide) ?_
                    refine lv_isub hx hb d_MD_state_103 ?_
                    refine xg_read (xg_runV (rest := []) (kw := 0) si_MD_119 hg hw S (va_recv (xg_k hg hw) hP (ci := 4) rfl (q0 := 0) rfl) (ct_MD_check l hg H2 y_ (what - (5 : Int32)) (0 : Int32) z_n z_m z_d z_a z_b z_v z_ep z_su a_buf z_by z_mo a_st a_bl a_fi a_ob a_si a_po a_pr a_an z_bk a_bo z_h (hP.sub [0] rfl) (hN h45) h45) ⟨by decide, by decide, by decide, by decide⟩ rfl hl.1 rfl (Nat.le_of_ble_eq_true rfl) d_MD_state_104) ?_
                    subst hr0
                    subst hr1
                    exact xw_lret hx hb ht hl0 hP hD hS d_MD_state_107
                  · rw [if_pos h89] at hr0
                    rw [if_pos h89] at hr1
                    refine lv_aload_n hx hb d_MD_state_92 rfl (lv_at hl 0 rfl) ?_
                    refine gf_MD_35 hg hw S hP 0 rfl rfl d_MD_state_93 ?_
                    refine lv_i2l hx hb d_MD_state_96 rfl ?_
                    refine lv_goto hx hb d_MD_state_97 (tgt := 107) (by decide) ?_
                    subst hr0
                    subst hr1
                    exact xw_lret hx hb ht hl0 hP hD hS d_MD_state_107
                · rw [if_pos h76] at hr0
                  rw [if_pos h76] at hr1
                  refine lv_aload_n hx hb d_MD_state_79 rfl (lv_at hl 0 rfl) ?_
                  refine gf_MD_45 hg hw S hP 0 rfl rfl d_MD_state_80 ?_
                  refine lv_i2l hx hb d_MD_state_83 rfl ?_
                  refine lv_goto hx hb d_MD_state_84 (tgt := 107) (by decide) ?_
                  subst hr0
                  subst hr1
                  exact xw_lret hx hb ht hl0 hP hD hS d_MD_state_107
              · rw [if_pos h63] at hr0
                rw [if_pos h63] at hr1
                refine lv_aload_n hx hb d_MD_state_66 rfl (lv_at hl 0 rfl) ?_
                refine gf_MD_32 hg hw S hP 0 rfl rfl d_MD_state_67 ?_
                refine lv_i2l hx hb d_MD_state_70 rfl ?_
                refine lv_goto hx hb d_MD_state_71 (tgt := 107) (by decide) ?_
                subst hr0
                subst hr1
                exact xw_lret hx hb ht hl0 hP hD hS d_MD_state_107
            · rw [if_pos h51] at hr0
              rw [if_pos h51] at hr1
              refine lv_aload_n hx hb d_MD_state_54 rfl (lv_at hl 0 rfl) ?_
              refine gf_MD_13 hg hw S hP 0 rfl rfl d_MD_state_55 ?_
              refine lv_goto hx hb d_MD_state_58 (tgt := 107) (by decide) ?_
              subst hr0
              subst hr1
              exact xw_lret hx hb ht hl0 hP hD hS d_MD_state_107
          · rw [lg_cmp_eq] at h45
            rw [if_pos h45] at hr0
            rw [if_pos h45] at hr1
            refine lv_lconst (v := (0 : Int64)) hx hb d_MD_state_48 (by decide) ?_
            subst hr0
            subst hr1
            exact xw_lret hx hb ht hl0 hP hD hS d_MD_state_49
        · rw [if_pos h30] at hr0
          rw [if_pos h30] at hr1
          refine lv_aload_n hx hb d_MD_state_33 rfl (lv_at hl 0 rfl) ?_
          refine gf_MD_42 hg hw S hP 0 rfl rfl d_MD_state_34 ?_
          refine lv_i2l hx hb d_MD_state_37 rfl ?_
          subst hr0
          subst hr1
          exact xw_lret hx hb ht hl0 hP hD hS d_MD_state_38
      · exact absurd h23 (by decide)
    · rw [if_neg h8] at hr0
      rw [if_neg h8] at hr1
      refine lv_iconst (v := (1 : Int32)) hx hb d_MD_state_11 (by decide) ?_
      refine lv_goto hx hb d_MD_state_12 (tgt := 16) (by decide) ?_
      refine pf_MD_7 hg hw S hP hD hS 0 rfl rfl rfl (Nat.le_of_ble_eq_true rfl) d_MD_state_16 (fun H3 L3 hP hD hS => ?_)
      have hP : va_P G.2.1 cl_all [(y_, .inr (4, [.int (1 : Int32), .long z_n, .long z_m, .long z_d, .long z_a, .long z_b, .long z_v, .int z_ep, .int z_su, .ref a_buf, .int z_by, .int z_mo, .ref a_st, .ref a_bl, .ref a_fi, .ref a_ob, .ref a_si, .ref a_po, .ref a_pr, .ref a_an, .int z_bk, .ref a_bo, .long z_h]))] H3 := hP
      have hD : va_D A [(y_, .inr (4, [.int (1 : Int32), .long z_n, .long z_m, .long z_d, .long z_a, .long z_b, .long z_v, .int z_ep, .int z_su, .ref a_buf, .int z_by, .int z_mo, .ref a_st, .ref a_bl, .ref a_fi, .ref a_ob, .ref a_si, .ref a_po, .ref a_pr, .ref a_an, .int z_bk, .ref a_bo, .long z_h]))] := hD
      refine lv_aload_n hx hb d_MD_state_19 rfl (lv_at hl 0 rfl) ?_
      refine gf_MD_7 hg hw S hP 0 rfl rfl d_MD_state_20 ?_
      refine lv_if_eq hx hb d_MD_state_23 (tgt := 28) (by decide) (fun h23 => ?_) (fun h23 => ?_)
      · exact absurd h23 (by decide)
      · refine lv_lconst (v := (0 : Int64)) hx hb d_MD_state_26 (by decide) ?_
        subst hr0
        subst hr1
        exact xw_lret hx hb ht hl0 hP hD hS d_MD_state_27
