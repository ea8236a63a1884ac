/-! the steps: bad, join -/
section SLF
def sj_L (f : Nat → Bool) : Nat → Int32 → Int32 → Int32
  | 0, _, _ => 0
  | n + 1, s, i => if (6 : Int32) ≤ i then s else (if f i.toNatClampNeg = true then sj_L f n (s ||| ((1 : Int32) <<< (i &&& 31))) (i + (1 : Int32)) else sj_L f n s (i + (1 : Int32)))
theorem sj_cong {f g : Nat → Bool} (h : ∀ k, k < 6 → f k = g k) : ∀ (n : Nat) (s i : Int32), 0 ≤ i.toInt → sj_L f n s i = sj_L g n s i := by
  intro n
  induction n with
  | zero => exact fun _ _ _ => rfl
  | succ n ih =>
    intro s i hi
    rw [sj_L, sj_L]
    by_cases h1 : (6 : Int32) ≤ i
    · rw [if_pos h1, if_pos h1]
    · rw [if_neg h1, if_neg h1]
      rw [Int32.le_iff_toInt_le, show (6 : Int32).toInt = 6 from rfl] at h1
      have h2 : (i + 1).toInt = i.toInt + 1 := xi_inc (by omega)
      rw [h i.toNatClampNeg (by show i.toInt.toNat < 6; omega), ih _ _ (by omega), ih _ _ (by omega)]
theorem sj_e : ∀ b0 b1 b2 b3 b4 b5 : Bool, 1 * b0.toNat + 2 * b1.toNat + 4 * b2.toNat + 8 * b3.toNat + 16 * b4.toNat + 32 * b5.toNat < 64 ∧ (1 * b0.toNat + 2 * b1.toNat + 4 * b2.toNat + 8 * b3.toNat + 16 * b4.toNat + 32 * b5.toNat).testBit 0 = b0 ∧ (1 * b0.toNat + 2 * b1.toNat + 4 * b2.toNat + 8 * b3.toNat + 16 * b4.toNat + 32 * b5.toNat).testBit 1 = b1 ∧ (1 * b0.toNat + 2 * b1.toNat + 4 * b2.toNat + 8 * b3.toNat + 16 * b4.toNat + 32 * b5.toNat).testBit 2 = b2 ∧ (1 * b0.toNat + 2 * b1.toNat + 4 * b2.toNat + 8 * b3.toNat + 16 * b4.toNat + 32 * b5.toNat).testBit 3 = b3 ∧ (1 * b0.toNat + 2 * b1.toNat + 4 * b2.toNat + 8 * b3.toNat + 16 * b4.toNat + 32 * b5.toNat).testBit 4 = b4 ∧ (1 * b0.toNat + 2 * b1.toNat + 4 * b2.toNat + 8 * b3.toNat + 16 * b4.toNat + 32 * b5.toNat).testBit 5 = b5 := by decide
theorem sj_enc (f : Nat → Bool) : ∃ c, c < 64 ∧ ∀ k, k < 6 → f k = Nat.testBit c k := by
  obtain ⟨h, h0, h1, h2, h3, h4, h5⟩ := sj_e (f 0) (f 1) (f 2) (f 3) (f 4) (f 5)
  refine ⟨_, h, fun k hk => ?_⟩
  rcases (show k = 0 ∨ k = 1 ∨ k = 2 ∨ k = 3 ∨ k = 4 ∨ k = 5 by omega) with rfl | rfl | rfl | rfl | rfl | rfl
  · exact h0.symm
  · exact h1.symm
  · exact h2.symm
  · exact h3.symm
  · exact h4.symm
  · exact h5.symm
def sj_in (m : Int32) (k : Nat) : Bool := decide (¬ f_ST_isIn m (Int32.ofNat k) = 0)
set_option maxRecDepth 100000 in
theorem sj_a : ∀ m, m < 64 → ∀ c, c < 64 → (Int32.ofNat m &&& (sj_L (fun k => sj_in (Int32.ofNat m) k && Nat.testBit c k) 7 0 0 ^^^ (-1 : Int32))) = sj_L (fun k => sj_in (Int32.ofNat m) k && !Nat.testBit c k) 7 0 0 := by decide +kernel
set_option maxRecDepth 100000 in
theorem sj_b : ∀ m, m < 64 → ∀ c, c < 64 → (Int32.ofNat m &&& (sj_L (fun k => sj_in (Int32.ofNat m) k && !Nat.testBit c k) 7 0 0 ^^^ (-1 : Int32))) = sj_L (fun k => sj_in (Int32.ofNat m) k && Nat.testBit c k) 7 0 0 := by decide +kernel
set_option maxRecDepth 100000 in
theorem sj_c : ∀ m, m < 64 → ∀ c, c < 64 → 0 ≤ (sj_L (fun k => sj_in (Int32.ofNat m) k && Nat.testBit c k) 7 0 0).toInt ∧ (sj_L (fun k => sj_in (Int32.ofNat m) k && Nat.testBit c k) 7 0 0).toInt < 64 := by decide +kernel
theorem sj_all {m : Int32} (hm : 0 ≤ m.toInt ∧ m.toInt < 64) (f : Nat → Bool) : (m &&& (sj_L (fun k => sj_in m k && f k) 7 0 0 ^^^ (-1 : Int32))) = sj_L (fun k => sj_in m k && !f k) 7 0 0 ∧ (m &&& (sj_L (fun k => sj_in m k && !f k) 7 0 0 ^^^ (-1 : Int32))) = sj_L (fun k => sj_in m k && f k) 7 0 0 ∧ 0 ≤ (sj_L (fun k => sj_in m k && f k) 7 0 0).toInt ∧ (sj_L (fun k => sj_in m k && f k) 7 0 0).toInt < 64 := by
  obtain ⟨j, hj, rfl⟩ := sm_64 hm
  obtain ⟨c, hc, h⟩ := sj_enc f
  have e1 := sj_cong (f := fun k => sj_in (Int32.ofNat j) k && f k) (g := fun k => sj_in (Int32.ofNat j) k && Nat.testBit c k) (fun k hk => by rw [h k hk]) 7 0 0 (by decide)
  have e2 := sj_cong (f := fun k => sj_in (Int32.ofNat j) k && !f k) (g := fun k => sj_in (Int32.ofNat j) k && !Nat.testBit c k) (fun k hk => by rw [h k hk]) 7 0 0 (by decide)
  rw [e1, e2]
  exact ⟨sj_a j hj c hc, sj_b j hj c hc, sj_c j hj c hc⟩
theorem sj_G {powers answers : Nat → Int64} {challenges : Nat → Int32} {block base pp qq modulus order : Int64} {checks : Nat → Int64} {m : Int32} {f : Nat → Bool} (hf : ∀ i : Int32, vp_in i 6 → (f i.toNatClampNeg = true ↔ ¬ f_KE_isGood i powers challenges answers block base checks pp qq modulus order = 0)) : ∀ (n : Nat) (s i : Int32), 0 ≤ i.toInt → lf_ST_goodPartials_4 powers challenges answers block m base checks pp qq modulus order n s i = sj_L (fun k => sj_in m k && f k) n s i := by
  intro n
  induction n with
  | zero => exact fun _ _ _ => rfl
  | succ n ih =>
    intro s i hi
    rw [lf_ST_goodPartials_4, sj_L]
    by_cases h1 : (6 : Int32) ≤ i
    · rw [if_pos h1, if_pos h1]
    · rw [if_neg h1, if_neg h1]
      have h6 : vp_in i 6 := xi_in h1 hi (by decide)
      rw [Int32.le_iff_toInt_le, show (6 : Int32).toInt = 6 from rfl] at h1
      have h2 : (i + 1).toInt = i.toInt + 1 := xi_inc (by omega)
      have hin : sj_in m i.toNatClampNeg = decide (¬ f_ST_isIn m i = 0) := by
        unfold sj_in
        rw [sx_6 h6]
      have h3 := hf i h6
      by_cases c1 : f_ST_isIn m i = 0
      · rw [if_pos c1, if_neg (by rw [hin, decide_eq_false (show ¬ ¬ f_ST_isIn m i = 0 from fun z => z c1)]; simp)]
        exact ih _ _ (by omega)
      · rw [if_neg c1]
        by_cases c2 : f_KE_isGood i powers challenges answers block base checks pp qq modulus order = 0
        · rw [if_pos c2, if_neg (fun z => by
            rw [Bool.and_eq_true] at z
            exact h3.mp z.2 c2)]
          exact ih _ _ (by omega)
        · rw [if_neg c2, if_pos (by rw [hin, decide_eq_true c1, h3.mpr c2]; rfl)]
          exact ih _ _ (by omega)
theorem sj_N {motion : Int32} {z_n z_m z_d z_a z_b z_v z_h : Int64} {z_bl z_po z_an : Nat → Int64} {z_pr z_fi : Nat → Int32} {f : Nat → Bool} (hm : 0 ≤ (z_fi motion.toNatClampNeg).toInt ∧ (z_fi motion.toNatClampNeg).toInt < 64) (hf : ∀ i : Int32, vp_in i 6 → (f i.toNatClampNeg = true ↔ ¬ f_MD_good motion i z_n z_m z_d z_a z_b z_v z_bl z_po z_pr z_an = 0)) : ∀ (n : Nat) (s i : Int32) (hv : Int64), 0 ≤ i.toInt → lf_MD_notGood_4_0 motion z_n z_m z_d z_a z_b z_v z_bl z_po z_pr z_an z_fi z_h n s i hv = sj_L (fun k => sj_in (z_fi motion.toNatClampNeg) k && !f k) n s i := by
  intro n
  induction n with
  | zero => exact fun _ _ _ _ => rfl
  | succ n ih =>
    intro s i hv hi
    rw [lf_MD_notGood_4_0, sj_L]
    by_cases h1 : (6 : Int32) ≤ i
    · rw [if_pos h1, if_pos h1]
    · rw [if_neg h1, if_neg h1]
      have h6 : vp_in i 6 := xi_in h1 hi (by decide)
      rw [Int32.le_iff_toInt_le, show (6 : Int32).toInt = 6 from rfl] at h1
      have h2 : (i + 1).toInt = i.toInt + 1 := xi_inc (by omega)
      have hin : sj_in (z_fi motion.toNatClampNeg) i.toNatClampNeg = decide (¬ f_ST_isIn (z_fi motion.toNatClampNeg) i = 0) := by
        unfold sj_in
        rw [sx_6 h6]
      have h3 := hf i h6
      have hb := (sm_bit hm h6).1
      by_cases c1 : ((z_fi motion.toNatClampNeg >>> (i &&& 31)) &&& (1 : Int32)) = 1
      · rw [if_pos c1]
        by_cases c2 : f_MD_good motion i z_n z_m z_d z_a z_b z_v z_bl z_po z_pr z_an = 0
        · have h4 : f i.toNatClampNeg = false := by
            cases h5 : f i.toNatClampNeg with
            | false => rfl
            | true => exact absurd c2 (h3.mp h5)
          rw [if_pos c2, if_pos (by rw [hin, decide_eq_true (show ¬ f_ST_isIn (z_fi motion.toNatClampNeg) i = 0 from fun z => hb.mp z c1), h4]; rfl)]
          exact ih _ _ _ (by omega)
        · rw [if_neg c2, if_neg (by rw [h3.mpr c2]; simp)]
          exact ih _ _ _ (by omega)
      · rw [if_neg c1, if_neg (by rw [hin, decide_eq_false (show ¬ ¬ f_ST_isIn (z_fi motion.toNatClampNeg) i = 0 from fun z => z (hb.mpr c1))]; simp)]
        exact ih _ _ _ (by omega)
/-- good and not good, of one motion -/
theorem sj_two {t : Nat} {dealt : Int32} {epoch : Int64} {signing : Int64} {pp : Int64} {qq : Int64} {shares : Nat → Int64} {checks : Nat → Int64} {powers : Nat → Nat → Int64} {challenges : Nat → Nat → Int32} {answers : Nat → Nat → Int64} {z_n : Int64} {z_m : Int64} {z_d : Int64} {z_a : Int64} {z_b : Int64} {z_v : Int64} {z_ep : Int32} {z_su : Int32} {z_by : Int32} {z_mo : Int32} {z_st : Nat → Int32} {z_bl : Nat → Int64} {z_fi : Nat → Int32} {z_ob : Nat → Int32} {z_po : Nat → Int64} {z_pr : Nat → Int32} {z_an : Nat → Int64} {z_bk : Int32} {motion : Int32} {z_h : Int64} (hI : xv_I t dealt epoch signing pp qq shares checks powers challenges answers z_n z_m z_d z_a z_b z_v z_ep z_su z_by z_mo z_st z_bl z_fi z_ob z_po z_pr z_an z_bk) (h6 : ¬ f_MD_isMotion motion z_mo = 0) : (z_fi motion.toNatClampNeg &&& (f_ST_goodPartials (powers motion.toNatClampNeg) (challenges motion.toNatClampNeg) (answers motion.toNatClampNeg) (z_bl motion.toNatClampNeg) (z_fi motion.toNatClampNeg) z_v checks pp qq z_n z_m ^^^ (-1 : Int32))) = f_MD_notGood motion z_n z_m z_d z_a z_b z_v z_bl z_po z_pr z_an z_fi z_h ∧
    (z_fi motion.toNatClampNeg &&& (f_MD_notGood motion z_n z_m z_d z_a z_b z_v z_bl z_po z_pr z_an z_fi z_h ^^^ (-1 : Int32))) = f_ST_goodPartials (powers motion.toNatClampNeg) (challenges motion.toNatClampNeg) (answers motion.toNatClampNeg) (z_bl motion.toNatClampNeg) (z_fi motion.toNatClampNeg) z_v checks pp qq z_n z_m ∧
    0 ≤ (f_ST_goodPartials (powers motion.toNatClampNeg) (challenges motion.toNatClampNeg) (answers motion.toNatClampNeg) (z_bl motion.toNatClampNeg) (z_fi motion.toNatClampNeg) z_v checks pp qq z_n z_m).toInt ∧ (f_ST_goodPartials (powers motion.toNatClampNeg) (challenges motion.toNatClampNeg) (answers motion.toNatClampNeg) (z_bl motion.toNatClampNeg) (z_fi motion.toNatClampNeg) z_v checks pp qq z_n z_m).toInt < 64 := by
  have hvM := xs_isM h6 (xv_mo hI)
  have hMr := xv_isr h6
  obtain ⟨f0, f1, o0, o1, hb3, bl2, bln⟩ := hI.2.2.2.2.2.2.1 motion.toNatClampNeg (by show motion.toInt.toNat < z_mo.toInt.toNat; omega)
  have hky := (xv_kn hI (xv_isn hI h6)).2
  have h1 := vp_in_iff.mp hvM
  have hgd : ∀ i : Int32, vp_in i 6 → f_KE_isGood i (powers motion.toNatClampNeg) (challenges motion.toNatClampNeg) (answers motion.toNatClampNeg) (z_bl motion.toNatClampNeg) z_v checks pp qq z_n z_m = f_MD_good motion i z_n z_m z_d z_a z_b z_v z_bl z_po z_pr z_an := fun i hi => by
    have h2 := vp_in_iff.mp hi
    have h3 := xs_6i hvM hi
    have hpw := hI.2.2.2.2.2.1 motion.toNatClampNeg (by show motion.toInt.toNat < 12; omega) i.toNatClampNeg (by show i.toInt.toNat < 6; omega)
    have hix : 6 * motion.toNatClampNeg + i.toNatClampNeg = (((6 : Int32) * motion) + i).toNatClampNeg := by
      show 6 * motion.toInt.toNat + i.toInt.toNat = (((6 : Int32) * motion) + i).toInt.toNat
      omega
    rw [hix] at hpw
    exact sh_good hky hi bl2 bln hpw.1 hpw.2.1 hpw.2.2
  have hG := sj_G (m := z_fi motion.toNatClampNeg) (f := fun k => decide (¬ f_MD_good motion (Int32.ofNat k) z_n z_m z_d z_a z_b z_v z_bl z_po z_pr z_an = 0)) (powers := powers motion.toNatClampNeg) (challenges := challenges motion.toNatClampNeg) (answers := answers motion.toNatClampNeg) (block := z_bl motion.toNatClampNeg) (base := z_v) (checks := checks) (pp := pp) (qq := qq) (modulus := z_n) (order := z_m) (fun i hi => by rw [sx_6 hi, hgd i hi, decide_eq_true_iff]) 7 0 0 (by decide)
  have hN := sj_N (z_h := z_h) (f := fun k => decide (¬ f_MD_good motion (Int32.ofNat k) z_n z_m z_d z_a z_b z_v z_bl z_po z_pr z_an = 0)) ⟨f0, f1⟩ (fun i hi => by rw [sx_6 hi, decide_eq_true_iff]) 7 0 0 z_h (by decide)
  unfold f_ST_goodPartials f_MD_notGood
  rw [hG, hN]
  exact sj_all ⟨f0, f1⟩ _
theorem sl_bad {t : Nat} {dealt : Int32} {epoch : Int64} {signing : Int64} {pp : Int64} {qq : Int64} {shares : Nat → Int64} {checks : Nat → Int64} {powers : Nat → Nat → Int64} {challenges : Nat → Nat → Int32} {answers : Nat → Nat → Int64} {z_n : Int64} {z_m : Int64} {z_d : Int64} {z_a : Int64} {z_b : Int64} {z_v : Int64} {z_ep : Int32} {z_su : Int32} {z_by : Int32} {z_mo : Int32} {z_st : Nat → Int32} {z_bl : Nat → Int64} {z_fi : Nat → Int32} {z_ob : Nat → Int32} {z_po : Nat → Int64} {z_pr : Nat → Int32} {z_an : Nat → Int64} {z_bk : Int32} {z_h : Int64} {outf : Nat → Int64} {motion : Int32} (hI : xv_I t dealt epoch signing pp qq shares checks powers challenges answers z_n z_m z_d z_a z_b z_v z_ep z_su z_by z_mo z_st z_bl z_fi z_ob z_po z_pr z_an z_bk) : f_MD_bad_thrownCode motion z_mo = xh_c xt_NS xt_IS (g_ST_bad motion z_mo) ∧ (xh_c xt_NS xt_IS (g_ST_bad motion z_mo) = 0 → (xt_el (g_ST_bad motion z_mo) outf (vp_updL outf (0 : Int32).toNatClampNeg (f_ST_bad motion z_mo z_v pp qq z_n z_m checks (z_bl (xl_ix motion)) (z_fi (xl_ix motion)) (powers (xl_ix motion)) (challenges (xl_ix motion)) (answers (xl_ix motion))).toInt64)) (0 : Int32).toNatClampNeg = (f_MD_bad motion z_n z_m z_d z_a z_b z_v z_mo z_h z_fi z_bl z_po z_pr z_an).toInt64) ∧ xv_I (t + 1) dealt epoch signing pp qq shares checks powers challenges answers z_n z_m z_d z_a z_b z_v z_ep z_su z_by z_mo z_st z_bl z_fi z_ob z_po z_pr z_an z_bk := by
  by_cases h6 : f_MD_isMotion motion z_mo = 0
  · have hg : g_ST_bad motion z_mo = some xt_NS := by rw [g_ST_bad, xt_el1 (sm_at0 h6), sm_at0 h6]
    rw [hg, f_MD_bad_thrownCode, if_pos h6]
    exact ⟨xh_e1.symm, fun z => absurd (xh_e1.symm.trans z) (by decide), xv_up hI⟩
  have hk := xl_ix_in (xs_isM h6 (xv_mo hI))
  rw [hk]
  have hg : g_ST_bad motion z_mo = none := by rw [g_ST_bad, xt_el0 (sm_at1 h6)]
  rw [hg, f_MD_bad_thrownCode, if_neg h6]
  refine ⟨rfl, fun _ => ?_, xv_up hI⟩
  show (f_ST_bad _ _ _ _ _ _ _ _ _ _ _ _ _).toInt64 = _
  rw [f_ST_bad, xt_el0 (sm_at1 h6), f_MD_bad, if_neg h6, (sj_two (z_h := z_h) hI h6).1]
theorem sk_e {a b : Nat} (h : xv_pq a b) : Nat.gcd 65537 (2 * (a * b)) = 1 := by
  have h1 : ¬ a ∣ 65537 := nt_e (by have := h.2.2.2.2.2.1; omega) (by have := h.2.2.2.2.2.2.1; omega)
  have h2 : ¬ b ∣ 65537 := nt_e (by have := h.2.2.2.2.2.2.2.1; omega) (by have := h.2.2.2.2.2.2.2.2; omega)
  have h3 : Nat.Coprime 65537 a := (nt_P_cop h.2.2.2.1 h1).symm
  have h4 : Nat.Coprime 65537 b := (nt_P_cop h.2.2.2.2.1 h2).symm
  have h5 : Nat.Coprime 65537 2 := by decide
  exact Nat.Coprime.mul_right h5 (Nat.Coprime.mul_right h3 h4)
theorem sk_sn {signing pp qq : Int64} {shares checks : Nat → Int64} {z_n z_m z_d z_a z_b z_v : Int64} (h : xv_key signing pp qq shares checks z_n z_m z_d z_a z_b z_v) : ∃ S : Nat, signing.toInt = S := by
  obtain ⟨a, b, hpq, h1, h2, h3, h4, h5, -⟩ := h
  exact ⟨signing.toInt.toNat, by omega⟩
theorem sk_sign {signing pp qq : Int64} {shares checks : Nat → Int64} {z_n z_m z_d z_a z_b z_v : Int64} (h : xv_key signing pp qq shares checks z_n z_m z_d z_a z_b z_v) : signing = f_MD_inverse (65537 : Int64) ((2 : Int64) * z_m) := by
  obtain ⟨a, b, hpq, h1, h2, h3, h4, h5, h6, h7, -⟩ := h
  obtain ⟨p1, p2, p3, p4⟩ := xv_pos hpq
  have h2m : ((2 : Int64) * z_m).toInt = (2 * (a * b) : Nat) := nu_mul (show (2 : Int64).toInt = (2 : Nat) from rfl) h2 (by omega)
  obtain ⟨r, hr1, hr2, hr3⟩ := nv_inverse (xa := 65537) (x := 65537) rfl h2m (by omega) (by omega) (sk_e hpq)
  have heq := nt_lt (nt_inv1 h7 hr3) (by omega) hr2
  exact nu_inj (x := r) (by omega) hr1
theorem sl_join {t : Nat} {dealt : Int32} {epoch : Int64} {signing : Int64} {pp : Int64} {qq : Int64} {shares : Nat → Int64} {checks : Nat → Int64} {powers : Nat → Nat → Int64} {challenges : Nat → Nat → Int32} {answers : Nat → Nat → Int64} {z_n : Int64} {z_m : Int64} {z_d : Int64} {z_a : Int64} {z_b : Int64} {z_v : Int64} {z_ep : Int32} {z_su : Int32} {z_by : Int32} {z_mo : Int32} {z_st : Nat → Int32} {z_bl : Nat → Int64} {z_fi : Nat → Int32} {z_ob : Nat → Int32} {z_sg : Nat → Int64} {z_po : Nat → Int64} {z_pr : Nat → Int32} {z_an : Nat → Int64} {z_bk : Int32} {z_bo : Nat → Int32} {z_h : Int64} {outf : Nat → Int64} {motion : Int32} (hI : xv_I t dealt epoch signing pp qq shares checks powers challenges answers z_n z_m z_d z_a z_b z_v z_ep z_su z_by z_mo z_st z_bl z_fi z_ob z_po z_pr z_an z_bk) : f_MD_join_thrownCode motion z_n z_m z_d z_a z_b z_v z_mo z_h z_st z_bl z_fi z_po z_pr z_an = xh_c xt_NS xt_IS (g_ST_join motion z_mo z_v pp qq z_n z_m checks (z_st (xl_ix motion)) (z_bl (xl_ix motion)) (z_fi (xl_ix motion)) (powers (xl_ix motion)) (challenges (xl_ix motion)) (answers (xl_ix motion))) ∧ (xh_c xt_NS xt_IS (g_ST_join motion z_mo z_v pp qq z_n z_m checks (z_st (xl_ix motion)) (z_bl (xl_ix motion)) (z_fi (xl_ix motion)) (powers (xl_ix motion)) (challenges (xl_ix motion)) (answers (xl_ix motion))) = 0 → (xt_el (g_ST_join motion z_mo z_v pp qq z_n z_m checks (z_st (xl_ix motion)) (z_bl (xl_ix motion)) (z_fi (xl_ix motion)) (powers (xl_ix motion)) (challenges (xl_ix motion)) (answers (xl_ix motion))) outf (vp_updL outf (0 : Int32).toNatClampNeg (f_ST_join motion z_mo z_v signing pp qq z_n z_m checks (z_st (xl_ix motion)) (z_bl (xl_ix motion)) (z_fi (xl_ix motion)) (powers (xl_ix motion)) (challenges (xl_ix motion)) (answers (xl_ix motion))))) (0 : Int32).toNatClampNeg = (f_MD_join motion z_n z_m z_d z_a z_b z_v z_mo z_h z_st z_bl z_fi z_po z_pr z_an z_sg)) ∧ xt_el (g_ST_join motion z_mo z_v pp qq z_n z_m checks (z_st (xl_ix motion)) (z_bl (xl_ix motion)) (z_fi (xl_ix motion)) (powers (xl_ix motion)) (challenges (xl_ix motion)) (answers (xl_ix motion))) (z_st (xl_ix motion)) (f_ST_join_standing motion z_mo z_v signing pp qq z_n z_m checks (z_st (xl_ix motion)) (z_bl (xl_ix motion)) (z_fi (xl_ix motion)) (powers (xl_ix motion)) (challenges (xl_ix motion)) (answers (xl_ix motion))) = (f_MD_join_a_st motion z_n z_m z_d z_a z_b z_v z_mo z_h z_st z_bl z_fi z_po z_pr z_an) (xl_ix motion) ∧ xt_el (g_ST_join motion z_mo z_v pp qq z_n z_m checks (z_st (xl_ix motion)) (z_bl (xl_ix motion)) (z_fi (xl_ix motion)) (powers (xl_ix motion)) (challenges (xl_ix motion)) (answers (xl_ix motion))) (z_sg (xl_ix motion)) (f_ST_join_signature motion z_mo z_v signing pp qq z_n z_m checks (z_st (xl_ix motion)) (z_bl (xl_ix motion)) (z_fi (xl_ix motion)) (powers (xl_ix motion)) (challenges (xl_ix motion)) (answers (xl_ix motion))) = (f_MD_join_a_si motion z_n z_m z_d z_a z_b z_v z_mo z_h z_st z_bl z_fi z_po z_pr z_an z_sg) (xl_ix motion) ∧ xt_el (g_ST_join motion z_mo z_v pp qq z_n z_m checks (z_st (xl_ix motion)) (z_bl (xl_ix motion)) (z_fi (xl_ix motion)) (powers (xl_ix motion)) (challenges (xl_ix motion)) (answers (xl_ix motion))) z_bk (f_ST_join_sealedCount motion z_mo z_bk z_v pp qq z_n z_m checks z_bo (z_st (xl_ix motion)) (z_bl (xl_ix motion)) (z_fi (xl_ix motion)) (powers (xl_ix motion)) (challenges (xl_ix motion)) (answers (xl_ix motion))) = f_MD_join_booked motion z_n z_m z_d z_a z_b z_v z_mo z_bk z_h z_st z_bl z_fi z_po z_pr z_an ∧ xt_el (g_ST_join motion z_mo z_v pp qq z_n z_m checks (z_st (xl_ix motion)) (z_bl (xl_ix motion)) (z_fi (xl_ix motion)) (powers (xl_ix motion)) (challenges (xl_ix motion)) (answers (xl_ix motion))) z_bo (f_ST_join_SE motion z_mo z_bk z_v pp qq z_n z_m checks z_bo (z_st (xl_ix motion)) (z_bl (xl_ix motion)) (z_fi (xl_ix motion)) (powers (xl_ix motion)) (challenges (xl_ix motion)) (answers (xl_ix motion))) = f_MD_join_a_bo motion z_n z_m z_d z_a z_b z_v z_mo z_bk z_h z_st z_bl z_fi z_po z_pr z_an z_bo ∧ (∀ j, ¬ j = (xl_ix motion) → (f_MD_join_a_st motion z_n z_m z_d z_a z_b z_v z_mo z_h z_st z_bl z_fi z_po z_pr z_an) j = z_st j) ∧ (∀ j, ¬ j = (xl_ix motion) → (f_MD_join_a_si motion z_n z_m z_d z_a z_b z_v z_mo z_h z_st z_bl z_fi z_po z_pr z_an z_sg) j = z_sg j) ∧ xv_I (t + 1) dealt epoch signing pp qq shares checks powers challenges answers z_n z_m z_d z_a z_b z_v z_ep z_su z_by z_mo (f_MD_join_a_st motion z_n z_m z_d z_a z_b z_v z_mo z_h z_st z_bl z_fi z_po z_pr z_an) z_bl z_fi z_ob z_po z_pr z_an (f_MD_join_booked motion z_n z_m z_d z_a z_b z_v z_mo z_bk z_h z_st z_bl z_fi z_po z_pr z_an) := by
  by_cases h6 : f_MD_isMotion motion z_mo = 0
  · have hg : g_ST_join motion z_mo z_v pp qq z_n z_m checks (z_st (xl_ix motion)) (z_bl (xl_ix motion)) (z_fi (xl_ix motion)) (powers (xl_ix motion)) (challenges (xl_ix motion)) (answers (xl_ix motion)) = some xt_NS := by rw [g_ST_join, xt_el1 (sm_at0 h6), sm_at0 h6]
    have m_thrownCode : f_MD_join_thrownCode motion z_n z_m z_d z_a z_b z_v z_mo z_h z_st z_bl z_fi z_po z_pr z_an = 1 := by rw [f_MD_join_thrownCode, if_pos h6]
    have m_booked : f_MD_join_booked motion z_n z_m z_d z_a z_b z_v z_mo z_bk z_h z_st z_bl z_fi z_po z_pr z_an = z_bk := by rw [f_MD_join_booked, if_pos h6]
    have m_a_si : f_MD_join_a_si motion z_n z_m z_d z_a z_b z_v z_mo z_h z_st z_bl z_fi z_po z_pr z_an z_sg = z_sg := by rw [f_MD_join_a_si, if_pos h6]
    have m_a_st : f_MD_join_a_st motion z_n z_m z_d z_a z_b z_v z_mo z_h z_st z_bl z_fi z_po z_pr z_an = z_st := by rw [f_MD_join_a_st, if_pos h6]
    have m_a_bo : f_MD_join_a_bo motion z_n z_m z_d z_a z_b z_v z_mo z_bk z_h z_st z_bl z_fi z_po z_pr z_an z_bo = z_bo := by rw [f_MD_join_a_bo, if_pos h6]
    rw [hg, m_thrownCode, m_booked, m_a_si, m_a_st, m_a_bo]
    exact ⟨xh_e1.symm, fun z => absurd (xh_e1.symm.trans z) (by decide), rfl, rfl, rfl, rfl, fun _ _ => rfl, fun _ _ => rfl, xv_up hI⟩
  have hvM := xs_isM h6 (xv_mo hI)
  have hk := xl_ix_in hvM
  rw [hk]
  have hMr := xv_isr h6
  obtain ⟨f0, f1, o0, o1, hb3, bl2, bln⟩ := hI.2.2.2.2.2.2.1 motion.toNatClampNeg (by show motion.toInt.toNat < z_mo.toInt.toNat; omega)
  by_cases h19 : z_st motion.toNatClampNeg = 0
  rotate_left
  · have hg : g_ST_join motion z_mo z_v pp qq z_n z_m checks (z_st motion.toNatClampNeg) (z_bl motion.toNatClampNeg) (z_fi motion.toNatClampNeg) (powers motion.toNatClampNeg) (challenges motion.toNatClampNeg) (answers motion.toNatClampNeg) = some xt_IS := by rw [g_ST_join, xt_el0 (sm_at1 h6), xt_el1 (sm_op1 h19), sm_op1 h19]
    have m_thrownCode : f_MD_join_thrownCode motion z_n z_m z_d z_a z_b z_v z_mo z_h z_st z_bl z_fi z_po z_pr z_an = 2 := by rw [f_MD_join_thrownCode, if_neg h6, if_neg h19]
    have m_booked : f_MD_join_booked motion z_n z_m z_d z_a z_b z_v z_mo z_bk z_h z_st z_bl z_fi z_po z_pr z_an = z_bk := by rw [f_MD_join_booked, if_neg h6, if_neg h19]
    have m_a_si : f_MD_join_a_si motion z_n z_m z_d z_a z_b z_v z_mo z_h z_st z_bl z_fi z_po z_pr z_an z_sg = z_sg := by rw [f_MD_join_a_si, if_neg h6, if_neg h19]
    have m_a_st : f_MD_join_a_st motion z_n z_m z_d z_a z_b z_v z_mo z_h z_st z_bl z_fi z_po z_pr z_an = z_st := by rw [f_MD_join_a_st, if_neg h6, if_neg h19]
    have m_a_bo : f_MD_join_a_bo motion z_n z_m z_d z_a z_b z_v z_mo z_bk z_h z_st z_bl z_fi z_po z_pr z_an z_bo = z_bo := by rw [f_MD_join_a_bo, if_neg h6, if_neg h19]
    rw [hg, m_thrownCode, m_booked, m_a_si, m_a_st, m_a_bo]
    exact ⟨(xh_e2 (by decide)).symm, fun z => absurd ((xh_e2 (by decide)).symm.trans z) (by decide), rfl, rfl, rfl, rfl, fun _ _ => rfl, fun _ _ => rfl, xv_up hI⟩
  have hky := (xv_kn hI (xv_isn hI h6)).2
  have c1 := sh_com hky (x := z_bl motion.toNatClampNeg) (X := (z_bl motion.toNatClampNeg).toInt.toNat) (by omega)
  by_cases h41 : f_MD_common (z_bl motion.toNatClampNeg) z_n = 1
  rotate_left
  · have h42 : f_KE_isPrimeToModulus (z_bl motion.toNatClampNeg) pp qq = 0 := Decidable.byContradiction fun w => h41 (c1.mpr w)
    have hg : g_ST_join motion z_mo z_v pp qq z_n z_m checks (z_st motion.toNatClampNeg) (z_bl motion.toNatClampNeg) (z_fi motion.toNatClampNeg) (powers motion.toNatClampNeg) (challenges motion.toNatClampNeg) (answers motion.toNatClampNeg) = some xt_AR := by rw [g_ST_join, xt_el0 (sm_at1 h6), xt_el0 (sm_op0 h19), if_pos h42]
    have m_thrownCode : f_MD_join_thrownCode motion z_n z_m z_d z_a z_b z_v z_mo z_h z_st z_bl z_fi z_po z_pr z_an = 3 := by rw [f_MD_join_thrownCode, if_neg h6, if_pos h19, if_neg h41]
    have m_booked : f_MD_join_booked motion z_n z_m z_d z_a z_b z_v z_mo z_bk z_h z_st z_bl z_fi z_po z_pr z_an = z_bk := by rw [f_MD_join_booked, if_neg h6, if_pos h19, if_neg h41]
    have m_a_si : f_MD_join_a_si motion z_n z_m z_d z_a z_b z_v z_mo z_h z_st z_bl z_fi z_po z_pr z_an z_sg = z_sg := by rw [f_MD_join_a_si, if_neg h6, if_pos h19, if_neg h41]
    have m_a_st : f_MD_join_a_st motion z_n z_m z_d z_a z_b z_v z_mo z_h z_st z_bl z_fi z_po z_pr z_an = z_st := by rw [f_MD_join_a_st, if_neg h6, if_pos h19, if_neg h41]
    have m_a_bo : f_MD_join_a_bo motion z_n z_m z_d z_a z_b z_v z_mo z_bk z_h z_st z_bl z_fi z_po z_pr z_an z_bo = z_bo := by rw [f_MD_join_a_bo, if_neg h6, if_pos h19, if_neg h41]
    rw [hg, m_thrownCode, m_booked, m_a_si, m_a_st, m_a_bo]
    exact ⟨(xh_e3 (by decide) (by decide)).symm, fun z => absurd ((xh_e3 (by decide) (by decide)).symm.trans z) (by decide), rfl, rfl, rfl, rfl, fun _ _ => rfl, fun _ _ => rfl, xv_up hI⟩
  have h42 := c1.mp h41
  have h2 := sj_two (z_h := z_h) hI h6
  have hcn := sm_cnt h2.2.2
  by_cases h66 : (3 : Int32) ≤ (f_MD_bits ((z_fi motion.toNatClampNeg) &&& ((f_MD_notGood motion z_n z_m z_d z_a z_b z_v z_bl z_po z_pr z_an z_fi z_h) ^^^ (-1 : Int32))))
  rotate_left
  · have h67 : ¬ (3 : Int32) ≤ f_IN_bitCount (f_ST_goodPartials (powers motion.toNatClampNeg) (challenges motion.toNatClampNeg) (answers motion.toNatClampNeg) (z_bl motion.toNatClampNeg) (z_fi motion.toNatClampNeg) z_v checks pp qq z_n z_m) := by rw [hcn, ← h2.2.1]; exact h66
    have hg : g_ST_join motion z_mo z_v pp qq z_n z_m checks (z_st motion.toNatClampNeg) (z_bl motion.toNatClampNeg) (z_fi motion.toNatClampNeg) (powers motion.toNatClampNeg) (challenges motion.toNatClampNeg) (answers motion.toNatClampNeg) = some xt_IS := by rw [g_ST_join, xt_el0 (sm_at1 h6), xt_el0 (sm_op0 h19), if_neg h42, if_neg h67]
    have m_thrownCode : f_MD_join_thrownCode motion z_n z_m z_d z_a z_b z_v z_mo z_h z_st z_bl z_fi z_po z_pr z_an = 2 := by rw [f_MD_join_thrownCode, if_neg h6, if_pos h19, if_pos h41, if_neg h66]
    have m_booked : f_MD_join_booked motion z_n z_m z_d z_a z_b z_v z_mo z_bk z_h z_st z_bl z_fi z_po z_pr z_an = z_bk := by rw [f_MD_join_booked, if_neg h6, if_pos h19, if_pos h41, if_neg h66]
    have m_a_si : f_MD_join_a_si motion z_n z_m z_d z_a z_b z_v z_mo z_h z_st z_bl z_fi z_po z_pr z_an z_sg = z_sg := by rw [f_MD_join_a_si, if_neg h6, if_pos h19, if_pos h41, if_neg h66]
    have m_a_st : f_MD_join_a_st motion z_n z_m z_d z_a z_b z_v z_mo z_h z_st z_bl z_fi z_po z_pr z_an = z_st := by rw [f_MD_join_a_st, if_neg h6, if_pos h19, if_pos h41, if_neg h66]
    have m_a_bo : f_MD_join_a_bo motion z_n z_m z_d z_a z_b z_v z_mo z_bk z_h z_st z_bl z_fi z_po z_pr z_an z_bo = z_bo := by rw [f_MD_join_a_bo, if_neg h6, if_pos h19, if_pos h41, if_neg h66]
    rw [hg, m_thrownCode, m_booked, m_a_si, m_a_st, m_a_bo]
    exact ⟨(xh_e2 (by decide)).symm, fun z => absurd ((xh_e2 (by decide)).symm.trans z) (by decide), rfl, rfl, rfl, rfl, fun _ _ => rfl, fun _ _ => rfl, xv_up hI⟩
  have h67 : (3 : Int32) ≤ f_IN_bitCount (f_ST_goodPartials (powers motion.toNatClampNeg) (challenges motion.toNatClampNeg) (answers motion.toNatClampNeg) (z_bl motion.toNatClampNeg) (z_fi motion.toNatClampNeg) z_v checks pp qq z_n z_m) := by rw [hcn, ← h2.2.1]; exact h66
  have hg : g_ST_join motion z_mo z_v pp qq z_n z_m checks (z_st motion.toNatClampNeg) (z_bl motion.toNatClampNeg) (z_fi motion.toNatClampNeg) (powers motion.toNatClampNeg) (challenges motion.toNatClampNeg) (answers motion.toNatClampNeg) = none := by rw [g_ST_join, xt_el0 (sm_at1 h6), xt_el0 (sm_op0 h19), if_neg h42, if_pos h67]
  rw [show f_MD_join_thrownCode motion z_n z_m z_d z_a z_b z_v z_mo z_h z_st z_bl z_fi z_po z_pr z_an = _ from by rw [f_MD_join_thrownCode, if_neg h6, if_pos h19, if_pos h41, if_pos h66]]
  rw [show f_MD_join_booked motion z_n z_m z_d z_a z_b z_v z_mo z_bk z_h z_st z_bl z_fi z_po z_pr z_an = _ from by rw [f_MD_join_booked, if_neg h6, if_pos h19, if_pos h41, if_pos h66]]
  rw [show f_MD_join_a_si motion z_n z_m z_d z_a z_b z_v z_mo z_h z_st z_bl z_fi z_po z_pr z_an z_sg = _ from by rw [f_MD_join_a_si, if_neg h6, if_pos h19, if_pos h41, if_pos h66]]
  rw [show f_MD_join_a_st motion z_n z_m z_d z_a z_b z_v z_mo z_h z_st z_bl z_fi z_po z_pr z_an = _ from by rw [f_MD_join_a_st, if_neg h6, if_pos h19, if_pos h41, if_pos h66]]
  rw [show f_MD_join_a_bo motion z_n z_m z_d z_a z_b z_v z_mo z_bk z_h z_st z_bl z_fi z_po z_pr z_an z_bo = _ from by rw [f_MD_join_a_bo, if_neg h6, if_pos h19, if_pos h41, if_pos h66]]
  rw [hg]
  have hbk := vp_in_iff.mp (xv_bkj hI h6 h19)
  have h12 : ¬ (12 : Int32) ≤ z_bk := by
    rw [Int32.le_iff_toInt_le, show (12 : Int32).toInt = 12 from rfl]
    omega
  have hsg : f_KE_signatureOf (z_bl motion.toNatClampNeg) signing z_n = f_MD_raised (z_bl motion.toNatClampNeg) (f_MD_inverse (65537 : Int64) ((2 : Int64) * z_m)) z_n := by
    have hx : (z_bl motion.toNatClampNeg).toInt = ((z_bl motion.toNatClampNeg).toInt.toNat : Nat) := by omega
    obtain ⟨N, hn, h4, hN⟩ := sk_nat hky
    rw [← sk_sign hky]
    obtain ⟨S, hS⟩ := sk_sn hky
    exact nu_pr hx hS hn (by omega) (by omega)
  refine ⟨rfl, fun _ => ?_, ?_, ?_, ?_, ?_, fun j hj => sm_u2 _ _ hj, fun j hj => sm_v2 _ _ hj, ?_⟩
  · show f_ST_join _ _ _ _ _ _ _ _ _ _ _ _ _ _ _ = _
    rw [f_ST_join, xt_el0 (sm_at1 h6), xt_el0 (sm_op0 h19), if_neg h42, if_pos h67, f_MO_seal_signature, hsg, f_MD_join, if_neg h6, if_pos h19, if_pos h41, if_pos h66, sm_v1]
  · rw [sm_u1]
    show f_ST_join_standing _ _ _ _ _ _ _ _ _ _ _ _ _ _ _ = _
    rw [f_ST_join_standing, xt_el0 (sm_at1 h6), xt_el0 (sm_op0 h19), if_neg h42, if_pos h67]
    rfl
  · rw [sm_v1]
    show f_ST_join_signature _ _ _ _ _ _ _ _ _ _ _ _ _ _ _ = _
    rw [f_ST_join_signature, xt_el0 (sm_at1 h6), xt_el0 (sm_op0 h19), if_neg h42, if_pos h67, f_MO_seal_signature, hsg]
  · show f_ST_join_sealedCount _ _ _ _ _ _ _ _ _ _ _ _ _ _ _ _ = _
    rw [f_ST_join_sealedCount, xt_el0 (sm_at1 h6), xt_el0 (sm_op0 h19), if_neg h42, if_pos h67, f_ST_enter_sealedCount, if_neg h12]
  · show f_ST_join_SE _ _ _ _ _ _ _ _ _ _ _ _ _ _ _ _ = _
    rw [f_ST_join_SE, xt_el0 (sm_at1 h6), xt_el0 (sm_op0 h19), if_neg h42, if_pos h67, f_ST_enter_SE, if_neg h12]
  · obtain ⟨a1, a2, a3, a4, a5, a6, a7, a8⟩ := xv_up hI
    have hup : (z_bk + 1).toInt = z_bk.toInt + 1 := xi_inc (by omega)
    refine ⟨a1, a2, ⟨by omega, ?_⟩, a4, a5, a6, fun k hkz => ?_, a8⟩
    · rw [sc_one (st := z_st) (kk := motion.toNatClampNeg) (by rw [h19]; decide) (sm_u1 _ _ _) (fun k hk9 => by rw [sm_u2 _ _ hk9]) _ (by show motion.toInt.toNat < z_mo.toInt.toNat; omega), a3.2]
      omega
    · obtain ⟨c0, c1, d0, d1, w3, w4, w5⟩ := a7 k hkz
      by_cases h : k = motion.toNatClampNeg
      · subst h
        exact ⟨c0, c1, d0, d1, fun z => by rw [sm_u1] at z; exact absurd z (by decide), w4, w5⟩
      · exact ⟨c0, c1, d0, d1, fun z => by rw [sm_u2 _ _ h] at z; exact w3 z, w4, w5⟩
end SLF
