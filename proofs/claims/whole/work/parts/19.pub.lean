/-! the public methods: what is thrown, what is answered, what is written -/
theorem sw_40 : (Cond.stringRef "SealTrust" 40 "p and q are two safe primes of 20 .. 32767") ∈ lw_tbl := List.mem_append_right _ (List.mem_append_left _ (List.mem_of_getElem? (i := 203) rfl))
theorem sw_45 : (Cond.stringRef "SealTrust" 45 "a and b are 0 or more") ∈ lw_tbl := List.mem_append_right _ (List.mem_append_left _ (List.mem_of_getElem? (i := 230) rfl))
theorem sw_47 : (Cond.stringRef "SealTrust" 47 "base is 2 .. N - 2 and prime to N") ∈ lw_tbl := List.mem_append_right _ (List.mem_append_left _ (List.mem_of_getElem? (i := 231) rfl))
theorem sw_71 : (Cond.stringRef "SealTrust" 71 "1 .. 4 bytes at once, 24 in all") ∈ lw_tbl := List.mem_append_right _ (List.mem_append_right _ (List.mem_append_left _ (List.mem_of_getElem? (i := 24) rfl)))
theorem sw_85 : (Cond.stringRef "SealTrust" 85 "there are twelve motions") ∈ lw_tbl := List.mem_append_right _ (List.mem_append_right _ (List.mem_append_left _ (List.mem_of_getElem? (i := 66) rfl)))
theorem sw_118 : (Cond.stringRef "SealTrust" 118 "the trustee is suspended") ∈ lw_tbl := List.mem_append_right _ (List.mem_append_right _ (List.mem_append_left _ (List.mem_of_getElem? (i := 136) rfl)))
theorem sw_129 : (Cond.stringRef "SealTrust" 129 "the trustee objected") ∈ lw_tbl := List.mem_append_right _ (List.mem_append_right _ (List.mem_append_left _ (List.mem_of_getElem? (i := 182) rfl)))
theorem sw_153 : (Cond.stringRef "SealTrust" 153 "what is 0 .. 2") ∈ lw_tbl := List.mem_append_right _ (List.mem_append_right _ (List.mem_append_left _ (List.mem_of_getElem? (i := 192) rfl)))
theorem sw_140 : (Cond.stringRef "SealTrust" 140 "no partial is filed") ∈ lw_tbl := List.mem_append_right _ (List.mem_append_right _ (List.mem_append_left _ (List.mem_of_getElem? (i := 191) rfl)))
theorem sw_178 : (Cond.stringRef "SealTrust" 178 "fewer than three good partials") ∈ lw_tbl := List.mem_append_right _ (List.mem_append_right _ (List.mem_append_right _ (List.mem_append_left _ (List.mem_of_getElem? (i := 7) rfl))))
theorem sw_169 : (Cond.stringRef "SealTrust" 169 "the block is not prime to N") ∈ lw_tbl := List.mem_append_right _ (List.mem_append_right _ (List.mem_append_left _ (List.mem_of_getElem? (i := 239) rfl)))
theorem sw_206 : (Cond.stringRef "SealTrust" 206 "three of the six trustees") ∈ lw_tbl := List.mem_append_right _ (List.mem_append_right _ (List.mem_append_right _ (List.mem_append_left _ (List.mem_of_getElem? (i := 60) rfl))))
theorem sw_214 : (Cond.stringRef "SealTrust" 214 "what is 0 .. 4") ∈ lw_tbl := List.mem_append_right _ (List.mem_append_right _ (List.mem_append_right _ (List.mem_append_left _ (List.mem_of_getElem? (i := 77) rfl))))
theorem sw_216 : (Cond.stringRef "SealTrust" 216 "n is 0 or more") ∈ lw_tbl := List.mem_append_right _ (List.mem_append_right _ (List.mem_append_right _ (List.mem_append_left _ (List.mem_of_getElem? (i := 85) rfl))))
theorem sw_218 : (Cond.stringRef "SealTrust" 218 "what is 0 .. 10") ∈ lw_tbl := List.mem_append_right _ (List.mem_append_right _ (List.mem_append_right _ (List.mem_append_left _ (List.mem_of_getElem? (i := 93) rfl))))
theorem nb_KE_isSignature (number blk modulus : Int64) : f_KE_isSignature number blk modulus = 0 ∨ f_KE_isSignature number blk modulus = 1 := by
  unfold f_KE_isSignature
  split
  · exact Or.inl rfl
  · split
    · exact Or.inr rfl
    · exact Or.inl rfl
theorem nb_lf_isWholeBy (mask : Int32) (shares : Nat → Int64) (whole order : Int64) : ∀ (n : Nat) (sum : Int64) (i : Int32), lf_KE_isWholeBy_5 mask shares whole order n sum i = 0 ∨ lf_KE_isWholeBy_5 mask shares whole order n sum i = 1 := by
  intro n
  induction n with
  | zero => exact fun _ _ => Or.inl rfl
  | succ n ih =>
    intro sum i
    rw [lf_KE_isWholeBy_5]
    split
    · split
      · exact Or.inr rfl
      · exact Or.inl rfl
    · split
      · exact ih _ _
      · exact ih _ _
theorem nb_KE_isWholeBy (mask : Int32) (shares : Nat → Int64) (whole order : Int64) : f_KE_isWholeBy mask shares whole order = 0 ∨ f_KE_isWholeBy mask shares whole order = 1 := nb_lf_isWholeBy ..
theorem xs_safe0 {x : Int32} (h : ¬ f_ST_isSafePrime x = 0) : ¬ x = 0 := fun z => h (by rw [z]; rfl)
theorem xs_n1 {x : Int32} (h : ¬ x < 1) : 1 ≤ x.toInt := by
  rw [Int32.lt_iff_toInt_lt] at h
  rw [show (1 : Int32).toInt = 1 from rfl] at h
  omega
theorem xs_n4 {x : Int32} (h : ¬ 4 < x) : x.toInt ≤ 4 := by
  rw [Int32.lt_iff_toInt_lt] at h
  rw [show (4 : Int32).toInt = 4 from rfl] at h
  omega
theorem xs_min2 {x n : Int32} (h0 : 0 ≤ x) (h : ¬ n ≤ x) (hn : n.toInt ≤ 12) : vp_in x 12 := by
  rw [Int32.le_iff_toInt_le] at h0 h
  rw [show (0 : Int32).toInt = 0 from rfl] at h0
  exact vp_in_iff.mpr ⟨by omega, by omega⟩
theorem xs_min3 {x : Int32} (h : x < 12) (h0 : 0 ≤ x.toInt) : vp_in x 12 := by
  rw [Int32.lt_iff_toInt_lt] at h
  rw [show (12 : Int32).toInt = 12 from rfl] at h
  exact vp_in_iff.mpr ⟨by omega, by omega⟩
theorem xs_tru {x : Int32} (h : g_ST_requireTrustee x = none) : vp_in x 6 := by
  unfold g_ST_requireTrustee at h
  split at h
  · cases h
  · split at h
    · rename_i h1 h2
      rw [Int32.lt_iff_toInt_lt] at h1 h2
      rw [show (0 : Int32).toInt = 0 from rfl] at h1
      rw [show (6 : Int32).toInt = 6 from rfl] at h2
      exact vp_in_iff.mpr ⟨by omega, by omega⟩
    · cases h
theorem xs_w5 {x : Int32} (h1 : ¬ x < 0) (h7 : x ≤ 10) (h4 : ¬ x = 4) (e0 : x.toInt ≠ 0) (e1 : x.toInt ≠ 1) (e2 : x.toInt ≠ 2) (e3 : x.toInt ≠ 3) : vp_in (x - 5) 6 := by
  rw [Int32.lt_iff_toInt_lt] at h1
  rw [Int32.le_iff_toInt_le] at h7
  rw [show (0 : Int32).toInt = 0 from rfl] at h1
  rw [show (10 : Int32).toInt = 10 from rfl] at h7
  have e4 : x.toInt ≠ 4 := xt_ne h4
  have h5 : (x - 5).toInt = x.toInt - 5 := by
    rw [Int32.toInt_sub]
    rw [show (5 : Int32).toInt = 5 from rfl]
    exact Int.bmod_eq_of_le (by omega) (by omega)
  exact vp_in_iff.mpr ⟨by omega, by omega⟩
def g_ST_deal (p_ : Int32) (q_ : Int32) (a : Int32) (b : Int32) (root_ : Int32) : Option String := if (f_ST_isSafePrime p_) = 0 then (some xt_IA) else (if (f_ST_isSafePrime q_) = 0 then (some xt_IA) else (if p_ = q_ then (some xt_IA) else (if a < 0 then (some xt_IA) else (if 0 ≤ b then (if root_ < (2 : Int32) then (some xt_IA) else (if ((p_ * q_) - (2 : Int32)) < root_ then (some xt_IA) else (if (root_ - root_ / p_ * p_) = 0 then (some xt_IA) else (if (root_ - root_ / q_ * q_) = 0 then (some xt_IA) else none)))) else (some xt_IA)))))
def f_ST_deal_motionCount (p_ : Int32) (q_ : Int32) (a : Int32) (b : Int32) (root_ : Int32) : Int32 := if (f_ST_isSafePrime p_) = 0 then 0 else (if (f_ST_isSafePrime q_) = 0 then 0 else (if p_ = q_ then 0 else (if a < 0 then 0 else (if 0 ≤ b then (if root_ < (2 : Int32) then 0 else (if ((p_ * q_) - (2 : Int32)) < root_ then 0 else (if (root_ - root_ / p_ * p_) = 0 then 0 else (if (root_ - root_ / q_ * q_) = 0 then 0 else (0 : Int32))))) else 0))))
def f_ST_deal_sealedCount (p_ : Int32) (q_ : Int32) (a : Int32) (b : Int32) (root_ : Int32) : Int32 := if (f_ST_isSafePrime p_) = 0 then 0 else (if (f_ST_isSafePrime q_) = 0 then 0 else (if p_ = q_ then 0 else (if a < 0 then 0 else (if 0 ≤ b then (if root_ < (2 : Int32) then 0 else (if ((p_ * q_) - (2 : Int32)) < root_ then 0 else (if (root_ - root_ / p_ * p_) = 0 then 0 else (if (root_ - root_ / q_ * q_) = 0 then 0 else (0 : Int32))))) else 0))))
def f_ST_deal_suspended (p_ : Int32) (q_ : Int32) (a : Int32) (b : Int32) (root_ : Int32) : Int32 := if (f_ST_isSafePrime p_) = 0 then 0 else (if (f_ST_isSafePrime q_) = 0 then 0 else (if p_ = q_ then 0 else (if a < 0 then 0 else (if 0 ≤ b then (if root_ < (2 : Int32) then 0 else (if ((p_ * q_) - (2 : Int32)) < root_ then 0 else (if (root_ - root_ / p_ * p_) = 0 then 0 else (if (root_ - root_ / q_ * q_) = 0 then 0 else (0 : Int32))))) else 0))))
def f_ST_deal_dealt (p_ : Int32) (q_ : Int32) (a : Int32) (b : Int32) (root_ : Int32) : Int32 := if (f_ST_isSafePrime p_) = 0 then 0 else (if (f_ST_isSafePrime q_) = 0 then 0 else (if p_ = q_ then 0 else (if a < 0 then 0 else (if 0 ≤ b then (if root_ < (2 : Int32) then 0 else (if ((p_ * q_) - (2 : Int32)) < root_ then 0 else (if (root_ - root_ / p_ * p_) = 0 then 0 else (if (root_ - root_ / q_ * q_) = 0 then 0 else (f_KE_begin_dealt p_.toInt64 q_.toInt64 root_.toInt64))))) else 0))))
def f_ST_deal_epoch (p_ : Int32) (q_ : Int32) (a : Int32) (b : Int32) (root_ : Int32) : Int64 := if (f_ST_isSafePrime p_) = 0 then 0 else (if (f_ST_isSafePrime q_) = 0 then 0 else (if p_ = q_ then 0 else (if a < 0 then 0 else (if 0 ≤ b then (if root_ < (2 : Int32) then 0 else (if ((p_ * q_) - (2 : Int32)) < root_ then 0 else (if (root_ - root_ / p_ * p_) = 0 then 0 else (if (root_ - root_ / q_ * q_) = 0 then 0 else (f_KE_begin_epoch p_.toInt64 q_.toInt64 root_.toInt64))))) else 0))))
def f_ST_deal_base (p_ : Int32) (q_ : Int32) (a : Int32) (b : Int32) (root_ : Int32) : Int64 := if (f_ST_isSafePrime p_) = 0 then 0 else (if (f_ST_isSafePrime q_) = 0 then 0 else (if p_ = q_ then 0 else (if a < 0 then 0 else (if 0 ≤ b then (if root_ < (2 : Int32) then 0 else (if ((p_ * q_) - (2 : Int32)) < root_ then 0 else (if (root_ - root_ / p_ * p_) = 0 then 0 else (if (root_ - root_ / q_ * q_) = 0 then 0 else (f_KE_begin_base p_.toInt64 q_.toInt64 root_.toInt64))))) else 0))))
def f_ST_deal_whole (p_ : Int32) (q_ : Int32) (a : Int32) (b : Int32) (root_ : Int32) : Int64 := if (f_ST_isSafePrime p_) = 0 then 0 else (if (f_ST_isSafePrime q_) = 0 then 0 else (if p_ = q_ then 0 else (if a < 0 then 0 else (if 0 ≤ b then (if root_ < (2 : Int32) then 0 else (if ((p_ * q_) - (2 : Int32)) < root_ then 0 else (if (root_ - root_ / p_ * p_) = 0 then 0 else (if (root_ - root_ / q_ * q_) = 0 then 0 else (f_KE_begin_whole p_.toInt64 q_.toInt64 root_.toInt64))))) else 0))))
def f_ST_deal_signing (p_ : Int32) (q_ : Int32) (a : Int32) (b : Int32) (root_ : Int32) : Int64 := if (f_ST_isSafePrime p_) = 0 then 0 else (if (f_ST_isSafePrime q_) = 0 then 0 else (if p_ = q_ then 0 else (if a < 0 then 0 else (if 0 ≤ b then (if root_ < (2 : Int32) then 0 else (if ((p_ * q_) - (2 : Int32)) < root_ then 0 else (if (root_ - root_ / p_ * p_) = 0 then 0 else (if (root_ - root_ / q_ * q_) = 0 then 0 else (f_KE_begin_signing p_.toInt64 q_.toInt64 root_.toInt64))))) else 0))))
def f_ST_deal_p (p_ : Int32) (q_ : Int32) (a : Int32) (b : Int32) (root_ : Int32) : Int64 := if (f_ST_isSafePrime p_) = 0 then 0 else (if (f_ST_isSafePrime q_) = 0 then 0 else (if p_ = q_ then 0 else (if a < 0 then 0 else (if 0 ≤ b then (if root_ < (2 : Int32) then 0 else (if ((p_ * q_) - (2 : Int32)) < root_ then 0 else (if (root_ - root_ / p_ * p_) = 0 then 0 else (if (root_ - root_ / q_ * q_) = 0 then 0 else (f_KE_begin_p p_.toInt64 q_.toInt64 root_.toInt64))))) else 0))))
def f_ST_deal_q (p_ : Int32) (q_ : Int32) (a : Int32) (b : Int32) (root_ : Int32) : Int64 := if (f_ST_isSafePrime p_) = 0 then 0 else (if (f_ST_isSafePrime q_) = 0 then 0 else (if p_ = q_ then 0 else (if a < 0 then 0 else (if 0 ≤ b then (if root_ < (2 : Int32) then 0 else (if ((p_ * q_) - (2 : Int32)) < root_ then 0 else (if (root_ - root_ / p_ * p_) = 0 then 0 else (if (root_ - root_ / q_ * q_) = 0 then 0 else (f_KE_begin_q p_.toInt64 q_.toInt64 root_.toInt64))))) else 0))))
def f_ST_deal_modulus (p_ : Int32) (q_ : Int32) (a : Int32) (b : Int32) (root_ : Int32) : Int64 := if (f_ST_isSafePrime p_) = 0 then 0 else (if (f_ST_isSafePrime q_) = 0 then 0 else (if p_ = q_ then 0 else (if a < 0 then 0 else (if 0 ≤ b then (if root_ < (2 : Int32) then 0 else (if ((p_ * q_) - (2 : Int32)) < root_ then 0 else (if (root_ - root_ / p_ * p_) = 0 then 0 else (if (root_ - root_ / q_ * q_) = 0 then 0 else (f_KE_begin_modulus p_.toInt64 q_.toInt64 root_.toInt64))))) else 0))))
def f_ST_deal_order (p_ : Int32) (q_ : Int32) (a : Int32) (b : Int32) (root_ : Int32) : Int64 := if (f_ST_isSafePrime p_) = 0 then 0 else (if (f_ST_isSafePrime q_) = 0 then 0 else (if p_ = q_ then 0 else (if a < 0 then 0 else (if 0 ≤ b then (if root_ < (2 : Int32) then 0 else (if ((p_ * q_) - (2 : Int32)) < root_ then 0 else (if (root_ - root_ / p_ * p_) = 0 then 0 else (if (root_ - root_ / q_ * q_) = 0 then 0 else (f_KE_begin_order p_.toInt64 q_.toInt64 root_.toInt64))))) else 0))))
def f_ST_deal_SH (p_ : Int32) (q_ : Int32) (a : Int32) (b : Int32) (root_ : Int32) (shares : Nat → Int64) (checks : Nat → Int64) : Nat → Int64 := if (f_ST_isSafePrime p_) = 0 then (fun _ => 0) else (if (f_ST_isSafePrime q_) = 0 then (fun _ => 0) else (if p_ = q_ then (fun _ => 0) else (if a < 0 then (fun _ => 0) else (if 0 ≤ b then (if root_ < (2 : Int32) then (fun _ => 0) else (if ((p_ * q_) - (2 : Int32)) < root_ then (fun _ => 0) else (if (root_ - root_ / p_ * p_) = 0 then (fun _ => 0) else (if (root_ - root_ / q_ * q_) = 0 then (fun _ => 0) else (f_KE_addPolynomial_SH a.toInt64 b.toInt64 (f_KE_begin_base p_.toInt64 q_.toInt64 root_.toInt64) (f_KE_begin_modulus p_.toInt64 q_.toInt64 root_.toInt64) (f_KE_begin_order p_.toInt64 q_.toInt64 root_.toInt64) (f_KE_begin_SH p_.toInt64 q_.toInt64 root_.toInt64 shares) checks))))) else (fun _ => 0)))))
def f_ST_deal_CH (p_ : Int32) (q_ : Int32) (a : Int32) (b : Int32) (root_ : Int32) (shares : Nat → Int64) (checks : Nat → Int64) : Nat → Int64 := if (f_ST_isSafePrime p_) = 0 then (fun _ => 0) else (if (f_ST_isSafePrime q_) = 0 then (fun _ => 0) else (if p_ = q_ then (fun _ => 0) else (if a < 0 then (fun _ => 0) else (if 0 ≤ b then (if root_ < (2 : Int32) then (fun _ => 0) else (if ((p_ * q_) - (2 : Int32)) < root_ then (fun _ => 0) else (if (root_ - root_ / p_ * p_) = 0 then (fun _ => 0) else (if (root_ - root_ / q_ * q_) = 0 then (fun _ => 0) else (f_KE_addPolynomial_CH a.toInt64 b.toInt64 (f_KE_begin_base p_.toInt64 q_.toInt64 root_.toInt64) (f_KE_begin_modulus p_.toInt64 q_.toInt64 root_.toInt64) (f_KE_begin_order p_.toInt64 q_.toInt64 root_.toInt64) (f_KE_begin_SH p_.toInt64 q_.toInt64 root_.toInt64 shares) checks))))) else (fun _ => 0)))))
set_option maxHeartbeats 4000000 in
set_option maxRecDepth 100000 in
theorem ct_ST_deal (l : Launch) {G : xg_G} (hg : xg_F G) (hl9 : l.stackTraces = false) (H : Heap) (hO : xg_O G H) (x : Nat) (p_ : Int32) (q_ : Int32) (a : Int32) (b : Int32) (root_ : Int32) (k : Nat) (bu : Nat) (ma : Nat) (se : Nat) (motionCount : Int32) (sealedCount : Int32) (suspended : Int32) (sh : Nat) (ch : Nat) (dealt : Int32) (epoch : Int64) (base : Int64) (whole : Int64) (signing : Int64) (pp : Int64) (qq : Int64) (modulus : Int64) (order : Int64) (shares : Nat → Int64) (checks : Nat → Int64) (hP : va_P G.2.1 cl_all [(x, .inr (3, [.ref k, .ref bu, .ref ma, .ref se, .int motionCount, .int sealedCount, .int suspended])), (k, .inr (1, [.ref sh, .ref ch, .int dealt, .long epoch, .long base, .long whole, .long signing, .long pp, .long qq, .long modulus, .long order])), (sh, .inl (G.2.2.2.1, 6, .inr (.inl shares))), (ch, .inl (G.2.2.2.1, 6, .inr (.inl checks)))] H) (hD0 : va_D (fun _ => True) [(x, .inr (3, [.ref k, .ref bu, .ref ma, .ref se, .int motionCount, .int sealedCount, .int suspended])), (k, .inr (1, [.ref sh, .ref ch, .int dealt, .long epoch, .long base, .long whole, .long signing, .long pp, .long qq, .long modulus, .long order])), (sh, .inl (G.2.2.2.1, 6, .inr (.inl shares))), (ch, .inl (G.2.2.2.1, 6, .inr (.inl checks)))])  : xc_Met l y_ST_deal (.code y_ST_deal b_ST_deal 6 none) ({ frames := 6, cells := 1, slots := 6, locals := 82 } : Room) (xg_Pc G [.ref x, .int p_, .int q_, .int a, .int b, .int root_] H) (xt_wr G (va_A [(x, .inr (3, [.ref k, .ref bu, .ref ma, .ref se, .int motionCount, .int sealedCount, .int suspended])), (k, .inr (1, [.ref sh, .ref ch, .int dealt, .long epoch, .long base, .long whole, .long signing, .long pp, .long qq, .long modulus, .long order])), (sh, .inl (G.2.2.2.1, 6, .inr (.inl shares))), (ch, .inl (G.2.2.2.1, 6, .inr (.inl checks)))] H.size) (g_ST_deal p_ q_ a b root_) none [(x, .inr (3, [.ref k, .ref bu, .ref ma, .ref se, .int (f_ST_deal_motionCount p_ q_ a b root_), .int (f_ST_deal_sealedCount p_ q_ a b root_), .int (f_ST_deal_suspended p_ q_ a b root_)])), (k, .inr (1, [.ref sh, .ref ch, .int (f_ST_deal_dealt p_ q_ a b root_), .long (f_ST_deal_epoch p_ q_ a b root_), .long (f_ST_deal_base p_ q_ a b root_), .long (f_ST_deal_whole p_ q_ a b root_), .long (f_ST_deal_signing p_ q_ a b root_), .long (f_ST_deal_p p_ q_ a b root_), .long (f_ST_deal_q p_ q_ a b root_), .long (f_ST_deal_modulus p_ q_ a b root_), .long (f_ST_deal_order p_ q_ a b root_)])), (sh, .inl (G.2.2.2.1, 6, .inr (.inl (f_ST_deal_SH p_ q_ a b root_ shares checks)))), (ch, .inl (G.2.2.2.1, 6, .inr (.inl (f_ST_deal_CH p_ q_ a b root_ shares checks))))] H) (va_A [(x, .inr (3, [.ref k, .ref bu, .ref ma, .ref se, .int motionCount, .int sealedCount, .int suspended])), (k, .inr (1, [.ref sh, .ref ch, .int dealt, .long epoch, .long base, .long whole, .long signing, .long pp, .long qq, .long modulus, .long order])), (sh, .inl (G.2.2.2.1, 6, .inr (.inl shares))), (ch, .inl (G.2.2.2.1, 6, .inr (.inl checks)))] H.size) := by
  refine xc_ofW (by decide) ?_
  intro p e s m args below meth c s₁ B hml hE hv
  obtain ⟨rfl, rfl, hw⟩ := hv
  have hx := B.exec
  have hb := B.bytes
  have ht := B.returns
  have hl0 := B.notSynchronized
  have S : xc_Fix p m c b_ST_deal 6 s "SealTrust" := ⟨hx, hb, hml, findClass_of_methodNamed B.named⟩
  have hD := hD0.self (sz := s.heap.size)
  generalize hAe : va_A [(x, .inr (3, [.ref k, .ref bu, .ref ma, .ref se, .int motionCount, .int sealedCount, .int suspended])), (k, .inr (1, [.ref sh, .ref ch, .int dealt, .long epoch, .long base, .long whole, .long signing, .long pp, .long qq, .long modulus, .long order])), (sh, .inl (G.2.2.2.1, 6, .inr (.inl shares))), (ch, .inl (G.2.2.2.1, 6, .inr (.inl checks)))] s.heap.size = A at hD ⊢
  have hA : ∀ q : Nat, s.heap.size ≤ q → A q := fun q h => by rw [← hAe]; exact Or.inr h
  have hS : va_S A s.heap s.heap [] := va_S.rf
  have hl := lv_entry ([.ref x, .int p_, .int q_, .int a, .int b, .int root_]) (n := 6) (Nat.le_of_ble_eq_true rfl)
  rw [lg_entry_eq]
  generalize (lg_sl ([.ref x, .int p_, .int q_, .int a, .int b, .int root_]) ++ List.replicate (6 - (lg_sl ([.ref x, .int p_, .int q_, .int a, .int b, .int root_])).length) Slot.unset).toArray = ls at hl ⊢
  have hl : lv_has ls 6 [(0, .ref x), (1, .int p_), (2, .int q_), (3, .int a), (4, .int b), (5, .int root_)] := hl
  obtain ⟨r0, hr0⟩ : ∃ r, g_ST_deal p_ q_ a b root_ = r := ⟨_, rfl⟩
  rw [hr0]
  unfold g_ST_deal at hr0
  obtain ⟨r1, hr1⟩ : ∃ r, f_ST_deal_motionCount p_ q_ a b root_ = r := ⟨_, rfl⟩
  rw [hr1]
  unfold f_ST_deal_motionCount at hr1
  obtain ⟨r2, hr2⟩ : ∃ r, f_ST_deal_sealedCount p_ q_ a b root_ = r := ⟨_, rfl⟩
  rw [hr2]
  unfold f_ST_deal_sealedCount at hr2
  obtain ⟨r3, hr3⟩ : ∃ r, f_ST_deal_suspended p_ q_ a b root_ = r := ⟨_, rfl⟩
  rw [hr3]
  unfold f_ST_deal_suspended at hr3
  obtain ⟨r4, hr4⟩ : ∃ r, f_ST_deal_dealt p_ q_ a b root_ = r := ⟨_, rfl⟩
  rw [hr4]
  unfold f_ST_deal_dealt at hr4
  obtain ⟨r5, hr5⟩ : ∃ r, f_ST_deal_epoch p_ q_ a b root_ = r := ⟨_, rfl⟩
  rw [hr5]
  unfold f_ST_deal_epoch at hr5
  obtain ⟨r6, hr6⟩ : ∃ r, f_ST_deal_base p_ q_ a b root_ = r := ⟨_, rfl⟩
  rw [hr6]
  unfold f_ST_deal_base at hr6
  obtain ⟨r7, hr7⟩ : ∃ r, f_ST_deal_whole p_ q_ a b root_ = r := ⟨_, rfl⟩
  rw [hr7]
  unfold f_ST_deal_whole at hr7
  obtain ⟨r8, hr8⟩ : ∃ r, f_ST_deal_signing p_ q_ a b root_ = r := ⟨_, rfl⟩
  rw [hr8]
  unfold f_ST_deal_signing at hr8
  obtain ⟨r9, hr9⟩ : ∃ r, f_ST_deal_p p_ q_ a b root_ = r := ⟨_, rfl⟩
  rw [hr9]
  unfold f_ST_deal_p at hr9
  obtain ⟨r10, hr10⟩ : ∃ r, f_ST_deal_q p_ q_ a b root_ = r := ⟨_, rfl⟩
  rw [hr10]
  unfold f_ST_deal_q at hr10
  obtain ⟨r11, hr11⟩ : ∃ r, f_ST_deal_modulus p_ q_ a b root_ = r := ⟨_, rfl⟩
  rw [hr11]
  unfold f_ST_deal_modulus at hr11
  obtain ⟨r12, hr12⟩ : ∃ r, f_ST_deal_order p_ q_ a b root_ = r := ⟨_, rfl⟩
  rw [hr12]
  unfold f_ST_deal_order at hr12
  obtain ⟨r13, hr13⟩ : ∃ r, f_ST_deal_SH p_ q_ a b root_ shares checks = r := ⟨_, rfl⟩
  rw [hr13]
  unfold f_ST_deal_SH at hr13
  obtain ⟨r14, hr14⟩ : ∃ r, f_ST_deal_CH p_ q_ a b root_ shares checks = r := ⟨_, rfl⟩
  rw [hr14]
  unfold f_ST_deal_CH at hr14
  show W p l e ({ frames := 6, cells := 1, slots := 6, locals := 82 } : Room) s m _ below meth c s.heap [] 0 0 (xc_Z below _ _ _ s 1 6) _
  refine lv_iload_n hx hb d_ST_deal_0 rfl (lv_at hl 1 rfl) ?_
  refine xg_read (xg_runS (rest := []) (kw := 0) si_ST_34 hg hw S (ct_ST_isSafePrime l hg s.heap p_ ) ⟨by decide, by decide, by decide, by decide⟩ rfl hl.1 rfl (Nat.le_of_ble_eq_true rfl) d_ST_deal_1) ?_
  refine lv_if_eq hx hb d_ST_deal_4 (tgt := 19) (by decide) (fun h4 => ?_) (fun h4 => ?_)
  · rw [if_pos h4] at hr0
    rw [if_pos h4] at hr1
    rw [if_pos h4] at hr2
    rw [if_pos h4] at hr3
    rw [if_pos h4] at hr4
    rw [if_pos h4] at hr5
    rw [if_pos h4] at hr6
    rw [if_pos h4] at hr7
    rw [if_pos h4] at hr8
    rw [if_pos h4] at hr9
    rw [if_pos h4] at hr10
    rw [if_pos h4] at hr11
    rw [if_pos h4] at hr12
    rw [if_pos h4] at hr13
    rw [if_pos h4] at hr14
    subst hr0
    exact th_1 hg hw hO S hl9 hl0 hE sw_40 hl.1 d_ST_deal_19 d_ST_deal_22 d_ST_deal_23 d_ST_deal_25 d_ST_deal_28 ⟨by decide, by decide, by decide, by decide⟩ ⟨by decide, by decide⟩ (fun _ h => xt_wr1 h)
  · rw [if_neg h4] at hr0
    rw [if_neg h4] at hr1
    rw [if_neg h4] at hr2
    rw [if_neg h4] at hr3
    rw [if_neg h4] at hr4
    rw [if_neg h4] at hr5
    rw [if_neg h4] at hr6
    rw [if_neg h4] at hr7
    rw [if_neg h4] at hr8
    rw [if_neg h4] at hr9
    rw [if_neg h4] at hr10
    rw [if_neg h4] at hr11
    rw [if_neg h4] at hr12
    rw [if_neg h4] at hr13
    rw [if_neg h4] at hr14
    refine lv_iload_n hx hb d_ST_deal_7 rfl (lv_at hl 2 rfl) ?_
    refine xg_read (xg_runS (rest := []) (kw := 0) si_ST_34 hg hw S (ct_ST_isSafePrime l hg s.heap q_ ) ⟨by decide, by decide, by decide, by decide⟩ rfl hl.1 rfl (Nat.le_of_ble_eq_true rfl) d_ST_deal_8) ?_
    refine lv_if_eq hx hb d_ST_deal_11 (tgt := 19) (by decide) (fun h11 => ?_) (fun h11 => ?_)
    · rw [if_pos h11] at hr0
      rw [if_pos h11] at hr1
      rw [if_pos h11] at hr2
      rw [if_pos h11] at hr3
      rw [if_pos h11] at hr4
      rw [if_pos h11] at hr5
      rw [if_pos h11] at hr6
      rw [if_pos h11] at hr7
      rw [if_pos h11] at hr8
      rw [if_pos h11] at hr9
      rw [if_pos h11] at hr10
      rw [if_pos h11] at hr11
      rw [if_pos h11] at hr12
      rw [if_pos h11] at hr13
      rw [if_pos h11] at hr14
      subst hr0
      exact th_1 hg hw hO S hl9 hl0 hE sw_40 hl.1 d_ST_deal_19 d_ST_deal_22 d_ST_deal_23 d_ST_deal_25 d_ST_deal_28 ⟨by decide, by decide, by decide, by decide⟩ ⟨by decide, by decide⟩ (fun _ h => xt_wr1 h)
    · rw [if_neg h11] at hr0
      rw [if_neg h11] at hr1
      rw [if_neg h11] at hr2
      rw [if_neg h11] at hr3
      rw [if_neg h11] at hr4
      rw [if_neg h11] at hr5
      rw [if_neg h11] at hr6
      rw [if_neg h11] at hr7
      rw [if_neg h11] at hr8
      rw [if_neg h11] at hr9
      rw [if_neg h11] at hr10
      rw [if_neg h11] at hr11
      rw [if_neg h11] at hr12
      rw [if_neg h11] at hr13
      rw [if_neg h11] at hr14
      refine lv_iload_n hx hb d_ST_deal_14 rfl (lv_at hl 1 rfl) ?_
      refine lv_iload_n hx hb d_ST_deal_15 rfl (lv_at hl 2 rfl) ?_
      refine lv_icmp_ne hx hb d_ST_deal_16 (tgt := 29) (by decide) (fun h16 => ?_) (fun h16 => ?_)
      · rw [if_neg h16] at hr0
        rw [if_neg h16] at hr1
        rw [if_neg h16] at hr2
        rw [if_neg h16] at hr3
        rw [if_neg h16] at hr4
        rw [if_neg h16] at hr5
        rw [if_neg h16] at hr6
        rw [if_neg h16] at hr7
        rw [if_neg h16] at hr8
        rw [if_neg h16] at hr9
        rw [if_neg h16] at hr10
        rw [if_neg h16] at hr11
        rw [if_neg h16] at hr12
        rw [if_neg h16] at hr13
        rw [if_neg h16] at hr14
        refine lv_iload_n hx hb d_ST_deal_29 rfl (lv_at hl 3 rfl) ?_
        refine lv_if_lt hx hb d_ST_deal_30 (tgt := 38) (by decide) (fun h30 => ?_) (fun h30 => ?_)
        · rw [if_pos h30] at hr0
          rw [if_pos h30] at hr1
          rw [if_pos h30] at hr2
          rw [if_pos h30] at hr3
          rw [if_pos h30] at hr4
          rw [if_pos h30] at hr5
          rw [if_pos h30] at hr6
          rw [if_pos h30] at hr7
          rw [if_pos h30] at hr8
          rw [if_pos h30] at hr9
          rw [if_pos h30] at hr10
          rw [if_pos h30] at hr11
          rw [if_pos h30] at hr12
          rw [if_pos h30] at hr13
          rw [if_pos h30] at hr14
          subst hr0
          exact th_1 hg hw hO S hl9 hl0 hE sw_45 hl.1 d_ST_deal_38 d_ST_deal_41 d_ST_deal_42 d_ST_deal_44 d_ST_deal_47 ⟨by decide, by decide, by decide, by decide⟩ ⟨by decide, by decide⟩ (fun _ h => xt_wr1 h)
        · rw [if_neg h30] at hr0
          rw [if_neg h30] at hr1
          rw [if_neg h30] at hr2
          rw [if_neg h30] at hr3
          rw [if_neg h30] at hr4
          rw [if_neg h30] at hr5
          rw [if_neg h30] at hr6
          rw [if_neg h30] at hr7
          rw [if_neg h30] at hr8
          rw [if_neg h30] at hr9
          rw [if_neg h30] at hr10
          rw [if_neg h30] at hr11
          rw [if_neg h30] at hr12
          rw [if_neg h30] at hr13
          rw [if_neg h30] at hr14
          refine lv_iload hx hb d_ST_deal_33 (lv_at hl 4 rfl) ?_
          refine lv_if_ge hx hb d_ST_deal_35 (tgt := 48) (by decide) (fun h35 => ?_) (fun h35 => ?_)
          · rw [if_pos h35] at hr0
            rw [if_pos h35] at hr1
            rw [if_pos h35] at hr2
            rw [if_pos h35] at hr3
            rw [if_pos h35] at hr4
            rw [if_pos h35] at hr5
            rw [if_pos h35] at hr6
            rw [if_pos h35] at hr7
            rw [if_pos h35] at hr8
            rw [if_pos h35] at hr9
            rw [if_pos h35] at hr10
            rw [if_pos h35] at hr11
            rw [if_pos h35] at hr12
            rw [if_pos h35] at hr13
            rw [if_pos h35] at hr14
            refine lv_iload hx hb d_ST_deal_48 (lv_at hl 5 rfl) ?_
            refine lv_iconst (v := (2 : Int32)) hx hb d_ST_deal_50 (by decide) ?_
            refine lv_icmp_lt hx hb d_ST_deal_51 (tgt := 78) (by decide) (fun h51 => ?_) (fun h51 => ?_)
            · rw [if_pos h51] at hr0
              rw [if_pos h51] at hr1
              rw [if_pos h51] at hr2
              rw [if_pos h51] at hr3
              rw [if_pos h51] at hr4
              rw [if_pos h51] at hr5
              rw [if_pos h51] at hr6
              rw [if_pos h51] at hr7
              rw [if_pos h51] at hr8
              rw [if_pos h51] at hr9
              rw [if_pos h51] at hr10
              rw [if_pos h51] at hr11
              rw [if_pos h51] at hr12
              rw [if_pos h51] at hr13
              rw [if_pos h51] at hr14
              subst hr0
              exact th_1 hg hw hO S hl9 hl0 hE sw_47 hl.1 d_ST_deal_78 d_ST_deal_81 d_ST_deal_82 d_ST_deal_84 d_ST_deal_87 ⟨by decide, by decide, by decide, by decide⟩ ⟨by decide, by decide⟩ (fun _ h => xt_wr1 h)
            · rw [if_neg h51] at hr0
              rw [if_neg h51] at hr1
              rw [if_neg h51] at hr2
              rw [if_neg h51] at hr3
              rw [if_neg h51] at hr4
              rw [if_neg h51] at hr5
              rw [if_neg h51] at hr6
              rw [if_neg h51] at hr7
              rw [if_neg h51] at hr8
              rw [if_neg h51] at hr9
              rw [if_neg h51] at hr10
              rw [if_neg h51] at hr11
              rw [if_neg h51] at hr12
              rw [if_neg h51] at hr13
              rw [if_neg h51] at hr14
              refine lv_iload hx hb d_ST_deal_54 (lv_at hl 5 rfl) ?_
              refine lv_iload_n hx hb d_ST_deal_56 rfl (lv_at hl 1 rfl) ?_
              refine lv_iload_n hx hb d_ST_deal_57 rfl (lv_at hl 2 rfl) ?_
              refine lv_imul hx hb d_ST_deal_58 ?_
              refine lv_iconst (v := (2 : Int32)) hx hb d_ST_deal_59 (by decide) ?_
              refine lv_isub hx hb d_ST_deal_60 ?_
              refine lv_icmp_gt hx hb d_ST_deal_61 (tgt := 78) (by decide) (fun h61 => ?_) (fun h61 => ?_)
              · rw [if_pos h61] at hr0
                rw [if_pos h61] at hr1
                rw [if_pos h61] at hr2
                rw [if_pos h61] at hr3
                rw [if_pos h61] at hr4
                rw [if_pos h61] at hr5
                rw [if_pos h61] at hr6
                rw [if_pos h61] at hr7
                rw [if_pos h61] at hr8
                rw [if_pos h61] at hr9
                rw [if_pos h61] at hr10
                rw [if_pos h61] at hr11
                rw [if_pos h61] at hr12
                rw [if_pos h61] at hr13
                rw [if_pos h61] at hr14
                subst hr0
                exact th_1 hg hw hO S hl9 hl0 hE sw_47 hl.1 d_ST_deal_78 d_ST_deal_81 d_ST_deal_82 d_ST_deal_84 d_ST_deal_87 ⟨by decide, by decide, by decide, by decide⟩ ⟨by decide, by decide⟩ (fun _ h => xt_wr1 h)
              · rw [if_neg h61] at hr0
                rw [if_neg h61] at hr1
                rw [if_neg h61] at hr2
                rw [if_neg h61] at hr3
                rw [if_neg h61] at hr4
                rw [if_neg h61] at hr5
                rw [if_neg h61] at hr6
                rw [if_neg h61] at hr7
                rw [if_neg h61] at hr8
                rw [if_neg h61] at hr9
                rw [if_neg h61] at hr10
                rw [if_neg h61] at hr11
                rw [if_neg h61] at hr12
                rw [if_neg h61] at hr13
                rw [if_neg h61] at hr14
                refine lv_iload hx hb d_ST_deal_64 (lv_at hl 5 rfl) ?_
                refine lv_iload_n hx hb d_ST_deal_66 rfl (lv_at hl 1 rfl) ?_
                refine lv_irem hx hb d_ST_deal_67 (xs_safe0 h4) ?_
                refine lv_if_eq hx hb d_ST_deal_68 (tgt := 78) (by decide) (fun h68 => ?_) (fun h68 => ?_)
                · rw [if_pos h68] at hr0
                  rw [if_pos h68] at hr1
                  rw [if_pos h68] at hr2
                  rw [if_pos h68] at hr3
                  rw [if_pos h68] at hr4
                  rw [if_pos h68] at hr5
                  rw [if_pos h68] at hr6
                  rw [if_pos h68] at hr7
                  rw [if_pos h68] at hr8
                  rw [if_pos h68] at hr9
                  rw [if_pos h68] at hr10
                  rw [if_pos h68] at hr11
                  rw [if_pos h68] at hr12
                  rw [if_pos h68] at hr13
                  rw [if_pos h68] at hr14
                  subst hr0
                  exact th_1 hg hw hO S hl9 hl0 hE sw_47 hl.1 d_ST_deal_78 d_ST_deal_81 d_ST_deal_82 d_ST_deal_84 d_ST_deal_87 ⟨by decide, by decide, by decide, by decide⟩ ⟨by decide, by decide⟩ (fun _ h => xt_wr1 h)
                · rw [if_neg h68] at hr0
                  rw [if_neg h68] at hr1
                  rw [if_neg h68] at hr2
                  rw [if_neg h68] at hr3
                  rw [if_neg h68] at hr4
                  rw [if_neg h68] at hr5
                  rw [if_neg h68] at hr6
                  rw [if_neg h68] at hr7
                  rw [if_neg h68] at hr8
                  rw [if_neg h68] at hr9
                  rw [if_neg h68] at hr10
                  rw [if_neg h68] at hr11
                  rw [if_neg h68] at hr12
                  rw [if_neg h68] at hr13
                  rw [if_neg h68] at hr14
                  refine lv_iload hx hb d_ST_deal_71 (lv_at hl 5 rfl) ?_
                  refine lv_iload_n hx hb d_ST_deal_73 rfl (lv_at hl 2 rfl) ?_
                  refine lv_irem hx hb d_ST_deal_74 (xs_safe0 h11) ?_
                  refine lv_if_ne hx hb d_ST_deal_75 (tgt := 88) (by decide) (fun h75 => ?_) (fun h75 => ?_)
                  · rw [if_neg h75] at hr0
                    rw [if_neg h75] at hr1
                    rw [if_neg h75] at hr2
                    rw [if_neg h75] at hr3
                    rw [if_neg h75] at hr4
                    rw [if_neg h75] at hr5
                    rw [if_neg h75] at hr6
                    rw [if_neg h75] at hr7
                    rw [if_neg h75] at hr8
                    rw [if_neg h75] at hr9
                    rw [if_neg h75] at hr10
                    rw [if_neg h75] at hr11
                    rw [if_neg h75] at hr12
                    rw [if_neg h75] at hr13
                    rw [if_neg h75] at hr14
                    refine lv_aload_n hx hb d_ST_deal_88 rfl (lv_at hl 0 rfl) ?_
                    refine gf_ST_10 hg hw S hP 0 rfl rfl d_ST_deal_89 ?_
                    refine lv_iload_n hx hb d_ST_deal_92 rfl (lv_at hl 1 rfl) ?_
                    refine lv_i2l hx hb d_ST_deal_93 rfl ?_
                    refine lv_iload_n hx hb d_ST_deal_94 rfl (lv_at hl 2 rfl) ?_
                    refine lv_i2l hx hb d_ST_deal_95 rfl ?_
                    refine lv_iload hx hb d_ST_deal_96 (lv_at hl 5 rfl) ?_
                    refine lv_i2l hx hb d_ST_deal_98 rfl ?_
                    refine xw_use (wc := [(k, .inr (1, [.ref sh, .ref ch, .int dealt, .long epoch, .long base, .long whole, .long signing, .long pp, .long qq, .long modulus, .long order])), (sh, .inl (G.2.2.2.1, 6, .inr (.inl shares)))]) (wr := [(x, .inr (3, [.ref k, .ref bu, .ref ma, .ref se, .int motionCount, .int sealedCount, .int suspended])), (ch, .inl (G.2.2.2.1, 6, .inr (.inl checks)))]) (xg_runV (rest := []) (kw := 0) si_ST_49 hg hw S (va_recv (xg_k hg hw) hP (ci := 1) rfl (q0 := 1) rfl) (ct_KE_begin l hg s.heap k p_.toInt64 q_.toInt64 root_.toInt64 sh ch dealt epoch base whole signing pp qq modulus order shares (hP.sub [1, 2] rfl) ((hD.sub [1, 2] (by decide) rfl).weaken (fun _ _ _ _ => trivial)) ) ⟨by decide, by decide, by decide, by decide⟩ rfl hl.1 rfl (Nat.le_of_ble_eq_true rfl) d_ST_deal_99) hP hD hS hA [1, 2] [0, 3] rfl rfl (by decide) (by decide) (fun H1 L1 hP hD hS => ?_)
                    have hP : va_P G.2.1 cl_all [(x, .inr (3, [.ref k, .ref bu, .ref ma, .ref se, .int motionCount, .int sealedCount, .int suspended])), (ch, .inl (G.2.2.2.1, 6, .inr (.inl checks))), (k, .inr (1, [.ref sh, .ref ch, .int (f_KE_begin_dealt p_.toInt64 q_.toInt64 root_.toInt64), .long (f_KE_begin_epoch p_.toInt64 q_.toInt64 root_.toInt64), .long (f_KE_begin_base p_.toInt64 q_.toInt64 root_.toInt64), .long (f_KE_begin_whole p_.toInt64 q_.toInt64 root_.toInt64), .long (f_KE_begin_signing p_.toInt64 q_.toInt64 root_.toInt64), .long (f_KE_begin_p p_.toInt64 q_.toInt64 root_.toInt64), .long (f_KE_begin_q p_.toInt64 q_.toInt64 root_.toInt64), .long (f_KE_begin_modulus p_.toInt64 q_.toInt64 root_.toInt64), .long (f_KE_begin_order p_.toInt64 q_.toInt64 root_.toInt64)])), (sh, .inl (G.2.2.2.1, 6, .inr (.inl (f_KE_begin_SH p_.toInt64 q_.toInt64 root_.toInt64 shares))))] H1 := hP
                    have hD : va_D A [(x, .inr (3, [.ref k, .ref bu, .ref ma, .ref se, .int motionCount, .int sealedCount, .int suspended])), (ch, .inl (G.2.2.2.1, 6, .inr (.inl checks))), (k, .inr (1, [.ref sh, .ref ch, .int (f_KE_begin_dealt p_.toInt64 q_.toInt64 root_.toInt64), .long (f_KE_begin_epoch p_.toInt64 q_.toInt64 root_.toInt64), .long (f_KE_begin_base p_.toInt64 q_.toInt64 root_.toInt64), .long (f_KE_begin_whole p_.toInt64 q_.toInt64 root_.toInt64), .long (f_KE_begin_signing p_.toInt64 q_.toInt64 root_.toInt64), .long (f_KE_begin_p p_.toInt64 q_.toInt64 root_.toInt64), .long (f_KE_begin_q p_.toInt64 q_.toInt64 root_.toInt64), .long (f_KE_begin_modulus p_.toInt64 q_.toInt64 root_.toInt64), .long (f_KE_begin_order p_.toInt64 q_.toInt64 root_.toInt64)])), (sh, .inl (G.2.2.2.1, 6, .inr (.inl (f_KE_begin_SH p_.toInt64 q_.toInt64 root_.toInt64 shares))))] := hD
                    refine lv_aload_n hx hb d_ST_deal_102 rfl (lv_at hl 0 rfl) ?_
                    refine gf_ST_10 hg hw S hP 0 rfl rfl d_ST_deal_103 ?_
                    refine lv_iload_n hx hb d_ST_deal_106 rfl (lv_at hl 3 rfl) ?_
                    refine lv_i2l hx hb d_ST_deal_107 rfl ?_
                    refine lv_iload hx hb d_ST_deal_108 (lv_at hl 4 rfl) ?_
                    refine lv_i2l hx hb d_ST_deal_110 rfl ?_
                    refine xw_use (wc := [(k, .inr (1, [.ref sh, .ref ch, .int (f_KE_begin_dealt p_.toInt64 q_.toInt64 root_.toInt64), .long (f_KE_begin_epoch p_.toInt64 q_.toInt64 root_.toInt64), .long (f_KE_begin_base p_.toInt64 q_.toInt64 root_.toInt64), .long (f_KE_begin_whole p_.toInt64 q_.toInt64 root_.toInt64), .long (f_KE_begin_signing p_.toInt64 q_.toInt64 root_.toInt64), .long (f_KE_begin_p p_.toInt64 q_.toInt64 root_.toInt64), .long (f_KE_begin_q p_.toInt64 q_.toInt64 root_.toInt64), .long (f_KE_begin_modulus p_.toInt64 q_.toInt64 root_.toInt64), .long (f_KE_begin_order p_.toInt64 q_.toInt64 root_.toInt64)])), (sh, .inl (G.2.2.2.1, 6, .inr (.inl (f_KE_begin_SH p_.toInt64 q_.toInt64 root_.toInt64 shares)))), (ch, .inl (G.2.2.2.1, 6, .inr (.inl checks)))]) (wr := [(x, .inr (3, [.ref k, .ref bu, .ref ma, .ref se, .int motionCount, .int sealedCount, .int suspended]))]) (xg_runV (rest := []) (kw := 0) si_ST_53 hg hw S (va_recv (xg_k hg hw) hP (ci := 1) rfl (q0 := 2) rfl) (ct_KE_addPolynomial l hg H1 k a.toInt64 b.toInt64 sh ch (f_KE_begin_dealt p_.toInt64 q_.toInt64 root_.toInt64) (f_KE_begin_epoch p_.toInt64 q_.toInt64 root_.toInt64) (f_KE_begin_base p_.toInt64 q_.toInt64 root_.toInt64) (f_KE_begin_whole p_.toInt64 q_.toInt64 root_.toInt64) (f_KE_begin_signing p_.toInt64 q_.toInt64 root_.toInt64) (f_KE_begin_p p_.toInt64 q_.toInt64 root_.toInt64) (f_KE_begin_q p_.toInt64 q_.toInt64 root_.toInt64) (f_KE_begin_modulus p_.toInt64 q_.toInt64 root_.toInt64) (f_KE_begin_order p_.toInt64 q_.toInt64 root_.toInt64) (f_KE_begin_SH p_.toInt64 q_.toInt64 root_.toInt64 shares) checks (hP.sub [2, 3, 1] rfl) ((hD.sub [2, 3, 1] (by decide) rfl).weaken (fun _ _ _ _ => trivial)) ) ⟨by decide, by decide, by decide, by decide⟩ rfl hl.1 rfl (Nat.le_of_ble_eq_true rfl) d_ST_deal_111) hP hD hS hA [2, 3, 1] [0] rfl rfl (by decide) (by decide) (fun H2 L2 hP hD hS => ?_)
                    have hP : va_P G.2.1 cl_all [(x, .inr (3, [.ref k, .ref bu, .ref ma, .ref se, .int motionCount, .int sealedCount, .int suspended])), (k, .inr (1, [.ref sh, .ref ch, .int (f_KE_begin_dealt p_.toInt64 q_.toInt64 root_.toInt64), .long (f_KE_begin_epoch p_.toInt64 q_.toInt64 root_.toInt64), .long (f_KE_begin_base p_.toInt64 q_.toInt64 root_.toInt64), .long (f_KE_begin_whole p_.toInt64 q_.toInt64 root_.toInt64), .long (f_KE_begin_signing p_.toInt64 q_.toInt64 root_.toInt64), .long (f_KE_begin_p p_.toInt64 q_.toInt64 root_.toInt64), .long (f_KE_begin_q p_.toInt64 q_.toInt64 root_.toInt64), .long (f_KE_begin_modulus p_.toInt64 q_.toInt64 root_.toInt64), .long (f_KE_begin_order p_.toInt64 q_.toInt64 root_.toInt64)])), (sh, .inl (G.2.2.2.1, 6, .inr (.inl (f_KE_addPolynomial_SH a.toInt64 b.toInt64 (f_KE_begin_base p_.toInt64 q_.toInt64 root_.toInt64) (f_KE_begin_modulus p_.toInt64 q_.toInt64 root_.toInt64) (f_KE_begin_order p_.toInt64 q_.toInt64 root_.toInt64) (f_KE_begin_SH p_.toInt64 q_.toInt64 root_.toInt64 shares) checks)))), (ch, .inl (G.2.2.2.1, 6, .inr (.inl (f_KE_addPolynomial_CH a.toInt64 b.toInt64 (f_KE_begin_base p_.toInt64 q_.toInt64 root_.toInt64) (f_KE_begin_modulus p_.toInt64 q_.toInt64 root_.toInt64) (f_KE_begin_order p_.toInt64 q_.toInt64 root_.toInt64) (f_KE_begin_SH p_.toInt64 q_.toInt64 root_.toInt64 shares) checks))))] H2 := hP
                    have hD : va_D A [(x, .inr (3, [.ref k, .ref bu, .ref ma, .ref se, .int motionCount, .int sealedCount, .int suspended])), (k, .inr (1, [.ref sh, .ref ch, .int (f_KE_begin_dealt p_.toInt64 q_.toInt64 root_.toInt64), .long (f_KE_begin_epoch p_.toInt64 q_.toInt64 root_.toInt64), .long (f_KE_begin_base p_.toInt64 q_.toInt64 root_.toInt64), .long (f_KE_begin_whole p_.toInt64 q_.toInt64 root_.toInt64), .long (f_KE_begin_signing p_.toInt64 q_.toInt64 root_.toInt64), .long (f_KE_begin_p p_.toInt64 q_.toInt64 root_.toInt64), .long (f_KE_begin_q p_.toInt64 q_.toInt64 root_.toInt64), .long (f_KE_begin_modulus p_.toInt64 q_.toInt64 root_.toInt64), .long (f_KE_begin_order p_.toInt64 q_.toInt64 root_.toInt64)])), (sh, .inl (G.2.2.2.1, 6, .inr (.inl (f_KE_addPolynomial_SH a.toInt64 b.toInt64 (f_KE_begin_base p_.toInt64 q_.toInt64 root_.toInt64) (f_KE_begin_modulus p_.toInt64 q_.toInt64 root_.toInt64) (f_KE_begin_order p_.toInt64 q_.toInt64 root_.toInt64) (f_KE_begin_SH p_.toInt64 q_.toInt64 root_.toInt64 shares) checks)))), (ch, .inl (G.2.2.2.1, 6, .inr (.inl (f_KE_addPolynomial_CH a.toInt64 b.toInt64 (f_KE_begin_base p_.toInt64 q_.toInt64 root_.toInt64) (f_KE_begin_modulus p_.toInt64 q_.toInt64 root_.toInt64) (f_KE_begin_order p_.toInt64 q_.toInt64 root_.toInt64) (f_KE_begin_SH p_.toInt64 q_.toInt64 root_.toInt64 shares) checks))))] := hD
                    refine lv_aload_n hx hb d_ST_deal_114 rfl (lv_at hl 0 rfl) ?_
                    refine lv_iconst (v := (0 : Int32)) hx hb d_ST_deal_115 (by decide) ?_
                    refine pf_ST_57 hg hw S hP hD hS 0 rfl rfl rfl (Nat.le_of_ble_eq_true rfl) d_ST_deal_116 (fun H3 L3 hP hD hS => ?_)
                    have hP : va_P G.2.1 cl_all [(x, .inr (3, [.ref k, .ref bu, .ref ma, .ref se, .int (0 : Int32), .int sealedCount, .int suspended])), (k, .inr (1, [.ref sh, .ref ch, .int (f_KE_begin_dealt p_.toInt64 q_.toInt64 root_.toInt64), .long (f_KE_begin_epoch p_.toInt64 q_.toInt64 root_.toInt64), .long (f_KE_begin_base p_.toInt64 q_.toInt64 root_.toInt64), .long (f_KE_begin_whole p_.toInt64 q_.toInt64 root_.toInt64), .long (f_KE_begin_signing p_.toInt64 q_.toInt64 root_.toInt64), .long (f_KE_begin_p p_.toInt64 q_.toInt64 root_.toInt64), .long (f_KE_begin_q p_.toInt64 q_.toInt64 root_.toInt64), .long (f_KE_begin_modulus p_.toInt64 q_.toInt64 root_.toInt64), .long (f_KE_begin_order p_.toInt64 q_.toInt64 root_.toInt64)])), (sh, .inl (G.2.2.2.1, 6, .inr (.inl (f_KE_addPolynomial_SH a.toInt64 b.toInt64 (f_KE_begin_base p_.toInt64 q_.toInt64 root_.toInt64) (f_KE_begin_modulus p_.toInt64 q_.toInt64 root_.toInt64) (f_KE_begin_order p_.toInt64 q_.toInt64 root_.toInt64) (f_KE_begin_SH p_.toInt64 q_.toInt64 root_.toInt64 shares) checks)))), (ch, .inl (G.2.2.2.1, 6, .inr (.inl (f_KE_addPolynomial_CH a.toInt64 b.toInt64 (f_KE_begin_base p_.toInt64 q_.toInt64 root_.toInt64) (f_KE_begin_modulus p_.toInt64 q_.toInt64 root_.toInt64) (f_KE_begin_order p_.toInt64 q_.toInt64 root_.toInt64) (f_KE_begin_SH p_.toInt64 q_.toInt64 root_.toInt64 shares) checks))))] H3 := hP
                    have hD : va_D A [(x, .inr (3, [.ref k, .ref bu, .ref ma, .ref se, .int (0 : Int32), .int sealedCount, .int suspended])), (k, .inr (1, [.ref sh, .ref ch, .int (f_KE_begin_dealt p_.toInt64 q_.toInt64 root_.toInt64), .long (f_KE_begin_epoch p_.toInt64 q_.toInt64 root_.toInt64), .long (f_KE_begin_base p_.toInt64 q_.toInt64 root_.toInt64), .long (f_KE_begin_whole p_.toInt64 q_.toInt64 root_.toInt64), .long (f_KE_begin_signing p_.toInt64 q_.toInt64 root_.toInt64), .long (f_KE_begin_p p_.toInt64 q_.toInt64 root_.toInt64), .long (f_KE_begin_q p_.toInt64 q_.toInt64 root_.toInt64), .long (f_KE_begin_modulus p_.toInt64 q_.toInt64 root_.toInt64), .long (f_KE_begin_order p_.toInt64 q_.toInt64 root_.toInt64)])), (sh, .inl (G.2.2.2.1, 6, .inr (.inl (f_KE_addPolynomial_SH a.toInt64 b.toInt64 (f_KE_begin_base p_.toInt64 q_.toInt64 root_.toInt64) (f_KE_begin_modulus p_.toInt64 q_.toInt64 root_.toInt64) (f_KE_begin_order p_.toInt64 q_.toInt64 root_.toInt64) (f_KE_begin_SH p_.toInt64 q_.toInt64 root_.toInt64 shares) checks)))), (ch, .inl (G.2.2.2.1, 6, .inr (.inl (f_KE_addPolynomial_CH a.toInt64 b.toInt64 (f_KE_begin_base p_.toInt64 q_.toInt64 root_.toInt64) (f_KE_begin_modulus p_.toInt64 q_.toInt64 root_.toInt64) (f_KE_begin_order p_.toInt64 q_.toInt64 root_.toInt64) (f_KE_begin_SH p_.toInt64 q_.toInt64 root_.toInt64 shares) checks))))] := hD
                    refine lv_aload_n hx hb d_ST_deal_119 rfl (lv_at hl 0 rfl) ?_
                    refine lv_iconst (v := (0 : Int32)) hx hb d_ST_deal_120 (by decide) ?_
                    refine pf_ST_61 hg hw S hP hD hS 0 rfl rfl rfl (Nat.le_of_ble_eq_true rfl) d_ST_deal_121 (fun H4 L4 hP hD hS => ?_)
                    have hP : va_P G.2.1 cl_all [(x, .inr (3, [.ref k, .ref bu, .ref ma, .ref se, .int (0 : Int32), .int (0 : Int32), .int suspended])), (k, .inr (1, [.ref sh, .ref ch, .int (f_KE_begin_dealt p_.toInt64 q_.toInt64 root_.toInt64), .long (f_KE_begin_epoch p_.toInt64 q_.toInt64 root_.toInt64), .long (f_KE_begin_base p_.toInt64 q_.toInt64 root_.toInt64), .long (f_KE_begin_whole p_.toInt64 q_.toInt64 root_.toInt64), .long (f_KE_begin_signing p_.toInt64 q_.toInt64 root_.toInt64), .long (f_KE_begin_p p_.toInt64 q_.toInt64 root_.toInt64), .long (f_KE_begin_q p_.toInt64 q_.toInt64 root_.toInt64), .long (f_KE_begin_modulus p_.toInt64 q_.toInt64 root_.toInt64), .long (f_KE_begin_order p_.toInt64 q_.toInt64 root_.toInt64)])), (sh, .inl (G.2.2.2.1, 6, .inr (.inl (f_KE_addPolynomial_SH a.toInt64 b.toInt64 (f_KE_begin_base p_.toInt64 q_.toInt64 root_.toInt64) (f_KE_begin_modulus p_.toInt64 q_.toInt64 root_.toInt64) (f_KE_begin_order p_.toInt64 q_.toInt64 root_.toInt64) (f_KE_begin_SH p_.toInt64 q_.toInt64 root_.toInt64 shares) checks)))), (ch, .inl (G.2.2.2.1, 6, .inr (.inl (f_KE_addPolynomial_CH a.toInt64 b.toInt64 (f_KE_begin_base p_.toInt64 q_.toInt64 root_.toInt64) (f_KE_begin_modulus p_.toInt64 q_.toInt64 root_.toInt64) (f_KE_begin_order p_.toInt64 q_.toInt64 root_.toInt64) (f_KE_begin_SH p_.toInt64 q_.toInt64 root_.toInt64 shares) checks))))] H4 := hP
                    have hD : va_D A [(x, .inr (3, [.ref k, .ref bu, .ref ma, .ref se, .int (0 : Int32), .int (0 : Int32), .int suspended])), (k, .inr (1, [.ref sh, .ref ch, .int (f_KE_begin_dealt p_.toInt64 q_.toInt64 root_.toInt64), .long (f_KE_begin_epoch p_.toInt64 q_.toInt64 root_.toInt64), .long (f_KE_begin_base p_.toInt64 q_.toInt64 root_.toInt64), .long (f_KE_begin_whole p_.toInt64 q_.toInt64 root_.toInt64), .long (f_KE_begin_signing p_.toInt64 q_.toInt64 root_.toInt64), .long (f_KE_begin_p p_.toInt64 q_.toInt64 root_.toInt64), .long (f_KE_begin_q p_.toInt64 q_.toInt64 root_.toInt64), .long (f_KE_begin_modulus p_.toInt64 q_.toInt64 root_.toInt64), .long (f_KE_begin_order p_.toInt64 q_.toInt64 root_.toInt64)])), (sh, .inl (G.2.2.2.1, 6, .inr (.inl (f_KE_addPolynomial_SH a.toInt64 b.toInt64 (f_KE_begin_base p_.toInt64 q_.toInt64 root_.toInt64) (f_KE_begin_modulus p_.toInt64 q_.toInt64 root_.toInt64) (f_KE_begin_order p_.toInt64 q_.toInt64 root_.toInt64) (f_KE_begin_SH p_.toInt64 q_.toInt64 root_.toInt64 shares) checks)))), (ch, .inl (G.2.2.2.1, 6, .inr (.inl (f_KE_addPolynomial_CH a.toInt64 b.toInt64 (f_KE_begin_base p_.toInt64 q_.toInt64 root_.toInt64) (f_KE_begin_modulus p_.toInt64 q_.toInt64 root_.toInt64) (f_KE_begin_order p_.toInt64 q_.toInt64 root_.toInt64) (f_KE_begin_SH p_.toInt64 q_.toInt64 root_.toInt64 shares) checks))))] := hD
                    refine lv_aload_n hx hb d_ST_deal_124 rfl (lv_at hl 0 rfl) ?_
                    refine lv_iconst (v := (0 : Int32)) hx hb d_ST_deal_125 (by decide) ?_
                    refine pf_ST_64 hg hw S hP hD hS 0 rfl rfl rfl (Nat.le_of_ble_eq_true rfl) d_ST_deal_126 (fun H5 L5 hP hD hS => ?_)
                    have hP : va_P G.2.1 cl_all [(x, .inr (3, [.ref k, .ref bu, .ref ma, .ref se, .int (0 : Int32), .int (0 : Int32), .int (0 : Int32)])), (k, .inr (1, [.ref sh, .ref ch, .int (f_KE_begin_dealt p_.toInt64 q_.toInt64 root_.toInt64), .long (f_KE_begin_epoch p_.toInt64 q_.toInt64 root_.toInt64), .long (f_KE_begin_base p_.toInt64 q_.toInt64 root_.toInt64), .long (f_KE_begin_whole p_.toInt64 q_.toInt64 root_.toInt64), .long (f_KE_begin_signing p_.toInt64 q_.toInt64 root_.toInt64), .long (f_KE_begin_p p_.toInt64 q_.toInt64 root_.toInt64), .long (f_KE_begin_q p_.toInt64 q_.toInt64 root_.toInt64), .long (f_KE_begin_modulus p_.toInt64 q_.toInt64 root_.toInt64), .long (f_KE_begin_order p_.toInt64 q_.toInt64 root_.toInt64)])), (sh, .inl (G.2.2.2.1, 6, .inr (.inl (f_KE_addPolynomial_SH a.toInt64 b.toInt64 (f_KE_begin_base p_.toInt64 q_.toInt64 root_.toInt64) (f_KE_begin_modulus p_.toInt64 q_.toInt64 root_.toInt64) (f_KE_begin_order p_.toInt64 q_.toInt64 root_.toInt64) (f_KE_begin_SH p_.toInt64 q_.toInt64 root_.toInt64 shares) checks)))), (ch, .inl (G.2.2.2.1, 6, .inr (.inl (f_KE_addPolynomial_CH a.toInt64 b.toInt64 (f_KE_begin_base p_.toInt64 q_.toInt64 root_.toInt64) (f_KE_begin_modulus p_.toInt64 q_.toInt64 root_.toInt64) (f_KE_begin_order p_.toInt64 q_.toInt64 root_.toInt64) (f_KE_begin_SH p_.toInt64 q_.toInt64 root_.toInt64 shares) checks))))] H5 := hP
                    have hD : va_D A [(x, .inr (3, [.ref k, .ref bu, .ref ma, .ref se, .int (0 : Int32), .int (0 : Int32), .int (0 : Int32)])), (k, .inr (1, [.ref sh, .ref ch, .int (f_KE_begin_dealt p_.toInt64 q_.toInt64 root_.toInt64), .long (f_KE_begin_epoch p_.toInt64 q_.toInt64 root_.toInt64), .long (f_KE_begin_base p_.toInt64 q_.toInt64 root_.toInt64), .long (f_KE_begin_whole p_.toInt64 q_.toInt64 root_.toInt64), .long (f_KE_begin_signing p_.toInt64 q_.toInt64 root_.toInt64), .long (f_KE_begin_p p_.toInt64 q_.toInt64 root_.toInt64), .long (f_KE_begin_q p_.toInt64 q_.toInt64 root_.toInt64), .long (f_KE_begin_modulus p_.toInt64 q_.toInt64 root_.toInt64), .long (f_KE_begin_order p_.toInt64 q_.toInt64 root_.toInt64)])), (sh, .inl (G.2.2.2.1, 6, .inr (.inl (f_KE_addPolynomial_SH a.toInt64 b.toInt64 (f_KE_begin_base p_.toInt64 q_.toInt64 root_.toInt64) (f_KE_begin_modulus p_.toInt64 q_.toInt64 root_.toInt64) (f_KE_begin_order p_.toInt64 q_.toInt64 root_.toInt64) (f_KE_begin_SH p_.toInt64 q_.toInt64 root_.toInt64 shares) checks)))), (ch, .inl (G.2.2.2.1, 6, .inr (.inl (f_KE_addPolynomial_CH a.toInt64 b.toInt64 (f_KE_begin_base p_.toInt64 q_.toInt64 root_.toInt64) (f_KE_begin_modulus p_.toInt64 q_.toInt64 root_.toInt64) (f_KE_begin_order p_.toInt64 q_.toInt64 root_.toInt64) (f_KE_begin_SH p_.toInt64 q_.toInt64 root_.toInt64 shares) checks))))] := hD
                    subst hr0
                    subst hr1
                    subst hr2
                    subst hr3
                    subst hr4
                    subst hr5
                    subst hr6
                    subst hr7
                    subst hr8
                    subst hr9
                    subst hr10
                    subst hr11
                    subst hr12
                    subst hr13
                    subst hr14
                    refine W.widen (k := 1) (n := 6) (Nat.le_of_ble_eq_true rfl) (Nat.le_of_ble_eq_true rfl) ?_
                    exact xc_vret hx hb ht hl0 (xw_F hS) hS.2.2 (xt_wr0 hP hD) d_ST_deal_129
                  · rw [if_pos h75] at hr0
                    rw [if_pos h75] at hr1
                    rw [if_pos h75] at hr2
                    rw [if_pos h75] at hr3
                    rw [if_pos h75] at hr4
                    rw [if_pos h75] at hr5
                    rw [if_pos h75] at hr6
                    rw [if_pos h75] at hr7
                    rw [if_pos h75] at hr8
                    rw [if_pos h75] at hr9
                    rw [if_pos h75] at hr10
                    rw [if_pos h75] at hr11
                    rw [if_pos h75] at hr12
                    rw [if_pos h75] at hr13
                    rw [if_pos h75] at hr14
                    subst hr0
                    exact th_1 hg hw hO S hl9 hl0 hE sw_47 hl.1 d_ST_deal_78 d_ST_deal_81 d_ST_deal_82 d_ST_deal_84 d_ST_deal_87 ⟨by decide, by decide, by decide, by decide⟩ ⟨by decide, by decide⟩ (fun _ h => xt_wr1 h)
          · rw [if_neg h35] at hr0
            rw [if_neg h35] at hr1
            rw [if_neg h35] at hr2
            rw [if_neg h35] at hr3
            rw [if_neg h35] at hr4
            rw [if_neg h35] at hr5
            rw [if_neg h35] at hr6
            rw [if_neg h35] at hr7
            rw [if_neg h35] at hr8
            rw [if_neg h35] at hr9
            rw [if_neg h35] at hr10
            rw [if_neg h35] at hr11
            rw [if_neg h35] at hr12
            rw [if_neg h35] at hr13
            rw [if_neg h35] at hr14
            subst hr0
            exact th_1 hg hw hO S hl9 hl0 hE sw_45 hl.1 d_ST_deal_38 d_ST_deal_41 d_ST_deal_42 d_ST_deal_44 d_ST_deal_47 ⟨by decide, by decide, by decide, by decide⟩ ⟨by decide, by decide⟩ (fun _ h => xt_wr1 h)
      · rw [if_pos h16] at hr0
        rw [if_pos h16] at hr1
        rw [if_pos h16] at hr2
        rw [if_pos h16] at hr3
        rw [if_pos h16] at hr4
        rw [if_pos h16] at hr5
        rw [if_pos h16] at hr6
        rw [if_pos h16] at hr7
        rw [if_pos h16] at hr8
        rw [if_pos h16] at hr9
        rw [if_pos h16] at hr10
        rw [if_pos h16] at hr11
        rw [if_pos h16] at hr12
        rw [if_pos h16] at hr13
        rw [if_pos h16] at hr14
        subst hr0
        exact th_1 hg hw hO S hl9 hl0 hE sw_40 hl.1 d_ST_deal_19 d_ST_deal_22 d_ST_deal_23 d_ST_deal_25 d_ST_deal_28 ⟨by decide, by decide, by decide, by decide⟩ ⟨by decide, by decide⟩ (fun _ h => xt_wr1 h)
def g_ST_put (n_ : Int32) (size : Int32) : Option String := if n_ < (1 : Int32) then (some xt_IA) else (if (4 : Int32) < n_ then (some xt_IA) else (if n_ ≤ (f_BU_room size) then none else (some xt_IA)))
def f_ST_put (word : Int32) (n_ : Int32) (size : Int32) (bytes : Nat → Int32) : Int32 := if n_ < (1 : Int32) then 0 else (if (4 : Int32) < n_ then 0 else (if n_ ≤ (f_BU_room size) then (f_BU_count (f_BU_append_size word n_ size bytes)) else 0))
def f_ST_put_size (word : Int32) (n_ : Int32) (size : Int32) (bytes : Nat → Int32) : Int32 := if n_ < (1 : Int32) then 0 else (if (4 : Int32) < n_ then 0 else (if n_ ≤ (f_BU_room size) then (f_BU_append_size word n_ size bytes) else 0))
def f_ST_put_BY (word : Int32) (n_ : Int32) (size : Int32) (bytes : Nat → Int32) : Nat → Int32 := if n_ < (1 : Int32) then (fun _ => 0) else (if (4 : Int32) < n_ then (fun _ => 0) else (if n_ ≤ (f_BU_room size) then (f_BU_append_BY word n_ size bytes) else (fun _ => 0)))
set_option maxHeartbeats 4000000 in
set_option maxRecDepth 100000 in
theorem ct_ST_put (l : Launch) {G : xg_G} (hg : xg_F G) (hl9 : l.stackTraces = false) (H : Heap) (hO : xg_O G H) (x : Nat) (word : Int32) (n_ : Int32) (k : Nat) (bu : Nat) (ma : Nat) (se : Nat) (motionCount : Int32) (sealedCount : Int32) (suspended : Int32) (bys : Nat) (size : Int32) (bytes : Nat → Int32) (hP : va_P G.2.1 cl_all [(x, .inr (3, [.ref k, .ref bu, .ref ma, .ref se, .int motionCount, .int sealedCount, .int suspended])), (bu, .inr (0, [.ref bys, .int size])), (bys, .inl (G.2.2.1, 24, .inl bytes))] H) (hD0 : va_D (fun _ => True) [(x, .inr (3, [.ref k, .ref bu, .ref ma, .ref se, .int motionCount, .int sealedCount, .int suspended])), (bu, .inr (0, [.ref bys, .int size])), (bys, .inl (G.2.2.1, 24, .inl bytes))]) (hZ : 0 ≤ size.toInt) : xc_Met l y_ST_put (.code y_ST_put b_ST_put 3 (some .int)) ({ frames := 6, cells := 1, slots := 6, locals := 82 } : Room) (xg_Pc G [.ref x, .int word, .int n_] H) (xt_wr G (va_A [(x, .inr (3, [.ref k, .ref bu, .ref ma, .ref se, .int motionCount, .int sealedCount, .int suspended])), (bu, .inr (0, [.ref bys, .int size])), (bys, .inl (G.2.2.1, 24, .inl bytes))] H.size) (g_ST_put n_ size) (some (.int (f_ST_put word n_ size bytes))) [(x, .inr (3, [.ref k, .ref bu, .ref ma, .ref se, .int motionCount, .int sealedCount, .int suspended])), (bu, .inr (0, [.ref bys, .int (f_ST_put_size word n_ size bytes)])), (bys, .inl (G.2.2.1, 24, .inl (f_ST_put_BY word n_ size bytes)))] H) (va_A [(x, .inr (3, [.ref k, .ref bu, .ref ma, .ref se, .int motionCount, .int sealedCount, .int suspended])), (bu, .inr (0, [.ref bys, .int size])), (bys, .inl (G.2.2.1, 24, .inl bytes))] H.size) := by
  refine xc_ofW (by decide) ?_
  intro p e s m args below meth c s₁ B hml hE hv
  obtain ⟨rfl, rfl, hw⟩ := hv
  have hx := B.exec
  have hb := B.bytes
  have ht := B.returns
  have hl0 := B.notSynchronized
  have S : xc_Fix p m c b_ST_put 3 s "SealTrust" := ⟨hx, hb, hml, findClass_of_methodNamed B.named⟩
  have hD := hD0.self (sz := s.heap.size)
  generalize hAe : va_A [(x, .inr (3, [.ref k, .ref bu, .ref ma, .ref se, .int motionCount, .int sealedCount, .int suspended])), (bu, .inr (0, [.ref bys, .int size])), (bys, .inl (G.2.2.1, 24, .inl bytes))] s.heap.size = A at hD ⊢
  have hA : ∀ q : Nat, s.heap.size ≤ q → A q := fun q h => by rw [← hAe]; exact Or.inr h
  have hS : va_S A s.heap s.heap [] := va_S.rf
  have hl := lv_entry ([.ref x, .int word, .int n_]) (n := 3) (Nat.le_of_ble_eq_true rfl)
  rw [lg_entry_eq]
  generalize (lg_sl ([.ref x, .int word, .int n_]) ++ List.replicate (3 - (lg_sl ([.ref x, .int word, .int n_])).length) Slot.unset).toArray = ls at hl ⊢
  have hl : lv_has ls 3 [(0, .ref x), (1, .int word), (2, .int n_)] := hl
  obtain ⟨r0, hr0⟩ : ∃ r, g_ST_put n_ size = r := ⟨_, rfl⟩
  rw [hr0]
  unfold g_ST_put at hr0
  obtain ⟨r1, hr1⟩ : ∃ r, f_ST_put word n_ size bytes = r := ⟨_, rfl⟩
  rw [hr1]
  unfold f_ST_put at hr1
  obtain ⟨r2, hr2⟩ : ∃ r, f_ST_put_size word n_ size bytes = r := ⟨_, rfl⟩
  rw [hr2]
  unfold f_ST_put_size at hr2
  obtain ⟨r3, hr3⟩ : ∃ r, f_ST_put_BY word n_ size bytes = r := ⟨_, rfl⟩
  rw [hr3]
  unfold f_ST_put_BY at hr3
  show W p l e ({ frames := 6, cells := 1, slots := 6, locals := 82 } : Room) s m _ below meth c s.heap [] 0 0 (xc_Z below _ _ _ s 1 6) _
  refine lv_iload_n hx hb d_ST_put_0 rfl (lv_at hl 2 rfl) ?_
  refine lv_iconst (v := (1 : Int32)) hx hb d_ST_put_1 (by decide) ?_
  refine lv_icmp_lt hx hb d_ST_put_2 (tgt := 21) (by decide) (fun h2 => ?_) (fun h2 => ?_)
  · rw [if_pos h2] at hr0
    rw [if_pos h2] at hr1
    rw [if_pos h2] at hr2
    rw [if_pos h2] at hr3
    subst hr0
    exact th_1 hg hw hO S hl9 hl0 hE sw_71 hl.1 d_ST_put_21 d_ST_put_24 d_ST_put_25 d_ST_put_27 d_ST_put_30 ⟨by decide, by decide, by decide, by decide⟩ ⟨by decide, by decide⟩ (fun _ h => xt_wr1 h)
  · rw [if_neg h2] at hr0
    rw [if_neg h2] at hr1
    rw [if_neg h2] at hr2
    rw [if_neg h2] at hr3
    refine lv_iload_n hx hb d_ST_put_5 rfl (lv_at hl 2 rfl) ?_
    refine lv_iconst (v := (4 : Int32)) hx hb d_ST_put_6 (by decide) ?_
    refine lv_icmp_gt hx hb d_ST_put_7 (tgt := 21) (by decide) (fun h7 => ?_) (fun h7 => ?_)
    · rw [if_pos h7] at hr0
      rw [if_pos h7] at hr1
      rw [if_pos h7] at hr2
      rw [if_pos h7] at hr3
      subst hr0
      exact th_1 hg hw hO S hl9 hl0 hE sw_71 hl.1 d_ST_put_21 d_ST_put_24 d_ST_put_25 d_ST_put_27 d_ST_put_30 ⟨by decide, by decide, by decide, by decide⟩ ⟨by decide, by decide⟩ (fun _ h => xt_wr1 h)
    · rw [if_neg h7] at hr0
      rw [if_neg h7] at hr1
      rw [if_neg h7] at hr2
      rw [if_neg h7] at hr3
      refine lv_iload_n hx hb d_ST_put_10 rfl (lv_at hl 2 rfl) ?_
      refine lv_aload_n hx hb d_ST_put_11 rfl (lv_at hl 0 rfl) ?_
      refine gf_ST_19 hg hw S hP 0 rfl rfl d_ST_put_12 ?_
      refine xg_read (xg_runV (rest := [.int n_]) (kw := 1) si_ST_67 hg hw S (va_recv (xg_k hg hw) hP (ci := 0) rfl (q0 := 1) rfl) (ct_BU_room l hg s.heap bu bys size (hP.sub [1] rfl) ) ⟨by decide, by decide, by decide, by decide⟩ rfl hl.1 rfl (Nat.le_of_ble_eq_true rfl) d_ST_put_15) ?_
      refine lv_icmp_le hx hb d_ST_put_18 (tgt := 31) (by decide) (fun h18 => ?_) (fun h18 => ?_)
      · rw [if_pos h18] at hr0
        rw [if_pos h18] at hr1
        rw [if_pos h18] at hr2
        rw [if_pos h18] at hr3
        refine lv_aload_n hx hb d_ST_put_31 rfl (lv_at hl 0 rfl) ?_
        refine gf_ST_19 hg hw S hP 0 rfl rfl d_ST_put_32 ?_
        refine lv_iload_n hx hb d_ST_put_35 rfl (lv_at hl 1 rfl) ?_
        refine lv_iload_n hx hb d_ST_put_36 rfl (lv_at hl 2 rfl) ?_
        refine xw_use (wc := [(bu, .inr (0, [.ref bys, .int size])), (bys, .inl (G.2.2.1, 24, .inl bytes))]) (wr := [(x, .inr (3, [.ref k, .ref bu, .ref ma, .ref se, .int motionCount, .int sealedCount, .int suspended]))]) (xg_runV (rest := []) (kw := 0) si_ST_73 hg hw S (va_recv (xg_k hg hw) hP (ci := 0) rfl (q0 := 1) rfl) (ct_BU_append l hg s.heap bu word n_ bys size bytes (hP.sub [1, 2] rfl) ((hD.sub [1, 2] (by decide) rfl).weaken (fun _ _ _ _ => trivial)) hZ (xs_n1 h2) (xs_n4 h7)) ⟨by decide, by decide, by decide, by decide⟩ rfl hl.1 rfl (Nat.le_of_ble_eq_true rfl) d_ST_put_37) hP hD hS hA [1, 2] [0] rfl rfl (by decide) (by decide) (fun H1 L1 hP hD hS => ?_)
        have hP : va_P G.2.1 cl_all [(x, .inr (3, [.ref k, .ref bu, .ref ma, .ref se, .int motionCount, .int sealedCount, .int suspended])), (bu, .inr (0, [.ref bys, .int (f_BU_append_size word n_ size bytes)])), (bys, .inl (G.2.2.1, 24, .inl (f_BU_append_BY word n_ size bytes)))] H1 := hP
        have hD : va_D A [(x, .inr (3, [.ref k, .ref bu, .ref ma, .ref se, .int motionCount, .int sealedCount, .int suspended])), (bu, .inr (0, [.ref bys, .int (f_BU_append_size word n_ size bytes)])), (bys, .inl (G.2.2.1, 24, .inl (f_BU_append_BY word n_ size bytes)))] := hD
        refine lv_aload_n hx hb d_ST_put_40 rfl (lv_at hl 0 rfl) ?_
        refine gf_ST_19 hg hw S hP 0 rfl rfl d_ST_put_41 ?_
        refine xg_read (xg_runV (rest := []) (kw := 0) si_ST_77 hg hw S (va_recv (xg_k hg hw) hP (ci := 0) rfl (q0 := 1) rfl) (ct_BU_count l hg H1 bu bys (f_BU_append_size word n_ size bytes) (hP.sub [1] rfl) ) ⟨by decide, by decide, by decide, by decide⟩ rfl hl.1 rfl (Nat.le_of_ble_eq_true rfl) d_ST_put_44) ?_
        subst hr0
        subst hr1
        subst hr2
        subst hr3
        refine W.widen (k := 1) (n := 6) (Nat.le_of_ble_eq_true rfl) (Nat.le_of_ble_eq_true rfl) ?_
        exact xc_iret hx hb ht hl0 (xw_F hS) hS.2.2 (xt_wr0 hP hD) d_ST_put_47
      · rw [if_neg h18] at hr0
        rw [if_neg h18] at hr1
        rw [if_neg h18] at hr2
        rw [if_neg h18] at hr3
        subst hr0
        exact th_1 hg hw hO S hl9 hl0 hE sw_71 hl.1 d_ST_put_21 d_ST_put_24 d_ST_put_25 d_ST_put_27 d_ST_put_30 ⟨by decide, by decide, by decide, by decide⟩ ⟨by decide, by decide⟩ (fun _ h => xt_wr1 h)
def g_ST_motion (motionCount : Int32) (dealt : Int32) (size : Int32) : Option String := xt_el (g_ST_requireDocument dealt size) (g_ST_requireDocument dealt size) (if motionCount < (12 : Int32) then none else (some xt_IS))
def f_ST_motion (motionCount : Int32) (dealt : Int32) (size : Int32) : Int32 := xt_el (g_ST_requireDocument dealt size) 0 (if motionCount < (12 : Int32) then ((motionCount + (1 : Int32)) - (1 : Int32)) else 0)
def f_ST_motion_motionCount (motionCount : Int32) (dealt : Int32) (size : Int32) : Int32 := xt_el (g_ST_requireDocument dealt size) 0 (if motionCount < (12 : Int32) then (motionCount + (1 : Int32)) else 0)
def f_ST_motion_size (motionCount : Int32) (dealt : Int32) (size : Int32) : Int32 := xt_el (g_ST_requireDocument dealt size) 0 (if motionCount < (12 : Int32) then f_BU_clear_size else 0)
def f_ST_motion_standing (motionCount : Int32) (dealt : Int32) (modulus : Int64) (size : Int32) (bytes : Nat → Int32) : Int32 := xt_el (g_ST_requireDocument dealt size) 0 (if motionCount < (12 : Int32) then (f_MO_begin_standing (f_KE_blockOf modulus bytes size)) else 0)
def f_ST_motion_block (motionCount : Int32) (dealt : Int32) (modulus : Int64) (size : Int32) (bytes : Nat → Int32) : Int64 := xt_el (g_ST_requireDocument dealt size) 0 (if motionCount < (12 : Int32) then (f_MO_begin_block (f_KE_blockOf modulus bytes size)) else 0)
def f_ST_motion_partials (motionCount : Int32) (dealt : Int32) (modulus : Int64) (size : Int32) (bytes : Nat → Int32) : Int32 := xt_el (g_ST_requireDocument dealt size) 0 (if motionCount < (12 : Int32) then (f_MO_begin_partials (f_KE_blockOf modulus bytes size)) else 0)
def f_ST_motion_objections (motionCount : Int32) (dealt : Int32) (modulus : Int64) (size : Int32) (bytes : Nat → Int32) : Int32 := xt_el (g_ST_requireDocument dealt size) 0 (if motionCount < (12 : Int32) then (f_MO_begin_objections (f_KE_blockOf modulus bytes size)) else 0)
def f_ST_motion_signature (motionCount : Int32) (dealt : Int32) (modulus : Int64) (size : Int32) (bytes : Nat → Int32) : Int64 := xt_el (g_ST_requireDocument dealt size) 0 (if motionCount < (12 : Int32) then (f_MO_begin_signature (f_KE_blockOf modulus bytes size)) else 0)
set_option maxHeartbeats 4000000 in
set_option maxRecDepth 100000 in
theorem ct_ST_motion (l : Launch) {G : xg_G} (hg : xg_F G) (hl9 : l.stackTraces = false) (H : Heap) (hO : xg_O G H) (x : Nat) (k : Nat) (bu : Nat) (ma : Nat) (se : Nat) (motionCount : Int32) (sealedCount : Int32) (suspended : Int32) (sh : Nat) (ch : Nat) (dealt : Int32) (epoch : Int64) (base : Int64) (whole : Int64) (signing : Int64) (pp : Int64) (qq : Int64) (modulus : Int64) (order : Int64) (bys : Nat) (size : Int32) (bytes : Nat → Int32) (mot : Nat → Option Nat) (mo : Nat) (pw : Nat) (cg : Nat) (an : Nat) (standing : Int32) (block : Int64) (partials : Int32) (objections : Int32) (signature : Int64) (hP : va_P G.2.1 cl_all [(x, .inr (3, [.ref k, .ref bu, .ref ma, .ref se, .int motionCount, .int sealedCount, .int suspended])), (k, .inr (1, [.ref sh, .ref ch, .int dealt, .long epoch, .long base, .long whole, .long signing, .long pp, .long qq, .long modulus, .long order])), (bu, .inr (0, [.ref bys, .int size])), (bys, .inl (G.2.2.1, 24, .inl bytes)), (ma, .inl (G.2.2.2.2, 12, .inr (.inr (.inr (.inr mot))))), (mo, .inr (2, [.ref pw, .ref cg, .ref an, .int standing, .long block, .int partials, .int objections, .long signature]))] H) (hD0 : va_D (fun _ => True) [(x, .inr (3, [.ref k, .ref bu, .ref ma, .ref se, .int motionCount, .int sealedCount, .int suspended])), (k, .inr (1, [.ref sh, .ref ch, .int dealt, .long epoch, .long base, .long whole, .long signing, .long pp, .long qq, .long modulus, .long order])), (bu, .inr (0, [.ref bys, .int size])), (bys, .inl (G.2.2.1, 24, .inl bytes)), (ma, .inl (G.2.2.2.2, 12, .inr (.inr (.inr (.inr mot))))), (mo, .inr (2, [.ref pw, .ref cg, .ref an, .int standing, .long block, .int partials, .int objections, .long signature]))]) (hZ : size.toInt ≤ 24) (hC0 : 0 ≤ motionCount.toInt) (hM : motionCount < 12 → mot motionCount.toNatClampNeg = some mo) : xc_Met l y_ST_motion (.code y_ST_motion b_ST_motion 1 (some .int)) ({ frames := 8, cells := 8, slots := 48, locals := 106 } : Room) (xg_Pc G [.ref x] H) (xt_wr G (va_A [(x, .inr (3, [.ref k, .ref bu, .ref ma, .ref se, .int motionCount, .int sealedCount, .int suspended])), (k, .inr (1, [.ref sh, .ref ch, .int dealt, .long epoch, .long base, .long whole, .long signing, .long pp, .long qq, .long modulus, .long order])), (bu, .inr (0, [.ref bys, .int size])), (bys, .inl (G.2.2.1, 24, .inl bytes)), (ma, .inl (G.2.2.2.2, 12, .inr (.inr (.inr (.inr mot))))), (mo, .inr (2, [.ref pw, .ref cg, .ref an, .int standing, .long block, .int partials, .int objections, .long signature]))] H.size) (g_ST_motion motionCount dealt size) (some (.int (f_ST_motion motionCount dealt size))) [(x, .inr (3, [.ref k, .ref bu, .ref ma, .ref se, .int (f_ST_motion_motionCount motionCount dealt size), .int sealedCount, .int suspended])), (k, .inr (1, [.ref sh, .ref ch, .int dealt, .long epoch, .long base, .long whole, .long signing, .long pp, .long qq, .long modulus, .long order])), (bu, .inr (0, [.ref bys, .int (f_ST_motion_size motionCount dealt size)])), (bys, .inl (G.2.2.1, 24, .inl bytes)), (ma, .inl (G.2.2.2.2, 12, .inr (.inr (.inr (.inr mot))))), (mo, .inr (2, [.ref pw, .ref cg, .ref an, .int (f_ST_motion_standing motionCount dealt modulus size bytes), .long (f_ST_motion_block motionCount dealt modulus size bytes), .int (f_ST_motion_partials motionCount dealt modulus size bytes), .int (f_ST_motion_objections motionCount dealt modulus size bytes), .long (f_ST_motion_signature motionCount dealt modulus size bytes)]))] H) (va_A [(x, .inr (3, [.ref k, .ref bu, .ref ma, .ref se, .int motionCount, .int sealedCount, .int suspended])), (k, .inr (1, [.ref sh, .ref ch, .int dealt, .long epoch, .long base, .long whole, .long signing, .long pp, .long qq, .long modulus, .long order])), (bu, .inr (0, [.ref bys, .int size])), (bys, .inl (G.2.2.1, 24, .inl bytes)), (ma, .inl (G.2.2.2.2, 12, .inr (.inr (.inr (.inr mot))))), (mo, .inr (2, [.ref pw, .ref cg, .ref an, .int standing, .long block, .int partials, .int objections, .long signature]))] H.size) := by
  refine xc_ofW (by decide) ?_
  intro p e s m args below meth c s₁ B hml hE hv
  obtain ⟨rfl, rfl, hw⟩ := hv
  have hx := B.exec
  have hb := B.bytes
  have ht := B.returns
  have hl0 := B.notSynchronized
  have S : xc_Fix p m c b_ST_motion 1 s "SealTrust" := ⟨hx, hb, hml, findClass_of_methodNamed B.named⟩
  have hD := hD0.self (sz := s.heap.size)
  generalize hAe : va_A [(x, .inr (3, [.ref k, .ref bu, .ref ma, .ref se, .int motionCount, .int sealedCount, .int suspended])), (k, .inr (1, [.ref sh, .ref ch, .int dealt, .long epoch, .long base, .long whole, .long signing, .long pp, .long qq, .long modulus, .long order])), (bu, .inr (0, [.ref bys, .int size])), (bys, .inl (G.2.2.1, 24, .inl bytes)), (ma, .inl (G.2.2.2.2, 12, .inr (.inr (.inr (.inr mot))))), (mo, .inr (2, [.ref pw, .ref cg, .ref an, .int standing, .long block, .int partials, .int objections, .long signature]))] s.heap.size = A at hD ⊢
  have hA : ∀ q : Nat, s.heap.size ≤ q → A q := fun q h => by rw [← hAe]; exact Or.inr h
  have hS : va_S A s.heap s.heap [] := va_S.rf
  have hl := lv_entry ([.ref x]) (n := 1) (Nat.le_of_ble_eq_true rfl)
  rw [lg_entry_eq]
  generalize (lg_sl ([.ref x]) ++ List.replicate (1 - (lg_sl ([.ref x])).length) Slot.unset).toArray = ls at hl ⊢
  have hl : lv_has ls 1 [(0, .ref x)] := hl
  obtain ⟨r0, hr0⟩ : ∃ r, g_ST_motion motionCount dealt size = r := ⟨_, rfl⟩
  rw [hr0]
  unfold g_ST_motion at hr0
  obtain ⟨r1, hr1⟩ : ∃ r, f_ST_motion motionCount dealt size = r := ⟨_, rfl⟩
  rw [hr1]
  unfold f_ST_motion at hr1
  obtain ⟨r2, hr2⟩ : ∃ r, f_ST_motion_motionCount motionCount dealt size = r := ⟨_, rfl⟩
  rw [hr2]
  unfold f_ST_motion_motionCount at hr2
  obtain ⟨r3, hr3⟩ : ∃ r, f_ST_motion_size motionCount dealt size = r := ⟨_, rfl⟩
  rw [hr3]
  unfold f_ST_motion_size at hr3
  obtain ⟨r4, hr4⟩ : ∃ r, f_ST_motion_standing motionCount dealt modulus size bytes = r := ⟨_, rfl⟩
  rw [hr4]
  unfold f_ST_motion_standing at hr4
  obtain ⟨r5, hr5⟩ : ∃ r, f_ST_motion_block motionCount dealt modulus size bytes = r := ⟨_, rfl⟩
  rw [hr5]
  unfold f_ST_motion_block at hr5
  obtain ⟨r6, hr6⟩ : ∃ r, f_ST_motion_partials motionCount dealt modulus size bytes = r := ⟨_, rfl⟩
  rw [hr6]
  unfold f_ST_motion_partials at hr6
  obtain ⟨r7, hr7⟩ : ∃ r, f_ST_motion_objections motionCount dealt modulus size bytes = r := ⟨_, rfl⟩
  rw [hr7]
  unfold f_ST_motion_objections at hr7
  obtain ⟨r8, hr8⟩ : ∃ r, f_ST_motion_signature motionCount dealt modulus size bytes = r := ⟨_, rfl⟩
  rw [hr8]
  unfold f_ST_motion_signature at hr8
  show W p l e ({ frames := 8, cells := 8, slots := 48, locals := 106 } : Room) s m _ below meth c s.heap [] 0 0 (xc_Z below _ _ _ s 8 48) _
  refine lv_aload_n hx hb d_ST_motion_0 rfl (lv_at hl 0 rfl) ?_
  refine xt_use (xg_runV (rest := []) (kw := 0) si_ST_80 hg hw S (va_recv (xg_k hg hw) hP (ci := 3) rfl (q0 := 0) rfl) (ct_ST_requireDocument l hg hl9 s.heap hO x k bu ma se motionCount sealedCount suspended sh ch dealt epoch base whole signing pp qq modulus order bys size (hP.sub [0, 1, 2] rfl) ) ⟨by decide, by decide, by decide, by decide⟩ rfl hl.1 rfl (Nat.le_of_ble_eq_true rfl) d_ST_motion_1) hl0 hE (by decide) (by decide) (fun E9 H9 h9 hF9 => ?_) (fun q1 => ?_)
  · rw [xt_el1 h9, h9] at hr0
    subst hr0
    exact xt_wr1 hF9
  · rw [xt_el0 q1] at hr0
    rw [xt_el0 q1] at hr1
    rw [xt_el0 q1] at hr2
    rw [xt_el0 q1] at hr3
    rw [xt_el0 q1] at hr4
    rw [xt_el0 q1] at hr5
    rw [xt_el0 q1] at hr6
    rw [xt_el0 q1] at hr7
    rw [xt_el0 q1] at hr8
    refine lv_aload_n hx hb d_ST_motion_4 rfl (lv_at hl 0 rfl) ?_
    refine gf_ST_57 hg hw S hP 0 rfl rfl d_ST_motion_5 ?_
    refine lv_bipush (v := (12 : Int32)) hx hb d_ST_motion_8 (by decide) ?_
    refine lv_icmp_lt hx hb d_ST_motion_10 (tgt := 23) (by decide) (fun h10 => ?_) (fun h10 => ?_)
    · rw [if_pos h10] at hr0
      rw [if_pos h10] at hr1
      rw [if_pos h10] at hr2
      rw [if_pos h10] at hr3
      rw [if_pos h10] at hr4
      rw [if_pos h10] at hr5
      rw [if_pos h10] at hr6
      rw [if_pos h10] at hr7
      rw [if_pos h10] at hr8
      refine lv_aload_n hx hb d_ST_motion_23 rfl (lv_at hl 0 rfl) ?_
      refine gf_ST_25 hg hw S hP 0 rfl rfl d_ST_motion_24 ?_
      refine lv_aload_n hx hb d_ST_motion_27 rfl (lv_at hl 0 rfl) ?_
      refine gf_ST_57 hg hw S hP 0 rfl rfl d_ST_motion_28 ?_
      refine va_aldq hx hb (xg_k hg hw) hP 4 2 rfl rfl (xs_min3 h10 hC0) d_ST_motion_31 ?_
      refine W.eq (g2 := F0 m 32 ls [.ref mo]) (by rw [(hM h10)]; rfl) ?_
      refine lv_aload_n hx hb d_ST_motion_32 rfl (lv_at hl 0 rfl) ?_
      refine gf_ST_10 hg hw S hP 0 rfl rfl d_ST_motion_33 ?_
      refine lv_aload_n hx hb d_ST_motion_36 rfl (lv_at hl 0 rfl) ?_
      refine gf_ST_19 hg hw S hP 0 rfl rfl d_ST_motion_37 ?_
      refine xg_read (xg_runV (rest := [.ref mo]) (kw := 1) si_ST_88 hg hw S (va_recv (xg_k hg hw) hP (ci := 1) rfl (q0 := 1) rfl) (ct_KE_blockOf l hg s.heap k bu sh ch dealt epoch base whole signing pp qq modulus order bys size bytes (hP.sub [1, 2, 3] rfl) hZ) ⟨by decide, by decide, by decide, by decide⟩ rfl hl.1 rfl (Nat.le_of_ble_eq_true rfl) d_ST_motion_40) ?_
      refine xw_use (wc := [(mo, .inr (2, [.ref pw, .ref cg, .ref an, .int standing, .long block, .int partials, .int objections, .long signature]))]) (wr := [(x, .inr (3, [.ref k, .ref bu, .ref ma, .ref se, .int motionCount, .int sealedCount, .int suspended])), (k, .inr (1, [.ref sh, .ref ch, .int dealt, .long epoch, .long base, .long whole, .long signing, .long pp, .long qq, .long modulus, .long order])), (bu, .inr (0, [.ref bys, .int size])), (bys, .inl (G.2.2.1, 24, .inl bytes)), (ma, .inl (G.2.2.2.2, 12, .inr (.inr (.inr (.inr mot)))))]) (xg_runV (rest := []) (kw := 0) si_ST_92 hg hw S (va_recv (xg_k hg hw) hP (ci := 2) rfl (q0 := 5) rfl) (ct_MO_begin l hg s.heap mo (f_KE_blockOf modulus bytes size) pw cg an standing block partials objections signature (hP.sub [5] rfl) ((hD.sub [5] (by decide) rfl).weaken (fun _ _ _ _ => trivial)) ) ⟨by decide, by decide, by decide, by decide⟩ rfl hl.1 rfl (Nat.le_of_ble_eq_true rfl) d_ST_motion_43) hP hD hS hA [5] [0, 1, 2, 3, 4] rfl rfl (by decide) (by decide) (fun H1 L1 hP hD hS => ?_)
      have hP : va_P G.2.1 cl_all [(x, .inr (3, [.ref k, .ref bu, .ref ma, .ref se, .int motionCount, .int sealedCount, .int suspended])), (k, .inr (1, [.ref sh, .ref ch, .int dealt, .long epoch, .long base, .long whole, .long signing, .long pp, .long qq, .long modulus, .long order])), (bu, .inr (0, [.ref bys, .int size])), (bys, .inl (G.2.2.1, 24, .inl bytes)), (ma, .inl (G.2.2.2.2, 12, .inr (.inr (.inr (.inr mot))))), (mo, .inr (2, [.ref pw, .ref cg, .ref an, .int (f_MO_begin_standing (f_KE_blockOf modulus bytes size)), .long (f_MO_begin_block (f_KE_blockOf modulus bytes size)), .int (f_MO_begin_partials (f_KE_blockOf modulus bytes size)), .int (f_MO_begin_objections (f_KE_blockOf modulus bytes size)), .long (f_MO_begin_signature (f_KE_blockOf modulus bytes size))]))] H1 := hP
      have hD : va_D A [(x, .inr (3, [.ref k, .ref bu, .ref ma, .ref se, .int motionCount, .int sealedCount, .int suspended])), (k, .inr (1, [.ref sh, .ref ch, .int dealt, .long epoch, .long base, .long whole, .long signing, .long pp, .long qq, .long modulus, .long order])), (bu, .inr (0, [.ref bys, .int size])), (bys, .inl (G.2.2.1, 24, .inl bytes)), (ma, .inl (G.2.2.2.2, 12, .inr (.inr (.inr (.inr mot))))), (mo, .inr (2, [.ref pw, .ref cg, .ref an, .int (f_MO_begin_standing (f_KE_blockOf modulus bytes size)), .long (f_MO_begin_block (f_KE_blockOf modulus bytes size)), .int (f_MO_begin_partials (f_KE_blockOf modulus bytes size)), .int (f_MO_begin_objections (f_KE_blockOf modulus bytes size)), .long (f_MO_begin_signature (f_KE_blockOf modulus bytes size))]))] := hD
      refine lv_aload_n hx hb d_ST_motion_46 rfl (lv_at hl 0 rfl) ?_
      refine gf_ST_19 hg hw S hP 0 rfl rfl d_ST_motion_47 ?_
      refine xw_use (wc := [(bu, .inr (0, [.ref bys, .int size]))]) (wr := [(x, .inr (3, [.ref k, .ref bu, .ref ma, .ref se, .int motionCount, .int sealedCount, .int suspended])), (k, .inr (1, [.ref sh, .ref ch, .int dealt, .long epoch, .long base, .long whole, .long signing, .long pp, .long qq, .long modulus, .long order])), (bys, .inl (G.2.2.1, 24, .inl bytes)), (ma, .inl (G.2.2.2.2, 12, .inr (.inr (.inr (.inr mot))))), (mo, .inr (2, [.ref pw, .ref cg, .ref an, .int (f_MO_begin_standing (f_KE_blockOf modulus bytes size)), .long (f_MO_begin_block (f_KE_blockOf modulus bytes size)), .int (f_MO_begin_partials (f_KE_blockOf modulus bytes size)), .int (f_MO_begin_objections (f_KE_blockOf modulus bytes size)), .long (f_MO_begin_signature (f_KE_blockOf modulus bytes size))]))]) (xg_runV (rest := []) (kw := 0) si_ST_95 hg hw S (va_recv (xg_k hg hw) hP (ci := 0) rfl (q0 := 2) rfl) (ct_BU_clear l hg H1 bu bys size (hP.sub [2] rfl) ((hD.sub [2] (by decide) rfl).weaken (fun _ _ _ _ => trivial)) ) ⟨by decide, by decide, by decide, by decide⟩ rfl hl.1 rfl (Nat.le_of_ble_eq_true rfl) d_ST_motion_50) hP hD hS hA [2] [0, 1, 3, 4, 5] rfl rfl (by decide) (by decide) (fun H2 L2 hP hD hS => ?_)
      have hP : va_P G.2.1 cl_all [(x, .inr (3, [.ref k, .ref bu, .ref ma, .ref se, .int motionCount, .int sealedCount, .int suspended])), (k, .inr (1, [.ref sh, .ref ch, .int dealt, .long epoch, .long base, .long whole, .long signing, .long pp, .long qq, .long modulus, .long order])), (bys, .inl (G.2.2.1, 24, .inl bytes)), (ma, .inl (G.2.2.2.2, 12, .inr (.inr (.inr (.inr mot))))), (mo, .inr (2, [.ref pw, .ref cg, .ref an, .int (f_MO_begin_standing (f_KE_blockOf modulus bytes size)), .long (f_MO_begin_block (f_KE_blockOf modulus bytes size)), .int (f_MO_begin_partials (f_KE_blockOf modulus bytes size)), .int (f_MO_begin_objections (f_KE_blockOf modulus bytes size)), .long (f_MO_begin_signature (f_KE_blockOf modulus bytes size))])), (bu, .inr (0, [.ref bys, .int f_BU_clear_size]))] H2 := hP
      have hD : va_D A [(x, .inr (3, [.ref k, .ref bu, .ref ma, .ref se, .int motionCount, .int sealedCount, .int suspended])), (k, .inr (1, [.ref sh, .ref ch, .int dealt, .long epoch, .long base, .long whole, .long signing, .long pp, .long qq, .long modulus, .long order])), (bys, .inl (G.2.2.1, 24, .inl bytes)), (ma, .inl (G.2.2.2.2, 12, .inr (.inr (.inr (.inr mot))))), (mo, .inr (2, [.ref pw, .ref cg, .ref an, .int (f_MO_begin_standing (f_KE_blockOf modulus bytes size)), .long (f_MO_begin_block (f_KE_blockOf modulus bytes size)), .int (f_MO_begin_partials (f_KE_blockOf modulus bytes size)), .int (f_MO_begin_objections (f_KE_blockOf modulus bytes size)), .long (f_MO_begin_signature (f_KE_blockOf modulus bytes size))])), (bu, .inr (0, [.ref bys, .int f_BU_clear_size]))] := hD
      refine lv_aload_n hx hb d_ST_motion_53 rfl (lv_at hl 0 rfl) ?_
      refine lv_dup hx hb d_ST_motion_54 rfl ?_
      refine gf_ST_57 hg hw S hP 0 rfl rfl d_ST_motion_55 ?_
      refine lv_iconst (v := (1 : Int32)) hx hb d_ST_motion_58 (by decide) ?_
      refine lv_iadd hx hb d_ST_motion_59 ?_
      refine pf_ST_57 hg hw S hP hD hS 0 rfl rfl rfl (Nat.le_of_ble_eq_true rfl) d_ST_motion_60 (fun H3 L3 hP hD hS => ?_)
      have hP : va_P G.2.1 cl_all [(x, .inr (3, [.ref k, .ref bu, .ref ma, .ref se, .int (motionCount + (1 : Int32)), .int sealedCount, .int suspended])), (k, .inr (1, [.ref sh, .ref ch, .int dealt, .long epoch, .long base, .long whole, .long signing, .long pp, .long qq, .long modulus, .long order])), (bys, .inl (G.2.2.1, 24, .inl bytes)), (ma, .inl (G.2.2.2.2, 12, .inr (.inr (.inr (.inr mot))))), (mo, .inr (2, [.ref pw, .ref cg, .ref an, .int (f_MO_begin_standing (f_KE_blockOf modulus bytes size)), .long (f_MO_begin_block (f_KE_blockOf modulus bytes size)), .int (f_MO_begin_partials (f_KE_blockOf modulus bytes size)), .int (f_MO_begin_objections (f_KE_blockOf modulus bytes size)), .long (f_MO_begin_signature (f_KE_blockOf modulus bytes size))])), (bu, .inr (0, [.ref bys, .int f_BU_clear_size]))] H3 := hP
      have hD : va_D A [(x, .inr (3, [.ref k, .ref bu, .ref ma, .ref se, .int (motionCount + (1 : Int32)), .int sealedCount, .int suspended])), (k, .inr (1, [.ref sh, .ref ch, .int dealt, .long epoch, .long base, .long whole, .long signing, .long pp, .long qq, .long modulus, .long order])), (bys, .inl (G.2.2.1, 24, .inl bytes)), (ma, .inl (G.2.2.2.2, 12, .inr (.inr (.inr (.inr mot))))), (mo, .inr (2, [.ref pw, .ref cg, .ref an, .int (f_MO_begin_standing (f_KE_blockOf modulus bytes size)), .long (f_MO_begin_block (f_KE_blockOf modulus bytes size)), .int (f_MO_begin_partials (f_KE_blockOf modulus bytes size)), .int (f_MO_begin_objections (f_KE_blockOf modulus bytes size)), .long (f_MO_begin_signature (f_KE_blockOf modulus bytes size))])), (bu, .inr (0, [.ref bys, .int f_BU_clear_size]))] := hD
      refine lv_aload_n hx hb d_ST_motion_63 rfl (lv_at hl 0 rfl) ?_
      refine gf_ST_57 hg hw S hP 0 rfl rfl d_ST_motion_64 ?_
      refine lv_iconst (v := (1 : Int32)) hx hb d_ST_motion_67 (by decide) ?_
      refine lv_isub hx hb d_ST_motion_68 ?_
      subst hr0
      subst hr1
      subst hr2
      subst hr3
      subst hr4
      subst hr5
      subst hr6
      subst hr7
      subst hr8
      have hP := hP.sub (ws' := [(x, .inr (3, [.ref k, .ref bu, .ref ma, .ref se, .int (motionCount + (1 : Int32)), .int sealedCount, .int suspended])), (k, .inr (1, [.ref sh, .ref ch, .int dealt, .long epoch, .long base, .long whole, .long signing, .long pp, .long qq, .long modulus, .long order])), (bu, .inr (0, [.ref bys, .int f_BU_clear_size])), (bys, .inl (G.2.2.1, 24, .inl bytes)), (ma, .inl (G.2.2.2.2, 12, .inr (.inr (.inr (.inr mot))))), (mo, .inr (2, [.ref pw, .ref cg, .ref an, .int (f_MO_begin_standing (f_KE_blockOf modulus bytes size)), .long (f_MO_begin_block (f_KE_blockOf modulus bytes size)), .int (f_MO_begin_partials (f_KE_blockOf modulus bytes size)), .int (f_MO_begin_objections (f_KE_blockOf modulus bytes size)), .long (f_MO_begin_signature (f_KE_blockOf modulus bytes size))]))]) [0, 1, 5, 2, 3, 4] rfl
      have hD := hD.sub (ws' := [(x, .inr (3, [.ref k, .ref bu, .ref ma, .ref se, .int (motionCount + (1 : Int32)), .int sealedCount, .int suspended])), (k, .inr (1, [.ref sh, .ref ch, .int dealt, .long epoch, .long base, .long whole, .long signing, .long pp, .long qq, .long modulus, .long order])), (bu, .inr (0, [.ref bys, .int f_BU_clear_size])), (bys, .inl (G.2.2.1, 24, .inl bytes)), (ma, .inl (G.2.2.2.2, 12, .inr (.inr (.inr (.inr mot))))), (mo, .inr (2, [.ref pw, .ref cg, .ref an, .int (f_MO_begin_standing (f_KE_blockOf modulus bytes size)), .long (f_MO_begin_block (f_KE_blockOf modulus bytes size)), .int (f_MO_begin_partials (f_KE_blockOf modulus bytes size)), .int (f_MO_begin_objections (f_KE_blockOf modulus bytes size)), .long (f_MO_begin_signature (f_KE_blockOf modulus bytes size))]))]) [0, 1, 5, 2, 3, 4] (by decide) rfl
      refine W.widen (k := 8) (n := 48) (Nat.le_of_ble_eq_true rfl) (Nat.le_of_ble_eq_true rfl) ?_
      exact xc_iret hx hb ht hl0 (xw_F hS) hS.2.2 (xt_wr0 hP hD) d_ST_motion_69
    · rw [if_neg h10] at hr0
      rw [if_neg h10] at hr1
      rw [if_neg h10] at hr2
      rw [if_neg h10] at hr3
      rw [if_neg h10] at hr4
      rw [if_neg h10] at hr5
      rw [if_neg h10] at hr6
      rw [if_neg h10] at hr7
      rw [if_neg h10] at hr8
      subst hr0
      exact th_2 hg hw hO S hl9 hl0 hE sw_85 hl.1 d_ST_motion_13 d_ST_motion_16 d_ST_motion_17 d_ST_motion_19 d_ST_motion_22 ⟨by decide, by decide, by decide, by decide⟩ ⟨by decide, by decide⟩ (fun _ h => xt_wr1 h)
def g_ST_consent (motion : Int32) (trustee : Int32) (motionCount : Int32) (suspended : Int32) (standing : Int32) (partials : Int32) (objections : Int32) : Option String := xt_el (g_ST_motionAt motion motionCount) (g_ST_motionAt motion motionCount) (xt_el (g_ST_requireTrustee trustee) (g_ST_requireTrustee trustee) (xt_el (g_ST_requireOpen standing) (g_ST_requireOpen standing) (xt_el (g_ST_requireNoVoice partials objections trustee) (g_ST_requireNoVoice partials objections trustee) (if (f_ST_isIn suspended trustee) = 0 then none else (some xt_IS)))))
def f_ST_consent_PW (motion : Int32) (trustee : Int32) (motionCount : Int32) (suspended : Int32) (epoch : Int64) (base : Int64) (modulus : Int64) (shares : Nat → Int64) (checks : Nat → Int64) (standing : Int32) (block : Int64) (partials : Int32) (objections : Int32) (powers : Nat → Int64) : Nat → Int64 := xt_el (g_ST_motionAt motion motionCount) (fun _ => 0) (xt_el (g_ST_requireTrustee trustee) (fun _ => 0) (xt_el (g_ST_requireOpen standing) (fun _ => 0) (xt_el (g_ST_requireNoVoice partials objections trustee) (fun _ => 0) (if (f_ST_isIn suspended trustee) = 0 then (f_KE_makePartial_PW trustee shares block epoch base checks modulus powers) else (fun _ => 0)))))
def f_ST_consent_CG (motion : Int32) (trustee : Int32) (motionCount : Int32) (suspended : Int32) (epoch : Int64) (base : Int64) (modulus : Int64) (shares : Nat → Int64) (checks : Nat → Int64) (standing : Int32) (block : Int64) (partials : Int32) (objections : Int32) (challenges : Nat → Int32) : Nat → Int32 := xt_el (g_ST_motionAt motion motionCount) (fun _ => 0) (xt_el (g_ST_requireTrustee trustee) (fun _ => 0) (xt_el (g_ST_requireOpen standing) (fun _ => 0) (xt_el (g_ST_requireNoVoice partials objections trustee) (fun _ => 0) (if (f_ST_isIn suspended trustee) = 0 then (f_KE_makePartial_CG trustee shares block epoch base checks modulus challenges) else (fun _ => 0)))))
def f_ST_consent_AN (motion : Int32) (trustee : Int32) (motionCount : Int32) (suspended : Int32) (epoch : Int64) (base : Int64) (modulus : Int64) (shares : Nat → Int64) (checks : Nat → Int64) (standing : Int32) (block : Int64) (partials : Int32) (objections : Int32) (answers : Nat → Int64) : Nat → Int64 := xt_el (g_ST_motionAt motion motionCount) (fun _ => 0) (xt_el (g_ST_requireTrustee trustee) (fun _ => 0) (xt_el (g_ST_requireOpen standing) (fun _ => 0) (xt_el (g_ST_requireNoVoice partials objections trustee) (fun _ => 0) (if (f_ST_isIn suspended trustee) = 0 then (f_KE_makePartial_AN trustee shares block epoch base checks modulus answers) else (fun _ => 0)))))
def f_ST_consent_partials (motion : Int32) (trustee : Int32) (motionCount : Int32) (suspended : Int32) (standing : Int32) (partials : Int32) (objections : Int32) : Int32 := xt_el (g_ST_motionAt motion motionCount) 0 (xt_el (g_ST_requireTrustee trustee) 0 (xt_el (g_ST_requireOpen standing) 0 (xt_el (g_ST_requireNoVoice partials objections trustee) 0 (if (f_ST_isIn suspended trustee) = 0 then (f_KE_makePartial_partials trustee partials) else 0))))
set_option maxHeartbeats 4000000 in
set_option maxRecDepth 100000 in
theorem ct_ST_consent (l : Launch) {G : xg_G} (hg : xg_F G) (hl9 : l.stackTraces = false) (H : Heap) (hO : xg_O G H) (x : Nat) (motion : Int32) (trustee : Int32) (k : Nat) (bu : Nat) (ma : Nat) (se : Nat) (motionCount : Int32) (sealedCount : Int32) (suspended : Int32) (sh : Nat) (ch : Nat) (dealt : Int32) (epoch : Int64) (base : Int64) (whole : Int64) (signing : Int64) (pp : Int64) (qq : Int64) (modulus : Int64) (order : Int64) (shares : Nat → Int64) (checks : Nat → Int64) (mot : Nat → Option Nat) (mo : Nat) (pw : Nat) (cg : Nat) (an : Nat) (standing : Int32) (block : Int64) (partials : Int32) (objections : Int32) (signature : Int64) (powers : Nat → Int64) (challenges : Nat → Int32) (answers : Nat → Int64) (hP : va_P G.2.1 cl_all [(x, .inr (3, [.ref k, .ref bu, .ref ma, .ref se, .int motionCount, .int sealedCount, .int suspended])), (k, .inr (1, [.ref sh, .ref ch, .int dealt, .long epoch, .long base, .long whole, .long signing, .long pp, .long qq, .long modulus, .long order])), (sh, .inl (G.2.2.2.1, 6, .inr (.inl shares))), (ch, .inl (G.2.2.2.1, 6, .inr (.inl checks))), (ma, .inl (G.2.2.2.2, 12, .inr (.inr (.inr (.inr mot))))), (mo, .inr (2, [.ref pw, .ref cg, .ref an, .int standing, .long block, .int partials, .int objections, .long signature])), (pw, .inl (G.2.2.2.1, 6, .inr (.inl powers))), (cg, .inl (G.2.2.1, 6, .inl challenges)), (an, .inl (G.2.2.2.1, 6, .inr (.inl answers)))] H) (hD0 : va_D (fun _ => True) [(x, .inr (3, [.ref k, .ref bu, .ref ma, .ref se, .int motionCount, .int sealedCount, .int suspended])), (k, .inr (1, [.ref sh, .ref ch, .int dealt, .long epoch, .long base, .long whole, .long signing, .long pp, .long qq, .long modulus, .long order])), (sh, .inl (G.2.2.2.1, 6, .inr (.inl shares))), (ch, .inl (G.2.2.2.1, 6, .inr (.inl checks))), (ma, .inl (G.2.2.2.2, 12, .inr (.inr (.inr (.inr mot))))), (mo, .inr (2, [.ref pw, .ref cg, .ref an, .int standing, .long block, .int partials, .int objections, .long signature])), (pw, .inl (G.2.2.2.1, 6, .inr (.inl powers))), (cg, .inl (G.2.2.1, 6, .inl challenges)), (an, .inl (G.2.2.2.1, 6, .inr (.inl answers)))]) (hC : motionCount.toInt ≤ 12) (hM : ¬ motion < 0 → motion < motionCount → mot motion.toNatClampNeg = some mo) : xc_Met l y_ST_consent (.code y_ST_consent b_ST_consent 4 none) ({ frames := 7, cells := 8, slots := 48, locals := 95 } : Room) (xg_Pc G [.ref x, .int motion, .int trustee] H) (xt_wr G (va_A [(x, .inr (3, [.ref k, .ref bu, .ref ma, .ref se, .int motionCount, .int sealedCount, .int suspended])), (k, .inr (1, [.ref sh, .ref ch, .int dealt, .long epoch, .long base, .long whole, .long signing, .long pp, .long qq, .long modulus, .long order])), (sh, .inl (G.2.2.2.1, 6, .inr (.inl shares))), (ch, .inl (G.2.2.2.1, 6, .inr (.inl checks))), (ma, .inl (G.2.2.2.2, 12, .inr (.inr (.inr (.inr mot))))), (mo, .inr (2, [.ref pw, .ref cg, .ref an, .int standing, .long block, .int partials, .int objections, .long signature])), (pw, .inl (G.2.2.2.1, 6, .inr (.inl powers))), (cg, .inl (G.2.2.1, 6, .inl challenges)), (an, .inl (G.2.2.2.1, 6, .inr (.inl answers)))] H.size) (g_ST_consent motion trustee motionCount suspended standing partials objections) none [(x, .inr (3, [.ref k, .ref bu, .ref ma, .ref se, .int motionCount, .int sealedCount, .int suspended])), (k, .inr (1, [.ref sh, .ref ch, .int dealt, .long epoch, .long base, .long whole, .long signing, .long pp, .long qq, .long modulus, .long order])), (sh, .inl (G.2.2.2.1, 6, .inr (.inl shares))), (ch, .inl (G.2.2.2.1, 6, .inr (.inl checks))), (ma, .inl (G.2.2.2.2, 12, .inr (.inr (.inr (.inr mot))))), (mo, .inr (2, [.ref pw, .ref cg, .ref an, .int standing, .long block, .int (f_ST_consent_partials motion trustee motionCount suspended standing partials objections), .int objections, .long signature])), (pw, .inl (G.2.2.2.1, 6, .inr (.inl (f_ST_consent_PW motion trustee motionCount suspended epoch base modulus shares checks standing block partials objections powers)))), (cg, .inl (G.2.2.1, 6, .inl (f_ST_consent_CG motion trustee motionCount suspended epoch base modulus shares checks standing block partials objections challenges))), (an, .inl (G.2.2.2.1, 6, .inr (.inl (f_ST_consent_AN motion trustee motionCount suspended epoch base modulus shares checks standing block partials objections answers))))] H) (va_A [(x, .inr (3, [.ref k, .ref bu, .ref ma, .ref se, .int motionCount, .int sealedCount, .int suspended])), (k, .inr (1, [.ref sh, .ref ch, .int dealt, .long epoch, .long base, .long whole, .long signing, .long pp, .long qq, .long modulus, .long order])), (sh, .inl (G.2.2.2.1, 6, .inr (.inl shares))), (ch, .inl (G.2.2.2.1, 6, .inr (.inl checks))), (ma, .inl (G.2.2.2.2, 12, .inr (.inr (.inr (.inr mot))))), (mo, .inr (2, [.ref pw, .ref cg, .ref an, .int standing, .long block, .int partials, .int objections, .long signature])), (pw, .inl (G.2.2.2.1, 6, .inr (.inl powers))), (cg, .inl (G.2.2.1, 6, .inl challenges)), (an, .inl (G.2.2.2.1, 6, .inr (.inl answers)))] H.size) := by
  refine xc_ofW (by decide) ?_
  intro p e s m args below meth c s₁ B hml hE hv
  obtain ⟨rfl, rfl, hw⟩ := hv
  have hx := B.exec
  have hb := B.bytes
  have ht := B.returns
  have hl0 := B.notSynchronized
  have S : xc_Fix p m c b_ST_consent 4 s "SealTrust" := ⟨hx, hb, hml, findClass_of_methodNamed B.named⟩
  have hD := hD0.self (sz := s.heap.size)
  generalize hAe : va_A [(x, .inr (3, [.ref k, .ref bu, .ref ma, .ref se, .int motionCount, .int sealedCount, .int suspended])), (k, .inr (1, [.ref sh, .ref ch, .int dealt, .long epoch, .long base, .long whole, .long signing, .long pp, .long qq, .long modulus, .long order])), (sh, .inl (G.2.2.2.1, 6, .inr (.inl shares))), (ch, .inl (G.2.2.2.1, 6, .inr (.inl checks))), (ma, .inl (G.2.2.2.2, 12, .inr (.inr (.inr (.inr mot))))), (mo, .inr (2, [.ref pw, .ref cg, .ref an, .int standing, .long block, .int partials, .int objections, .long signature])), (pw, .inl (G.2.2.2.1, 6, .inr (.inl powers))), (cg, .inl (G.2.2.1, 6, .inl challenges)), (an, .inl (G.2.2.2.1, 6, .inr (.inl answers)))] s.heap.size = A at hD ⊢
  have hA : ∀ q : Nat, s.heap.size ≤ q → A q := fun q h => by rw [← hAe]; exact Or.inr h
  have hS : va_S A s.heap s.heap [] := va_S.rf
  have hl := lv_entry ([.ref x, .int motion, .int trustee]) (n := 4) (Nat.le_of_ble_eq_true rfl)
  rw [lg_entry_eq]
  generalize (lg_sl ([.ref x, .int motion, .int trustee]) ++ List.replicate (4 - (lg_sl ([.ref x, .int motion, .int trustee])).length) Slot.unset).toArray = ls at hl ⊢
  have hl : lv_has ls 4 [(0, .ref x), (1, .int motion), (2, .int trustee)] := hl
  obtain ⟨r0, hr0⟩ : ∃ r, g_ST_consent motion trustee motionCount suspended standing partials objections = r := ⟨_, rfl⟩
  rw [hr0]
  unfold g_ST_consent at hr0
  obtain ⟨r1, hr1⟩ : ∃ r, f_ST_consent_PW motion trustee motionCount suspended epoch base modulus shares checks standing block partials objections powers = r := ⟨_, rfl⟩
  rw [hr1]
  unfold f_ST_consent_PW at hr1
  obtain ⟨r2, hr2⟩ : ∃ r, f_ST_consent_CG motion trustee motionCount suspended epoch base modulus shares checks standing block partials objections challenges = r := ⟨_, rfl⟩
  rw [hr2]
  unfold f_ST_consent_CG at hr2
  obtain ⟨r3, hr3⟩ : ∃ r, f_ST_consent_AN motion trustee motionCount suspended epoch base modulus shares checks standing block partials objections answers = r := ⟨_, rfl⟩
  rw [hr3]
  unfold f_ST_consent_AN at hr3
  obtain ⟨r4, hr4⟩ : ∃ r, f_ST_consent_partials motion trustee motionCount suspended standing partials objections = r := ⟨_, rfl⟩
  rw [hr4]
  unfold f_ST_consent_partials at hr4
  show W p l e ({ frames := 7, cells := 8, slots := 48, locals := 95 } : Room) s m _ below meth c s.heap [] 0 0 (xc_Z below _ _ _ s 8 48) _
  refine lv_aload_n hx hb d_ST_consent_0 rfl (lv_at hl 0 rfl) ?_
  refine lv_iload_n hx hb d_ST_consent_1 rfl (lv_at hl 1 rfl) ?_
  refine xt_use (xg_runV (rest := []) (kw := 0) si_ST_98 hg hw S (va_recv (xg_k hg hw) hP (ci := 3) rfl (q0 := 0) rfl) (ct_ST_motionAt l hg hl9 s.heap hO x motion k bu ma se motionCount sealedCount suspended mot (hP.sub [0, 4] rfl) hC mo hM) ⟨by decide, by decide, by decide, by decide⟩ rfl hl.1 rfl (Nat.le_of_ble_eq_true rfl) d_ST_consent_2) hl0 hE (by decide) (by decide) (fun E9 H9 h9 hF9 => ?_) (fun q2 => ?_)
  · rw [xt_el1 h9, h9] at hr0
    subst hr0
    exact xt_wr1 hF9
  · rw [xt_el0 q2] at hr0
    rw [xt_el0 q2] at hr1
    rw [xt_el0 q2] at hr2
    rw [xt_el0 q2] at hr3
    rw [xt_el0 q2] at hr4
    refine lv_astore_n hx hb d_ST_consent_5 rfl hl (by decide) rfl (fun ls hl => ?_)
    have hl : lv_has ls 4 [(3, .ref mo), (0, .ref x), (1, .int motion), (2, .int trustee)] := hl
    refine lv_iload_n hx hb d_ST_consent_6 rfl (lv_at hl 3 rfl) ?_
    refine xt_use (xg_runS (rest := []) (kw := 0) si_ST_102 hg hw S (ct_ST_requireTrustee l hg hl9 s.heap hO trustee  ) ⟨by decide, by decide, by decide, by decide⟩ rfl hl.1 rfl (Nat.le_of_ble_eq_true rfl) d_ST_consent_7) hl0 hE (by decide) (by decide) (fun E9 H9 h9 hF9 => ?_) (fun q7 => ?_)
    · rw [xt_el1 h9, h9] at hr0
      subst hr0
      exact xt_wr1 hF9
    · rw [xt_el0 q7] at hr0
      rw [xt_el0 q7] at hr1
      rw [xt_el0 q7] at hr2
      rw [xt_el0 q7] at hr3
      rw [xt_el0 q7] at hr4
      refine lv_aload_n hx hb d_ST_consent_10 rfl (lv_at hl 0 rfl) ?_
      refine xt_use (xg_runS (rest := []) (kw := 0) si_ST_106 hg hw S (ct_ST_requireOpen l hg hl9 s.heap hO mo pw cg an standing block partials objections signature (hP.sub [5] rfl) ) ⟨by decide, by decide, by decide, by decide⟩ rfl hl.1 rfl (Nat.le_of_ble_eq_true rfl) d_ST_consent_11) hl0 hE (by decide) (by decide) (fun E9 H9 h9 hF9 => ?_) (fun q11 => ?_)
      · rw [xt_el1 h9, h9] at hr0
        subst hr0
        exact xt_wr1 hF9
      · rw [xt_el0 q11] at hr0
        rw [xt_el0 q11] at hr1
        rw [xt_el0 q11] at hr2
        rw [xt_el0 q11] at hr3
        rw [xt_el0 q11] at hr4
        refine lv_aload_n hx hb d_ST_consent_14 rfl (lv_at hl 0 rfl) ?_
        refine lv_iload_n hx hb d_ST_consent_15 rfl (lv_at hl 3 rfl) ?_
        refine xt_use (xg_runS (rest := []) (kw := 0) si_ST_110 hg hw S (ct_ST_requireNoVoice l hg hl9 s.heap hO mo trustee pw cg an standing block partials objections signature (hP.sub [5] rfl) ) ⟨by decide, by decide, by decide, by decide⟩ rfl hl.1 rfl (Nat.le_of_ble_eq_true rfl) d_ST_consent_16) hl0 hE (by decide) (by decide) (fun E9 H9 h9 hF9 => ?_) (fun q16 => ?_)
        · rw [xt_el1 h9, h9] at hr0
          subst hr0
          exact xt_wr1 hF9
        · rw [xt_el0 q16] at hr0
          rw [xt_el0 q16] at hr1
          rw [xt_el0 q16] at hr2
          rw [xt_el0 q16] at hr3
          rw [xt_el0 q16] at hr4
          refine lv_aload_n hx hb d_ST_consent_19 rfl (lv_at hl 1 rfl) ?_
          refine gf_ST_64 hg hw S hP 0 rfl rfl d_ST_consent_20 ?_
          refine lv_iload_n hx hb d_ST_consent_23 rfl (lv_at hl 3 rfl) ?_
          refine xg_read (xg_runS (rest := []) (kw := 0) si_ST_114 hg hw S (ct_ST_isIn l hg s.heap suspended trustee ) ⟨by decide, by decide, by decide, by decide⟩ rfl hl.1 rfl (Nat.le_of_ble_eq_true rfl) d_ST_consent_24) ?_
          refine lv_if_eq hx hb d_ST_consent_27 (tgt := 40) (by decide) (fun h27 => ?_) (fun h27 => ?_)
          · rw [if_pos h27] at hr0
            rw [if_pos h27] at hr1
            rw [if_pos h27] at hr2
            rw [if_pos h27] at hr3
            rw [if_pos h27] at hr4
            refine lv_aload_n hx hb d_ST_consent_40 rfl (lv_at hl 1 rfl) ?_
            refine gf_ST_10 hg hw S hP 0 rfl rfl d_ST_consent_41 ?_
            refine lv_aload_n hx hb d_ST_consent_44 rfl (lv_at hl 0 rfl) ?_
            refine lv_iload_n hx hb d_ST_consent_45 rfl (lv_at hl 3 rfl) ?_
            refine xw_use (wc := [(k, .inr (1, [.ref sh, .ref ch, .int dealt, .long epoch, .long base, .long whole, .long signing, .long pp, .long qq, .long modulus, .long order])), (sh, .inl (G.2.2.2.1, 6, .inr (.inl shares))), (ch, .inl (G.2.2.2.1, 6, .inr (.inl checks))), (mo, .inr (2, [.ref pw, .ref cg, .ref an, .int standing, .long block, .int partials, .int objections, .long signature])), (pw, .inl (G.2.2.2.1, 6, .inr (.inl powers))), (cg, .inl (G.2.2.1, 6, .inl challenges)), (an, .inl (G.2.2.2.1, 6, .inr (.inl answers)))]) (wr := [(x, .inr (3, [.ref k, .ref bu, .ref ma, .ref se, .int motionCount, .int sealedCount, .int suspended])), (ma, .inl (G.2.2.2.2, 12, .inr (.inr (.inr (.inr mot)))))]) (xg_runV (rest := []) (kw := 0) si_ST_120 hg hw S (va_recv (xg_k hg hw) hP (ci := 1) rfl (q0 := 1) rfl) (ct_KE_makePartial l hg s.heap k mo trustee sh ch dealt epoch base whole signing pp qq modulus order shares checks pw cg an standing block partials objections signature powers challenges answers (hP.sub [1, 2, 3, 5, 6, 7, 8] rfl) ((hD.sub [1, 2, 3, 5, 6, 7, 8] (by decide) rfl).weaken (fun _ _ _ _ => trivial)) (xs_tru q7)) ⟨by decide, by decide, by decide, by decide⟩ rfl hl.1 rfl (Nat.le_of_ble_eq_true rfl) d_ST_consent_46) hP hD hS hA [1, 2, 3, 5, 6, 7, 8] [0, 4] rfl rfl (by decide) (by decide) (fun H1 L1 hP hD hS => ?_)
            have hP : va_P G.2.1 cl_all [(x, .inr (3, [.ref k, .ref bu, .ref ma, .ref se, .int motionCount, .int sealedCount, .int suspended])), (ma, .inl (G.2.2.2.2, 12, .inr (.inr (.inr (.inr mot))))), (k, .inr (1, [.ref sh, .ref ch, .int dealt, .long epoch, .long base, .long whole, .long signing, .long pp, .long qq, .long modulus, .long order])), (sh, .inl (G.2.2.2.1, 6, .inr (.inl shares))), (ch, .inl (G.2.2.2.1, 6, .inr (.inl checks))), (mo, .inr (2, [.ref pw, .ref cg, .ref an, .int standing, .long block, .int (f_KE_makePartial_partials trustee partials), .int objections, .long signature])), (pw, .inl (G.2.2.2.1, 6, .inr (.inl (f_KE_makePartial_PW trustee shares block epoch base checks modulus powers)))), (cg, .inl (G.2.2.1, 6, .inl (f_KE_makePartial_CG trustee shares block epoch base checks modulus challenges))), (an, .inl (G.2.2.2.1, 6, .inr (.inl (f_KE_makePartial_AN trustee shares block epoch base checks modulus answers))))] H1 := hP
            have hD : va_D A [(x, .inr (3, [.ref k, .ref bu, .ref ma, .ref se, .int motionCount, .int sealedCount, .int suspended])), (ma, .inl (G.2.2.2.2, 12, .inr (.inr (.inr (.inr mot))))), (k, .inr (1, [.ref sh, .ref ch, .int dealt, .long epoch, .long base, .long whole, .long signing, .long pp, .long qq, .long modulus, .long order])), (sh, .inl (G.2.2.2.1, 6, .inr (.inl shares))), (ch, .inl (G.2.2.2.1, 6, .inr (.inl checks))), (mo, .inr (2, [.ref pw, .ref cg, .ref an, .int standing, .long block, .int (f_KE_makePartial_partials trustee partials), .int objections, .long signature])), (pw, .inl (G.2.2.2.1, 6, .inr (.inl (f_KE_makePartial_PW trustee shares block epoch base checks modulus powers)))), (cg, .inl (G.2.2.1, 6, .inl (f_KE_makePartial_CG trustee shares block epoch base checks modulus challenges))), (an, .inl (G.2.2.2.1, 6, .inr (.inl (f_KE_makePartial_AN trustee shares block epoch base checks modulus answers))))] := hD
            subst hr0
            subst hr1
            subst hr2
            subst hr3
            subst hr4
            have hP := hP.sub (ws' := [(x, .inr (3, [.ref k, .ref bu, .ref ma, .ref se, .int motionCount, .int sealedCount, .int suspended])), (k, .inr (1, [.ref sh, .ref ch, .int dealt, .long epoch, .long base, .long whole, .long signing, .long pp, .long qq, .long modulus, .long order])), (sh, .inl (G.2.2.2.1, 6, .inr (.inl shares))), (ch, .inl (G.2.2.2.1, 6, .inr (.inl checks))), (ma, .inl (G.2.2.2.2, 12, .inr (.inr (.inr (.inr mot))))), (mo, .inr (2, [.ref pw, .ref cg, .ref an, .int standing, .long block, .int (f_KE_makePartial_partials trustee partials), .int objections, .long signature])), (pw, .inl (G.2.2.2.1, 6, .inr (.inl (f_KE_makePartial_PW trustee shares block epoch base checks modulus powers)))), (cg, .inl (G.2.2.1, 6, .inl (f_KE_makePartial_CG trustee shares block epoch base checks modulus challenges))), (an, .inl (G.2.2.2.1, 6, .inr (.inl (f_KE_makePartial_AN trustee shares block epoch base checks modulus answers))))]) [0, 2, 3, 4, 1, 5, 6, 7, 8] rfl
            have hD := hD.sub (ws' := [(x, .inr (3, [.ref k, .ref bu, .ref ma, .ref se, .int motionCount, .int sealedCount, .int suspended])), (k, .inr (1, [.ref sh, .ref ch, .int dealt, .long epoch, .long base, .long whole, .long signing, .long pp, .long qq, .long modulus, .long order])), (sh, .inl (G.2.2.2.1, 6, .inr (.inl shares))), (ch, .inl (G.2.2.2.1, 6, .inr (.inl checks))), (ma, .inl (G.2.2.2.2, 12, .inr (.inr (.inr (.inr mot))))), (mo, .inr (2, [.ref pw, .ref cg, .ref an, .int standing, .long block, .int (f_KE_makePartial_partials trustee partials), .int objections, .long signature])), (pw, .inl (G.2.2.2.1, 6, .inr (.inl (f_KE_makePartial_PW trustee shares block epoch base checks modulus powers)))), (cg, .inl (G.2.2.1, 6, .inl (f_KE_makePartial_CG trustee shares block epoch base checks modulus challenges))), (an, .inl (G.2.2.2.1, 6, .inr (.inl (f_KE_makePartial_AN trustee shares block epoch base checks modulus answers))))]) [0, 2, 3, 4, 1, 5, 6, 7, 8] (by decide) rfl
            refine W.widen (k := 8) (n := 48) (Nat.le_of_ble_eq_true rfl) (Nat.le_of_ble_eq_true rfl) ?_
            exact xc_vret hx hb ht hl0 (xw_F hS) hS.2.2 (xt_wr0 hP hD) d_ST_consent_49
          · rw [if_neg h27] at hr0
            rw [if_neg h27] at hr1
            rw [if_neg h27] at hr2
            rw [if_neg h27] at hr3
            rw [if_neg h27] at hr4
            subst hr0
            exact th_2 hg hw hO S hl9 hl0 hE sw_118 hl.1 d_ST_consent_30 d_ST_consent_33 d_ST_consent_34 d_ST_consent_36 d_ST_consent_39 ⟨by decide, by decide, by decide, by decide⟩ ⟨by decide, by decide⟩ (fun _ h => xt_wr1 h)
def g_ST_object (motion : Int32) (trustee : Int32) (motionCount : Int32) (standing : Int32) (partials : Int32) (objections : Int32) : Option String := xt_el (g_ST_motionAt motion motionCount) (g_ST_motionAt motion motionCount) (xt_el (g_ST_requireTrustee trustee) (g_ST_requireTrustee trustee) (xt_el (g_ST_requireOpen standing) (g_ST_requireOpen standing) (xt_el (g_ST_requireNoVoice partials objections trustee) (g_ST_requireNoVoice partials objections trustee) none)))
def f_ST_object_objections (motion : Int32) (trustee : Int32) (motionCount : Int32) (standing : Int32) (partials : Int32) (objections : Int32) : Int32 := xt_el (g_ST_motionAt motion motionCount) 0 (xt_el (g_ST_requireTrustee trustee) 0 (xt_el (g_ST_requireOpen standing) 0 (xt_el (g_ST_requireNoVoice partials objections trustee) 0 (f_MO_takeObjection_objections trustee objections standing))))
def f_ST_object_standing (motion : Int32) (trustee : Int32) (motionCount : Int32) (standing : Int32) (partials : Int32) (objections : Int32) : Int32 := xt_el (g_ST_motionAt motion motionCount) 0 (xt_el (g_ST_requireTrustee trustee) 0 (xt_el (g_ST_requireOpen standing) 0 (xt_el (g_ST_requireNoVoice partials objections trustee) 0 (f_MO_takeObjection_standing trustee objections standing))))
set_option maxHeartbeats 4000000 in
set_option maxRecDepth 100000 in
theorem ct_ST_object (l : Launch) {G : xg_G} (hg : xg_F G) (hl9 : l.stackTraces = false) (H : Heap) (hO : xg_O G H) (x : Nat) (motion : Int32) (trustee : Int32) (k : Nat) (bu : Nat) (ma : Nat) (se : Nat) (motionCount : Int32) (sealedCount : Int32) (suspended : Int32) (mot : Nat → Option Nat) (mo : Nat) (pw : Nat) (cg : Nat) (an : Nat) (standing : Int32) (block : Int64) (partials : Int32) (objections : Int32) (signature : Int64) (hP : va_P G.2.1 cl_all [(x, .inr (3, [.ref k, .ref bu, .ref ma, .ref se, .int motionCount, .int sealedCount, .int suspended])), (ma, .inl (G.2.2.2.2, 12, .inr (.inr (.inr (.inr mot))))), (mo, .inr (2, [.ref pw, .ref cg, .ref an, .int standing, .long block, .int partials, .int objections, .long signature]))] H) (hD0 : va_D (fun _ => True) [(x, .inr (3, [.ref k, .ref bu, .ref ma, .ref se, .int motionCount, .int sealedCount, .int suspended])), (ma, .inl (G.2.2.2.2, 12, .inr (.inr (.inr (.inr mot))))), (mo, .inr (2, [.ref pw, .ref cg, .ref an, .int standing, .long block, .int partials, .int objections, .long signature]))]) (hC : motionCount.toInt ≤ 12) (hM : ¬ motion < 0 → motion < motionCount → mot motion.toNatClampNeg = some mo) : xc_Met l y_ST_object (.code y_ST_object b_ST_object 4 none) ({ frames := 7, cells := 8, slots := 48, locals := 95 } : Room) (xg_Pc G [.ref x, .int motion, .int trustee] H) (xt_wr G (va_A [(x, .inr (3, [.ref k, .ref bu, .ref ma, .ref se, .int motionCount, .int sealedCount, .int suspended])), (ma, .inl (G.2.2.2.2, 12, .inr (.inr (.inr (.inr mot))))), (mo, .inr (2, [.ref pw, .ref cg, .ref an, .int standing, .long block, .int partials, .int objections, .long signature]))] H.size) (g_ST_object motion trustee motionCount standing partials objections) none [(x, .inr (3, [.ref k, .ref bu, .ref ma, .ref se, .int motionCount, .int sealedCount, .int suspended])), (ma, .inl (G.2.2.2.2, 12, .inr (.inr (.inr (.inr mot))))), (mo, .inr (2, [.ref pw, .ref cg, .ref an, .int (f_ST_object_standing motion trustee motionCount standing partials objections), .long block, .int partials, .int (f_ST_object_objections motion trustee motionCount standing partials objections), .long signature]))] H) (va_A [(x, .inr (3, [.ref k, .ref bu, .ref ma, .ref se, .int motionCount, .int sealedCount, .int suspended])), (ma, .inl (G.2.2.2.2, 12, .inr (.inr (.inr (.inr mot))))), (mo, .inr (2, [.ref pw, .ref cg, .ref an, .int standing, .long block, .int partials, .int objections, .long signature]))] H.size) := by
  refine xc_ofW (by decide) ?_
  intro p e s m args below meth c s₁ B hml hE hv
  obtain ⟨rfl, rfl, hw⟩ := hv
  have hx := B.exec
  have hb := B.bytes
  have ht := B.returns
  have hl0 := B.notSynchronized
  have S : xc_Fix p m c b_ST_object 4 s "SealTrust" := ⟨hx, hb, hml, findClass_of_methodNamed B.named⟩
  have hD := hD0.self (sz := s.heap.size)
  generalize hAe : va_A [(x, .inr (3, [.ref k, .ref bu, .ref ma, .ref se, .int motionCount, .int sealedCount, .int suspended])), (ma, .inl (G.2.2.2.2, 12, .inr (.inr (.inr (.inr mot))))), (mo, .inr (2, [.ref pw, .ref cg, .ref an, .int standing, .long block, .int partials, .int objections, .long signature]))] s.heap.size = A at hD ⊢
  have hA : ∀ q : Nat, s.heap.size ≤ q → A q := fun q h => by rw [← hAe]; exact Or.inr h
  have hS : va_S A s.heap s.heap [] := va_S.rf
  have hl := lv_entry ([.ref x, .int motion, .int trustee]) (n := 4) (Nat.le_of_ble_eq_true rfl)
  rw [lg_entry_eq]
  generalize (lg_sl ([.ref x, .int motion, .int trustee]) ++ List.replicate (4 - (lg_sl ([.ref x, .int motion, .int trustee])).length) Slot.unset).toArray = ls at hl ⊢
  have hl : lv_has ls 4 [(0, .ref x), (1, .int motion), (2, .int trustee)] := hl
  obtain ⟨r0, hr0⟩ : ∃ r, g_ST_object motion trustee motionCount standing partials objections = r := ⟨_, rfl⟩
  rw [hr0]
  unfold g_ST_object at hr0
  obtain ⟨r1, hr1⟩ : ∃ r, f_ST_object_objections motion trustee motionCount standing partials objections = r := ⟨_, rfl⟩
  rw [hr1]
  unfold f_ST_object_objections at hr1
  obtain ⟨r2, hr2⟩ : ∃ r, f_ST_object_standing motion trustee motionCount standing partials objections = r := ⟨_, rfl⟩
  rw [hr2]
  unfold f_ST_object_standing at hr2
  show W p l e ({ frames := 7, cells := 8, slots := 48, locals := 95 } : Room) s m _ below meth c s.heap [] 0 0 (xc_Z below _ _ _ s 8 48) _
  refine lv_aload_n hx hb d_ST_object_0 rfl (lv_at hl 0 rfl) ?_
  refine lv_iload_n hx hb d_ST_object_1 rfl (lv_at hl 1 rfl) ?_
  refine xt_use (xg_runV (rest := []) (kw := 0) si_ST_98 hg hw S (va_recv (xg_k hg hw) hP (ci := 3) rfl (q0 := 0) rfl) (ct_ST_motionAt l hg hl9 s.heap hO x motion k bu ma se motionCount sealedCount suspended mot (hP.sub [0, 1] rfl) hC mo hM) ⟨by decide, by decide, by decide, by decide⟩ rfl hl.1 rfl (Nat.le_of_ble_eq_true rfl) d_ST_object_2) hl0 hE (by decide) (by decide) (fun E9 H9 h9 hF9 => ?_) (fun q2 => ?_)
  · rw [xt_el1 h9, h9] at hr0
    subst hr0
    exact xt_wr1 hF9
  · rw [xt_el0 q2] at hr0
    rw [xt_el0 q2] at hr1
    rw [xt_el0 q2] at hr2
    refine lv_astore_n hx hb d_ST_object_5 rfl hl (by decide) rfl (fun ls hl => ?_)
    have hl : lv_has ls 4 [(3, .ref mo), (0, .ref x), (1, .int motion), (2, .int trustee)] := hl
    refine lv_iload_n hx hb d_ST_object_6 rfl (lv_at hl 3 rfl) ?_
    refine xt_use (xg_runS (rest := []) (kw := 0) si_ST_102 hg hw S (ct_ST_requireTrustee l hg hl9 s.heap hO trustee  ) ⟨by decide, by decide, by decide, by decide⟩ rfl hl.1 rfl (Nat.le_of_ble_eq_true rfl) d_ST_object_7) hl0 hE (by decide) (by decide) (fun E9 H9 h9 hF9 => ?_) (fun q7 => ?_)
    · rw [xt_el1 h9, h9] at hr0
      subst hr0
      exact xt_wr1 hF9
    · rw [xt_el0 q7] at hr0
      rw [xt_el0 q7] at hr1
      rw [xt_el0 q7] at hr2
      refine lv_aload_n hx hb d_ST_object_10 rfl (lv_at hl 0 rfl) ?_
      refine xt_use (xg_runS (rest := []) (kw := 0) si_ST_106 hg hw S (ct_ST_requireOpen l hg hl9 s.heap hO mo pw cg an standing block partials objections signature (hP.sub [2] rfl) ) ⟨by decide, by decide, by decide, by decide⟩ rfl hl.1 rfl (Nat.le_of_ble_eq_true rfl) d_ST_object_11) hl0 hE (by decide) (by decide) (fun E9 H9 h9 hF9 => ?_) (fun q11 => ?_)
      · rw [xt_el1 h9, h9] at hr0
        subst hr0
        exact xt_wr1 hF9
      · rw [xt_el0 q11] at hr0
        rw [xt_el0 q11] at hr1
        rw [xt_el0 q11] at hr2
        refine lv_aload_n hx hb d_ST_object_14 rfl (lv_at hl 0 rfl) ?_
        refine lv_iload_n hx hb d_ST_object_15 rfl (lv_at hl 3 rfl) ?_
        refine xt_use (xg_runS (rest := []) (kw := 0) si_ST_110 hg hw S (ct_ST_requireNoVoice l hg hl9 s.heap hO mo trustee pw cg an standing block partials objections signature (hP.sub [2] rfl) ) ⟨by decide, by decide, by decide, by decide⟩ rfl hl.1 rfl (Nat.le_of_ble_eq_true rfl) d_ST_object_16) hl0 hE (by decide) (by decide) (fun E9 H9 h9 hF9 => ?_) (fun q16 => ?_)
        · rw [xt_el1 h9, h9] at hr0
          subst hr0
          exact xt_wr1 hF9
        · rw [xt_el0 q16] at hr0
          rw [xt_el0 q16] at hr1
          rw [xt_el0 q16] at hr2
          refine lv_aload_n hx hb d_ST_object_19 rfl (lv_at hl 0 rfl) ?_
          refine lv_iload_n hx hb d_ST_object_20 rfl (lv_at hl 3 rfl) ?_
          refine xw_use (wc := [(mo, .inr (2, [.ref pw, .ref cg, .ref an, .int standing, .long block, .int partials, .int objections, .long signature]))]) (wr := [(x, .inr (3, [.ref k, .ref bu, .ref ma, .ref se, .int motionCount, .int sealedCount, .int suspended])), (ma, .inl (G.2.2.2.2, 12, .inr (.inr (.inr (.inr mot)))))]) (xg_runV (rest := []) (kw := 0) si_ST_123 hg hw S (va_recv (xg_k hg hw) hP (ci := 2) rfl (q0 := 2) rfl) (ct_MO_takeObjection l hg s.heap mo trustee pw cg an standing block partials objections signature (hP.sub [2] rfl) ((hD.sub [2] (by decide) rfl).weaken (fun _ _ _ _ => trivial)) ) ⟨by decide, by decide, by decide, by decide⟩ rfl hl.1 rfl (Nat.le_of_ble_eq_true rfl) d_ST_object_21) hP hD hS hA [2] [0, 1] rfl rfl (by decide) (by decide) (fun H1 L1 hP hD hS => ?_)
          have hP : va_P G.2.1 cl_all [(x, .inr (3, [.ref k, .ref bu, .ref ma, .ref se, .int motionCount, .int sealedCount, .int suspended])), (ma, .inl (G.2.2.2.2, 12, .inr (.inr (.inr (.inr mot))))), (mo, .inr (2, [.ref pw, .ref cg, .ref an, .int (f_MO_takeObjection_standing trustee objections standing), .long block, .int partials, .int (f_MO_takeObjection_objections trustee objections standing), .long signature]))] H1 := hP
          have hD : va_D A [(x, .inr (3, [.ref k, .ref bu, .ref ma, .ref se, .int motionCount, .int sealedCount, .int suspended])), (ma, .inl (G.2.2.2.2, 12, .inr (.inr (.inr (.inr mot))))), (mo, .inr (2, [.ref pw, .ref cg, .ref an, .int (f_MO_takeObjection_standing trustee objections standing), .long block, .int partials, .int (f_MO_takeObjection_objections trustee objections standing), .long signature]))] := hD
          subst hr0
          subst hr1
          subst hr2
          refine W.widen (k := 8) (n := 48) (Nat.le_of_ble_eq_true rfl) (Nat.le_of_ble_eq_true rfl) ?_
          exact xc_vret hx hb ht hl0 (xw_F hS) hS.2.2 (xt_wr0 hP hD) d_ST_object_24
def g_ST_file (motion : Int32) (trustee : Int32) (motionCount : Int32) (standing : Int32) (objections : Int32) : Option String := xt_el (g_ST_motionAt motion motionCount) (g_ST_motionAt motion motionCount) (xt_el (g_ST_requireTrustee trustee) (g_ST_requireTrustee trustee) (xt_el (g_ST_requireOpen standing) (g_ST_requireOpen standing) (if (f_ST_isIn objections trustee) = 0 then none else (some xt_IS))))
def f_ST_file_PW (motion : Int32) (trustee : Int32) (power : Int64) (motionCount : Int32) (standing : Int32) (objections : Int32) (powers : Nat → Int64) : Nat → Int64 := xt_el (g_ST_motionAt motion motionCount) (fun _ => 0) (xt_el (g_ST_requireTrustee trustee) (fun _ => 0) (xt_el (g_ST_requireOpen standing) (fun _ => 0) (if (f_ST_isIn objections trustee) = 0 then (f_MO_takePartial_PW trustee power powers) else (fun _ => 0))))
def f_ST_file_CG (motion : Int32) (trustee : Int32) (cc_ : Int32) (motionCount : Int32) (standing : Int32) (objections : Int32) (challenges : Nat → Int32) : Nat → Int32 := xt_el (g_ST_motionAt motion motionCount) (fun _ => 0) (xt_el (g_ST_requireTrustee trustee) (fun _ => 0) (xt_el (g_ST_requireOpen standing) (fun _ => 0) (if (f_ST_isIn objections trustee) = 0 then (f_MO_takePartial_CG trustee cc_ challenges) else (fun _ => 0))))
def f_ST_file_AN (motion : Int32) (trustee : Int32) (zz_ : Int64) (motionCount : Int32) (standing : Int32) (objections : Int32) (answers : Nat → Int64) : Nat → Int64 := xt_el (g_ST_motionAt motion motionCount) (fun _ => 0) (xt_el (g_ST_requireTrustee trustee) (fun _ => 0) (xt_el (g_ST_requireOpen standing) (fun _ => 0) (if (f_ST_isIn objections trustee) = 0 then (f_MO_takePartial_AN trustee zz_ answers) else (fun _ => 0))))
def f_ST_file_partials (motion : Int32) (trustee : Int32) (motionCount : Int32) (standing : Int32) (partials : Int32) (objections : Int32) : Int32 := xt_el (g_ST_motionAt motion motionCount) 0 (xt_el (g_ST_requireTrustee trustee) 0 (xt_el (g_ST_requireOpen standing) 0 (if (f_ST_isIn objections trustee) = 0 then (f_MO_takePartial_partials trustee partials) else 0)))
set_option maxHeartbeats 4000000 in
set_option maxRecDepth 100000 in
theorem ct_ST_file (l : Launch) {G : xg_G} (hg : xg_F G) (hl9 : l.stackTraces = false) (H : Heap) (hO : xg_O G H) (x : Nat) (motion : Int32) (trustee : Int32) (power : Int64) (cc_ : Int32) (zz_ : Int64) (k : Nat) (bu : Nat) (ma : Nat) (se : Nat) (motionCount : Int32) (sealedCount : Int32) (suspended : Int32) (mot : Nat → Option Nat) (mo : Nat) (pw : Nat) (cg : Nat) (an : Nat) (standing : Int32) (block : Int64) (partials : Int32) (objections : Int32) (signature : Int64) (powers : Nat → Int64) (challenges : Nat → Int32) (answers : Nat → Int64) (hP : va_P G.2.1 cl_all [(x, .inr (3, [.ref k, .ref bu, .ref ma, .ref se, .int motionCount, .int sealedCount, .int suspended])), (ma, .inl (G.2.2.2.2, 12, .inr (.inr (.inr (.inr mot))))), (mo, .inr (2, [.ref pw, .ref cg, .ref an, .int standing, .long block, .int partials, .int objections, .long signature])), (pw, .inl (G.2.2.2.1, 6, .inr (.inl powers))), (cg, .inl (G.2.2.1, 6, .inl challenges)), (an, .inl (G.2.2.2.1, 6, .inr (.inl answers)))] H) (hD0 : va_D (fun _ => True) [(x, .inr (3, [.ref k, .ref bu, .ref ma, .ref se, .int motionCount, .int sealedCount, .int suspended])), (ma, .inl (G.2.2.2.2, 12, .inr (.inr (.inr (.inr mot))))), (mo, .inr (2, [.ref pw, .ref cg, .ref an, .int standing, .long block, .int partials, .int objections, .long signature])), (pw, .inl (G.2.2.2.1, 6, .inr (.inl powers))), (cg, .inl (G.2.2.1, 6, .inl challenges)), (an, .inl (G.2.2.2.1, 6, .inr (.inl answers)))]) (hC : motionCount.toInt ≤ 12) (hM : ¬ motion < 0 → motion < motionCount → mot motion.toNatClampNeg = some mo) : xc_Met l y_ST_file (.code y_ST_file b_ST_file 9 none) ({ frames := 7, cells := 8, slots := 48, locals := 95 } : Room) (xg_Pc G [.ref x, .int motion, .int trustee, .long power, .int cc_, .long zz_] H) (xt_wr G (va_A [(x, .inr (3, [.ref k, .ref bu, .ref ma, .ref se, .int motionCount, .int sealedCount, .int suspended])), (ma, .inl (G.2.2.2.2, 12, .inr (.inr (.inr (.inr mot))))), (mo, .inr (2, [.ref pw, .ref cg, .ref an, .int standing, .long block, .int partials, .int objections, .long signature])), (pw, .inl (G.2.2.2.1, 6, .inr (.inl powers))), (cg, .inl (G.2.2.1, 6, .inl challenges)), (an, .inl (G.2.2.2.1, 6, .inr (.inl answers)))] H.size) (g_ST_file motion trustee motionCount standing objections) none [(x, .inr (3, [.ref k, .ref bu, .ref ma, .ref se, .int motionCount, .int sealedCount, .int suspended])), (ma, .inl (G.2.2.2.2, 12, .inr (.inr (.inr (.inr mot))))), (mo, .inr (2, [.ref pw, .ref cg, .ref an, .int standing, .long block, .int (f_ST_file_partials motion trustee motionCount standing partials objections), .int objections, .long signature])), (pw, .inl (G.2.2.2.1, 6, .inr (.inl (f_ST_file_PW motion trustee power motionCount standing objections powers)))), (cg, .inl (G.2.2.1, 6, .inl (f_ST_file_CG motion trustee cc_ motionCount standing objections challenges))), (an, .inl (G.2.2.2.1, 6, .inr (.inl (f_ST_file_AN motion trustee zz_ motionCount standing objections answers))))] H) (va_A [(x, .inr (3, [.ref k, .ref bu, .ref ma, .ref se, .int motionCount, .int sealedCount, .int suspended])), (ma, .inl (G.2.2.2.2, 12, .inr (.inr (.inr (.inr mot))))), (mo, .inr (2, [.ref pw, .ref cg, .ref an, .int standing, .long block, .int partials, .int objections, .long signature])), (pw, .inl (G.2.2.2.1, 6, .inr (.inl powers))), (cg, .inl (G.2.2.1, 6, .inl challenges)), (an, .inl (G.2.2.2.1, 6, .inr (.inl answers)))] H.size) := by
  refine xc_ofW (by decide) ?_
  intro p e s m args below meth c s₁ B hml hE hv
  obtain ⟨rfl, rfl, hw⟩ := hv
  have hx := B.exec
  have hb := B.bytes
  have ht := B.returns
  have hl0 := B.notSynchronized
  have S : xc_Fix p m c b_ST_file 9 s "SealTrust" := ⟨hx, hb, hml, findClass_of_methodNamed B.named⟩
  have hD := hD0.self (sz := s.heap.size)
  generalize hAe : va_A [(x, .inr (3, [.ref k, .ref bu, .ref ma, .ref se, .int motionCount, .int sealedCount, .int suspended])), (ma, .inl (G.2.2.2.2, 12, .inr (.inr (.inr (.inr mot))))), (mo, .inr (2, [.ref pw, .ref cg, .ref an, .int standing, .long block, .int partials, .int objections, .long signature])), (pw, .inl (G.2.2.2.1, 6, .inr (.inl powers))), (cg, .inl (G.2.2.1, 6, .inl challenges)), (an, .inl (G.2.2.2.1, 6, .inr (.inl answers)))] s.heap.size = A at hD ⊢
  have hA : ∀ q : Nat, s.heap.size ≤ q → A q := fun q h => by rw [← hAe]; exact Or.inr h
  have hS : va_S A s.heap s.heap [] := va_S.rf
  have hl := lv_entry ([.ref x, .int motion, .int trustee, .long power, .int cc_, .long zz_]) (n := 9) (Nat.le_of_ble_eq_true rfl)
  rw [lg_entry_eq]
  generalize (lg_sl ([.ref x, .int motion, .int trustee, .long power, .int cc_, .long zz_]) ++ List.replicate (9 - (lg_sl ([.ref x, .int motion, .int trustee, .long power, .int cc_, .long zz_])).length) Slot.unset).toArray = ls at hl ⊢
  have hl : lv_has ls 9 [(0, .ref x), (1, .int motion), (2, .int trustee), (3, .long power), (5, .int cc_), (6, .long zz_)] := hl
  obtain ⟨r0, hr0⟩ : ∃ r, g_ST_file motion trustee motionCount standing objections = r := ⟨_, rfl⟩
  rw [hr0]
  unfold g_ST_file at hr0
  obtain ⟨r1, hr1⟩ : ∃ r, f_ST_file_PW motion trustee power motionCount standing objections powers = r := ⟨_, rfl⟩
  rw [hr1]
  unfold f_ST_file_PW at hr1
  obtain ⟨r2, hr2⟩ : ∃ r, f_ST_file_CG motion trustee cc_ motionCount standing objections challenges = r := ⟨_, rfl⟩
  rw [hr2]
  unfold f_ST_file_CG at hr2
  obtain ⟨r3, hr3⟩ : ∃ r, f_ST_file_AN motion trustee zz_ motionCount standing objections answers = r := ⟨_, rfl⟩
  rw [hr3]
  unfold f_ST_file_AN at hr3
  obtain ⟨r4, hr4⟩ : ∃ r, f_ST_file_partials motion trustee motionCount standing partials objections = r := ⟨_, rfl⟩
  rw [hr4]
  unfold f_ST_file_partials at hr4
  show W p l e ({ frames := 7, cells := 8, slots := 48, locals := 95 } : Room) s m _ below meth c s.heap [] 0 0 (xc_Z below _ _ _ s 8 48) _
  refine lv_aload_n hx hb d_ST_file_0 rfl (lv_at hl 0 rfl) ?_
  refine lv_iload_n hx hb d_ST_file_1 rfl (lv_at hl 1 rfl) ?_
  refine xt_use (xg_runV (rest := []) (kw := 0) si_ST_98 hg hw S (va_recv (xg_k hg hw) hP (ci := 3) rfl (q0 := 0) rfl) (ct_ST_motionAt l hg hl9 s.heap hO x motion k bu ma se motionCount sealedCount suspended mot (hP.sub [0, 1] rfl) hC mo hM) ⟨by decide, by decide, by decide, by decide⟩ rfl hl.1 rfl (Nat.le_of_ble_eq_true rfl) d_ST_file_2) hl0 hE (by decide) (by decide) (fun E9 H9 h9 hF9 => ?_) (fun q2 => ?_)
  · rw [xt_el1 h9, h9] at hr0
    subst hr0
    exact xt_wr1 hF9
  · rw [xt_el0 q2] at hr0
    rw [xt_el0 q2] at hr1
    rw [xt_el0 q2] at hr2
    rw [xt_el0 q2] at hr3
    rw [xt_el0 q2] at hr4
    refine lv_astore hx hb d_ST_file_5 hl (by decide) rfl (fun ls hl => ?_)
    have hl : lv_has ls 9 [(8, .ref mo), (0, .ref x), (1, .int motion), (2, .int trustee), (3, .long power), (5, .int cc_), (6, .long zz_)] := hl
    refine lv_iload_n hx hb d_ST_file_7 rfl (lv_at hl 3 rfl) ?_
    refine xt_use (xg_runS (rest := []) (kw := 0) si_ST_102 hg hw S (ct_ST_requireTrustee l hg hl9 s.heap hO trustee  ) ⟨by decide, by decide, by decide, by decide⟩ rfl hl.1 rfl (Nat.le_of_ble_eq_true rfl) d_ST_file_8) hl0 hE (by decide) (by decide) (fun E9 H9 h9 hF9 => ?_) (fun q8 => ?_)
    · rw [xt_el1 h9, h9] at hr0
      subst hr0
      exact xt_wr1 hF9
    · rw [xt_el0 q8] at hr0
      rw [xt_el0 q8] at hr1
      rw [xt_el0 q8] at hr2
      rw [xt_el0 q8] at hr3
      rw [xt_el0 q8] at hr4
      refine lv_aload hx hb d_ST_file_11 (lv_at hl 0 rfl) ?_
      refine xt_use (xg_runS (rest := []) (kw := 0) si_ST_106 hg hw S (ct_ST_requireOpen l hg hl9 s.heap hO mo pw cg an standing block partials objections signature (hP.sub [2] rfl) ) ⟨by decide, by decide, by decide, by decide⟩ rfl hl.1 rfl (Nat.le_of_ble_eq_true rfl) d_ST_file_13) hl0 hE (by decide) (by decide) (fun E9 H9 h9 hF9 => ?_) (fun q13 => ?_)
      · rw [xt_el1 h9, h9] at hr0
        subst hr0
        exact xt_wr1 hF9
      · rw [xt_el0 q13] at hr0
        rw [xt_el0 q13] at hr1
        rw [xt_el0 q13] at hr2
        rw [xt_el0 q13] at hr3
        rw [xt_el0 q13] at hr4
        refine lv_aload hx hb d_ST_file_16 (lv_at hl 0 rfl) ?_
        refine gf_ST_126 hg hw S hP 2 rfl rfl d_ST_file_18 ?_
        refine lv_iload_n hx hb d_ST_file_21 rfl (lv_at hl 3 rfl) ?_
        refine xg_read (xg_runS (rest := []) (kw := 0) si_ST_114 hg hw S (ct_ST_isIn l hg s.heap objections trustee ) ⟨by decide, by decide, by decide, by decide⟩ rfl hl.1 rfl (Nat.le_of_ble_eq_true rfl) d_ST_file_22) ?_
        refine lv_if_eq hx hb d_ST_file_25 (tgt := 38) (by decide) (fun h25 => ?_) (fun h25 => ?_)
        · rw [if_pos h25] at hr0
          rw [if_pos h25] at hr1
          rw [if_pos h25] at hr2
          rw [if_pos h25] at hr3
          rw [if_pos h25] at hr4
          refine lv_aload hx hb d_ST_file_38 (lv_at hl 0 rfl) ?_
          refine lv_iload_n hx hb d_ST_file_40 rfl (lv_at hl 3 rfl) ?_
          refine lv_lload_n hx hb d_ST_file_41 rfl (lv_at hl 4 rfl) ?_
          refine lv_iload hx hb d_ST_file_42 (lv_at hl 5 rfl) ?_
          refine lv_lload hx hb d_ST_file_44 (lv_at hl 6 rfl) ?_
          refine xw_use (wc := [(mo, .inr (2, [.ref pw, .ref cg, .ref an, .int standing, .long block, .int partials, .int objections, .long signature])), (pw, .inl (G.2.2.2.1, 6, .inr (.inl powers))), (cg, .inl (G.2.2.1, 6, .inl challenges)), (an, .inl (G.2.2.2.1, 6, .inr (.inl answers)))]) (wr := [(x, .inr (3, [.ref k, .ref bu, .ref ma, .ref se, .int motionCount, .int sealedCount, .int suspended])), (ma, .inl (G.2.2.2.2, 12, .inr (.inr (.inr (.inr mot)))))]) (xg_runV (rest := []) (kw := 0) si_ST_131 hg hw S (va_recv (xg_k hg hw) hP (ci := 2) rfl (q0 := 2) rfl) (ct_MO_takePartial l hg s.heap mo trustee power cc_ zz_ pw cg an standing block partials objections signature powers challenges answers (hP.sub [2, 3, 4, 5] rfl) ((hD.sub [2, 3, 4, 5] (by decide) rfl).weaken (fun _ _ _ _ => trivial)) (xs_tru q8)) ⟨by decide, by decide, by decide, by decide⟩ rfl hl.1 rfl (Nat.le_of_ble_eq_true rfl) d_ST_file_46) hP hD hS hA [2, 3, 4, 5] [0, 1] rfl rfl (by decide) (by decide) (fun H1 L1 hP hD hS => ?_)
          have hP : va_P G.2.1 cl_all [(x, .inr (3, [.ref k, .ref bu, .ref ma, .ref se, .int motionCount, .int sealedCount, .int suspended])), (ma, .inl (G.2.2.2.2, 12, .inr (.inr (.inr (.inr mot))))), (mo, .inr (2, [.ref pw, .ref cg, .ref an, .int standing, .long block, .int (f_MO_takePartial_partials trustee partials), .int objections, .long signature])), (pw, .inl (G.2.2.2.1, 6, .inr (.inl (f_MO_takePartial_PW trustee power powers)))), (cg, .inl (G.2.2.1, 6, .inl (f_MO_takePartial_CG trustee cc_ challenges))), (an, .inl (G.2.2.2.1, 6, .inr (.inl (f_MO_takePartial_AN trustee zz_ answers))))] H1 := hP
          have hD : va_D A [(x, .inr (3, [.ref k, .ref bu, .ref ma, .ref se, .int motionCount, .int sealedCount, .int suspended])), (ma, .inl (G.2.2.2.2, 12, .inr (.inr (.inr (.inr mot))))), (mo, .inr (2, [.ref pw, .ref cg, .ref an, .int standing, .long block, .int (f_MO_takePartial_partials trustee partials), .int objections, .long signature])), (pw, .inl (G.2.2.2.1, 6, .inr (.inl (f_MO_takePartial_PW trustee power powers)))), (cg, .inl (G.2.2.1, 6, .inl (f_MO_takePartial_CG trustee cc_ challenges))), (an, .inl (G.2.2.2.1, 6, .inr (.inl (f_MO_takePartial_AN trustee zz_ answers))))] := hD
          subst hr0
          subst hr1
          subst hr2
          subst hr3
          subst hr4
          refine W.widen (k := 8) (n := 48) (Nat.le_of_ble_eq_true rfl) (Nat.le_of_ble_eq_true rfl) ?_
          exact xc_vret hx hb ht hl0 (xw_F hS) hS.2.2 (xt_wr0 hP hD) d_ST_file_49
        · rw [if_neg h25] at hr0
          rw [if_neg h25] at hr1
          rw [if_neg h25] at hr2
          rw [if_neg h25] at hr3
          rw [if_neg h25] at hr4
          subst hr0
          exact th_2 hg hw hO S hl9 hl0 hE sw_129 hl.1 d_ST_file_28 d_ST_file_31 d_ST_file_32 d_ST_file_34 d_ST_file_37 ⟨by decide, by decide, by decide, by decide⟩ ⟨by decide, by decide⟩ (fun _ h => xt_wr1 h)
def g_ST_partial (motion : Int32) (trustee : Int32) (what : Int32) (motionCount : Int32) (partials : Int32) : Option String := xt_el (g_ST_motionAt motion motionCount) (g_ST_motionAt motion motionCount) (xt_el (g_ST_requireTrustee trustee) (g_ST_requireTrustee trustee) (if (f_ST_isIn partials trustee) = 0 then (some xt_NS) else (if what = (0 : Int32) then none else (if what = (1 : Int32) then none else (if what = (2 : Int32) then none else (some xt_IA))))))
def f_ST_partial (motion : Int32) (trustee : Int32) (what : Int32) (motionCount : Int32) (partials : Int32) (powers : Nat → Int64) (challenges : Nat → Int32) (answers : Nat → Int64) : Int64 := xt_el (g_ST_motionAt motion motionCount) 0 (xt_el (g_ST_requireTrustee trustee) 0 (if (f_ST_isIn partials trustee) = 0 then 0 else (if what = (0 : Int32) then (powers trustee.toNatClampNeg) else (if what = (1 : Int32) then ((challenges trustee.toNatClampNeg).toInt64) else (if what = (2 : Int32) then (answers trustee.toNatClampNeg) else 0)))))
set_option maxHeartbeats 4000000 in
set_option maxRecDepth 100000 in
theorem ct_ST_partial (l : Launch) {G : xg_G} (hg : xg_F G) (hl9 : l.stackTraces = false) (H : Heap) (hO : xg_O G H) (x : Nat) (motion : Int32) (trustee : Int32) (what : Int32) (k : Nat) (bu : Nat) (ma : Nat) (se : Nat) (motionCount : Int32) (sealedCount : Int32) (suspended : Int32) (mot : Nat → Option Nat) (mo : Nat) (pw : Nat) (cg : Nat) (an : Nat) (standing : Int32) (block : Int64) (partials : Int32) (objections : Int32) (signature : Int64) (powers : Nat → Int64) (challenges : Nat → Int32) (answers : Nat → Int64) (hP : va_P G.2.1 cl_all [(x, .inr (3, [.ref k, .ref bu, .ref ma, .ref se, .int motionCount, .int sealedCount, .int suspended])), (ma, .inl (G.2.2.2.2, 12, .inr (.inr (.inr (.inr mot))))), (mo, .inr (2, [.ref pw, .ref cg, .ref an, .int standing, .long block, .int partials, .int objections, .long signature])), (pw, .inl (G.2.2.2.1, 6, .inr (.inl powers))), (cg, .inl (G.2.2.1, 6, .inl challenges)), (an, .inl (G.2.2.2.1, 6, .inr (.inl answers)))] H) (hC : motionCount.toInt ≤ 12) (hM : ¬ motion < 0 → motion < motionCount → mot motion.toNatClampNeg = some mo) : xc_Met l y_ST_partial (.code y_ST_partial b_ST_partial 5 (some .long)) ({ frames := 7, cells := 8, slots := 48, locals := 95 } : Room) (xg_Pc G [.ref x, .int motion, .int trustee, .int what] H) (xt_ro (g_ST_partial motion trustee what motionCount partials) (some (.long (f_ST_partial motion trustee what motionCount partials powers challenges answers))) H) (fun _ => False) := by
  refine xc_ofW (by decide) ?_
  intro p e s m args below meth c s₁ B hml hE hv
  obtain ⟨rfl, rfl, hw⟩ := hv
  have hx := B.exec
  have hb := B.bytes
  have ht := B.returns
  have hl0 := B.notSynchronized
  have S : xc_Fix p m c b_ST_partial 5 s "SealTrust" := ⟨hx, hb, hml, findClass_of_methodNamed B.named⟩
  have hl := lv_entry ([.ref x, .int motion, .int trustee, .int what]) (n := 5) (Nat.le_of_ble_eq_true rfl)
  rw [lg_entry_eq]
  generalize (lg_sl ([.ref x, .int motion, .int trustee, .int what]) ++ List.replicate (5 - (lg_sl ([.ref x, .int motion, .int trustee, .int what])).length) Slot.unset).toArray = ls at hl ⊢
  have hl : lv_has ls 5 [(0, .ref x), (1, .int motion), (2, .int trustee), (3, .int what)] := hl
  obtain ⟨r0, hr0⟩ : ∃ r, g_ST_partial motion trustee what motionCount partials = r := ⟨_, rfl⟩
  rw [hr0]
  unfold g_ST_partial at hr0
  obtain ⟨r1, hr1⟩ : ∃ r, f_ST_partial motion trustee what motionCount partials powers challenges answers = r := ⟨_, rfl⟩
  rw [hr1]
  unfold f_ST_partial at hr1
  show W p l e ({ frames := 7, cells := 8, slots := 48, locals := 95 } : Room) s m _ below meth c s.heap [] 0 0 (xc_Z below _ _ _ s 8 48) _
  refine lv_aload_n hx hb d_ST_partial_0 rfl (lv_at hl 0 rfl) ?_
  refine lv_iload_n hx hb d_ST_partial_1 rfl (lv_at hl 1 rfl) ?_
  refine xt_use (xg_runV (rest := []) (kw := 0) si_ST_98 hg hw S (va_recv (xg_k hg hw) hP (ci := 3) rfl (q0 := 0) rfl) (ct_ST_motionAt l hg hl9 s.heap hO x motion k bu ma se motionCount sealedCount suspended mot (hP.sub [0, 1] rfl) hC mo hM) ⟨by decide, by decide, by decide, by decide⟩ rfl hl.1 rfl (Nat.le_of_ble_eq_true rfl) d_ST_partial_2) hl0 hE (by decide) (by decide) (fun E9 H9 h9 hF9 => ?_) (fun q2 => ?_)
  · rw [xt_el1 h9, h9] at hr0
    subst hr0
    exact xt_ro1 hF9
  · rw [xt_el0 q2] at hr0
    rw [xt_el0 q2] at hr1
    refine lv_astore hx hb d_ST_partial_5 hl (by decide) rfl (fun ls hl => ?_)
    have hl : lv_has ls 5 [(4, .ref mo), (0, .ref x), (1, .int motion), (2, .int trustee), (3, .int what)] := hl
    refine lv_iload_n hx hb d_ST_partial_7 rfl (lv_at hl 3 rfl) ?_
    refine xt_use (xg_runS (rest := []) (kw := 0) si_ST_102 hg hw S (ct_ST_requireTrustee l hg hl9 s.heap hO trustee  ) ⟨by decide, by decide, by decide, by decide⟩ rfl hl.1 rfl (Nat.le_of_ble_eq_true rfl) d_ST_partial_8) hl0 hE (by decide) (by decide) (fun E9 H9 h9 hF9 => ?_) (fun q8 => ?_)
    · rw [xt_el1 h9, h9] at hr0
      subst hr0
      exact xt_ro1 hF9
    · rw [xt_el0 q8] at hr0
      rw [xt_el0 q8] at hr1
      refine lv_aload hx hb d_ST_partial_11 (lv_at hl 0 rfl) ?_
      refine gf_ST_135 hg hw S hP 2 rfl rfl d_ST_partial_13 ?_
      refine lv_iload_n hx hb d_ST_partial_16 rfl (lv_at hl 3 rfl) ?_
      refine xg_read (xg_runS (rest := []) (kw := 0) si_ST_114 hg hw S (ct_ST_isIn l hg s.heap partials trustee ) ⟨by decide, by decide, by decide, by decide⟩ rfl hl.1 rfl (Nat.le_of_ble_eq_true rfl) d_ST_partial_17) ?_
      refine lv_if_ne hx hb d_ST_partial_20 (tgt := 33) (by decide) (fun h20 => ?_) (fun h20 => ?_)
      · rw [if_neg h20] at hr0
        rw [if_neg h20] at hr1
        refine lv_iload_n hx hb d_ST_partial_33 rfl (lv_at hl 4 rfl) ?_
        by_cases h34_0 : what = (0 : Int32)
        · rw [if_pos h34_0] at hr0
          rw [if_pos h34_0] at hr1
          refine lv_tableIn hx hb d_ST_partial_34 (off := 26) (tgt := 60) (by rw [h34_0]; decide) (by rw [h34_0]; decide) (by rw [h34_0]; decide) (by decide) ?_
          refine lv_aload hx hb d_ST_partial_60 (lv_at hl 0 rfl) ?_
          refine gf_ST_143 hg hw S hP 2 rfl rfl d_ST_partial_62 ?_
          refine lv_iload_n hx hb d_ST_partial_65 rfl (lv_at hl 3 rfl) ?_
          refine va_lald hx hb (xg_k hg hw) hP 3 1 rfl rfl (xs_tru q8) d_ST_partial_66 ?_
          subst hr0
          subst hr1
          refine W.widen (k := 8) (n := 48) (Nat.le_of_ble_eq_true rfl) (Nat.le_of_ble_eq_true rfl) ?_
          exact xc_lret hx hb ht hl0 xc_F.rf (fun _ h => nomatch h) xt_ro0 d_ST_partial_67
        · rw [if_neg h34_0] at hr0
          rw [if_neg h34_0] at hr1
          by_cases h34_1 : what = (1 : Int32)
          · rw [if_pos h34_1] at hr0
            rw [if_pos h34_1] at hr1
            refine lv_tableIn hx hb d_ST_partial_34 (off := 34) (tgt := 68) (by rw [h34_1]; decide) (by rw [h34_1]; decide) (by rw [h34_1]; decide) (by decide) ?_
            refine lv_aload hx hb d_ST_partial_68 (lv_at hl 0 rfl) ?_
            refine gf_ST_147 hg hw S hP 2 rfl rfl d_ST_partial_70 ?_
            refine lv_iload_n hx hb d_ST_partial_73 rfl (lv_at hl 3 rfl) ?_
            refine va_iald hx hb (xg_k hg hw) hP 4 0 rfl rfl (xs_tru q8) d_ST_partial_74 ?_
            refine lv_i2l hx hb d_ST_partial_75 rfl ?_
            subst hr0
            subst hr1
            refine W.widen (k := 8) (n := 48) (Nat.le_of_ble_eq_true rfl) (Nat.le_of_ble_eq_true rfl) ?_
            exact xc_lret hx hb ht hl0 xc_F.rf (fun _ h => nomatch h) xt_ro0 d_ST_partial_76
          · rw [if_neg h34_1] at hr0
            rw [if_neg h34_1] at hr1
            by_cases h34_2 : what = (2 : Int32)
            · rw [if_pos h34_2] at hr0
              rw [if_pos h34_2] at hr1
              refine lv_tableIn hx hb d_ST_partial_34 (off := 43) (tgt := 77) (by rw [h34_2]; decide) (by rw [h34_2]; decide) (by rw [h34_2]; decide) (by decide) ?_
              refine lv_aload hx hb d_ST_partial_77 (lv_at hl 0 rfl) ?_
              refine gf_ST_150 hg hw S hP 2 rfl rfl d_ST_partial_79 ?_
              refine lv_iload_n hx hb d_ST_partial_82 rfl (lv_at hl 3 rfl) ?_
              refine va_lald hx hb (xg_k hg hw) hP 5 1 rfl rfl (xs_tru q8) d_ST_partial_83 ?_
              subst hr0
              subst hr1
              refine W.widen (k := 8) (n := 48) (Nat.le_of_ble_eq_true rfl) (Nat.le_of_ble_eq_true rfl) ?_
              exact xc_lret hx hb ht hl0 xc_F.rf (fun _ h => nomatch h) xt_ro0 d_ST_partial_84
            · rw [if_neg h34_2] at hr0
              rw [if_neg h34_2] at hr1
              have e34_0 : (what).toInt ≠ 0 := xt_ne h34_0
              have e34_1 : (what).toInt ≠ 1 := xt_ne h34_1
              have e34_2 : (what).toInt ≠ 2 := xt_ne h34_2
              refine lv_tableOut hx hb d_ST_partial_34 (tgt := 85) (by omega) (by decide) ?_
              subst hr0
              exact th_1 hg hw hO S hl9 hl0 hE sw_153 hl.1 d_ST_partial_85 d_ST_partial_88 d_ST_partial_89 d_ST_partial_91 d_ST_partial_94 ⟨by decide, by decide, by decide, by decide⟩ ⟨by decide, by decide⟩ (fun _ h => xt_ro1 h)
      · rw [if_pos h20] at hr0
        rw [if_pos h20] at hr1
        subst hr0
        exact th_4 hg hw hO S hl9 hl0 hE sw_140 hl.1 d_ST_partial_23 d_ST_partial_26 d_ST_partial_27 d_ST_partial_29 d_ST_partial_32 ⟨by decide, by decide, by decide, by decide⟩ ⟨by decide, by decide⟩ (fun _ h => xt_ro1 h)
def g_ST_bad (motion : Int32) (motionCount : Int32) : Option String := xt_el (g_ST_motionAt motion motionCount) (g_ST_motionAt motion motionCount) none
def f_ST_bad (motion : Int32) (motionCount : Int32) (base : Int64) (pp : Int64) (qq : Int64) (modulus : Int64) (order : Int64) (checks : Nat → Int64) (block : Int64) (partials : Int32) (powers : Nat → Int64) (challenges : Nat → Int32) (answers : Nat → Int64) : Int32 := xt_el (g_ST_motionAt motion motionCount) 0 (partials &&& ((f_ST_goodPartials powers challenges answers block partials base checks pp qq modulus order) ^^^ (-1 : Int32)))
set_option maxHeartbeats 4000000 in
set_option maxRecDepth 100000 in
theorem ct_ST_bad (l : Launch) {G : xg_G} (hg : xg_F G) (hl9 : l.stackTraces = false) (H : Heap) (hO : xg_O G H) (x : Nat) (motion : Int32) (k : Nat) (bu : Nat) (ma : Nat) (se : Nat) (motionCount : Int32) (sealedCount : Int32) (suspended : Int32) (sh : Nat) (ch : Nat) (dealt : Int32) (epoch : Int64) (base : Int64) (whole : Int64) (signing : Int64) (pp : Int64) (qq : Int64) (modulus : Int64) (order : Int64) (checks : Nat → Int64) (mot : Nat → Option Nat) (mo : Nat) (pw : Nat) (cg : Nat) (an : Nat) (standing : Int32) (block : Int64) (partials : Int32) (objections : Int32) (signature : Int64) (powers : Nat → Int64) (challenges : Nat → Int32) (answers : Nat → Int64) (hP : va_P G.2.1 cl_all [(x, .inr (3, [.ref k, .ref bu, .ref ma, .ref se, .int motionCount, .int sealedCount, .int suspended])), (k, .inr (1, [.ref sh, .ref ch, .int dealt, .long epoch, .long base, .long whole, .long signing, .long pp, .long qq, .long modulus, .long order])), (ch, .inl (G.2.2.2.1, 6, .inr (.inl checks))), (ma, .inl (G.2.2.2.2, 12, .inr (.inr (.inr (.inr mot))))), (mo, .inr (2, [.ref pw, .ref cg, .ref an, .int standing, .long block, .int partials, .int objections, .long signature])), (pw, .inl (G.2.2.2.1, 6, .inr (.inl powers))), (cg, .inl (G.2.2.1, 6, .inl challenges)), (an, .inl (G.2.2.2.1, 6, .inr (.inl answers)))] H) (hC : motionCount.toInt ≤ 12) (hM : ¬ motion < 0 → motion < motionCount → mot motion.toNatClampNeg = some mo) : xc_Met l y_ST_bad (.code y_ST_bad b_ST_bad 3 (some .int)) ({ frames := 7, cells := 8, slots := 48, locals := 119 } : Room) (xg_Pc G [.ref x, .int motion] H) (xt_ro (g_ST_bad motion motionCount) (some (.int (f_ST_bad motion motionCount base pp qq modulus order checks block partials powers challenges answers))) H) (fun _ => False) := by
  refine xc_ofW (by decide) ?_
  intro p e s m args below meth c s₁ B hml hE hv
  obtain ⟨rfl, rfl, hw⟩ := hv
  have hx := B.exec
  have hb := B.bytes
  have ht := B.returns
  have hl0 := B.notSynchronized
  have S : xc_Fix p m c b_ST_bad 3 s "SealTrust" := ⟨hx, hb, hml, findClass_of_methodNamed B.named⟩
  have hl := lv_entry ([.ref x, .int motion]) (n := 3) (Nat.le_of_ble_eq_true rfl)
  rw [lg_entry_eq]
  generalize (lg_sl ([.ref x, .int motion]) ++ List.replicate (3 - (lg_sl ([.ref x, .int motion])).length) Slot.unset).toArray = ls at hl ⊢
  have hl : lv_has ls 3 [(0, .ref x), (1, .int motion)] := hl
  obtain ⟨r0, hr0⟩ : ∃ r, g_ST_bad motion motionCount = r := ⟨_, rfl⟩
  rw [hr0]
  unfold g_ST_bad at hr0
  obtain ⟨r1, hr1⟩ : ∃ r, f_ST_bad motion motionCount base pp qq modulus order checks block partials powers challenges answers = r := ⟨_, rfl⟩
  rw [hr1]
  unfold f_ST_bad at hr1
  show W p l e ({ frames := 7, cells := 8, slots := 48, locals := 119 } : Room) s m _ below meth c s.heap [] 0 0 (xc_Z below _ _ _ s 8 48) _
  refine lv_aload_n hx hb d_ST_bad_0 rfl (lv_at hl 0 rfl) ?_
  refine lv_iload_n hx hb d_ST_bad_1 rfl (lv_at hl 1 rfl) ?_
  refine xt_use (xg_runV (rest := []) (kw := 0) si_ST_98 hg hw S (va_recv (xg_k hg hw) hP (ci := 3) rfl (q0 := 0) rfl) (ct_ST_motionAt l hg hl9 s.heap hO x motion k bu ma se motionCount sealedCount suspended mot (hP.sub [0, 3] rfl) hC mo hM) ⟨by decide, by decide, by decide, by decide⟩ rfl hl.1 rfl (Nat.le_of_ble_eq_true rfl) d_ST_bad_2) hl0 hE (by decide) (by decide) (fun E9 H9 h9 hF9 => ?_) (fun q2 => ?_)
  · rw [xt_el1 h9, h9] at hr0
    subst hr0
    exact xt_ro1 hF9
  · rw [xt_el0 q2] at hr0
    rw [xt_el0 q2] at hr1
    refine lv_astore_n hx hb d_ST_bad_5 rfl hl (by decide) rfl (fun ls hl => ?_)
    have hl : lv_has ls 3 [(2, .ref mo), (0, .ref x), (1, .int motion)] := hl
    refine lv_aload_n hx hb d_ST_bad_6 rfl (lv_at hl 0 rfl) ?_
    refine gf_ST_135 hg hw S hP 4 rfl rfl d_ST_bad_7 ?_
    refine lv_aload_n hx hb d_ST_bad_10 rfl (lv_at hl 1 rfl) ?_
    refine lv_aload_n hx hb d_ST_bad_11 rfl (lv_at hl 0 rfl) ?_
    refine xg_read (xg_runV (rest := [.int partials]) (kw := 1) si_ST_155 hg hw S (va_recv (xg_k hg hw) hP (ci := 3) rfl (q0 := 0) rfl) (ct_ST_goodPartials l hg s.heap x mo k bu ma se motionCount sealedCount suspended sh ch dealt epoch base whole signing pp qq modulus order checks pw cg an standing block partials objections signature powers challenges answers (hP.sub [0, 1, 2, 4, 5, 6, 7] rfl) ) ⟨by decide, by decide, by decide, by decide⟩ rfl hl.1 rfl (Nat.le_of_ble_eq_true rfl) d_ST_bad_12) ?_
    refine lv_iconst (v := (-1 : Int32)) hx hb d_ST_bad_15 (by decide) ?_
    refine lv_ixor hx hb d_ST_bad_16 ?_
    refine lv_iand hx hb d_ST_bad_17 ?_
    subst hr0
    subst hr1
    refine W.widen (k := 8) (n := 48) (Nat.le_of_ble_eq_true rfl) (Nat.le_of_ble_eq_true rfl) ?_
    exact xc_iret hx hb ht hl0 xc_F.rf (fun _ h => nomatch h) xt_ro0 d_ST_bad_18
def g_ST_join (motion : Int32) (motionCount : Int32) (base : Int64) (pp : Int64) (qq : Int64) (modulus : Int64) (order : Int64) (checks : Nat → Int64) (standing : Int32) (block : Int64) (partials : Int32) (powers : Nat → Int64) (challenges : Nat → Int32) (answers : Nat → Int64) : Option String := xt_el (g_ST_motionAt motion motionCount) (g_ST_motionAt motion motionCount) (xt_el (g_ST_requireOpen standing) (g_ST_requireOpen standing) (if (f_KE_isPrimeToModulus block pp qq) = 0 then (some xt_AR) else (if (3 : Int32) ≤ (f_IN_bitCount (f_ST_goodPartials powers challenges answers block partials base checks pp qq modulus order)) then none else (some xt_IS))))
def f_ST_join (motion : Int32) (motionCount : Int32) (base : Int64) (signing : Int64) (pp : Int64) (qq : Int64) (modulus : Int64) (order : Int64) (checks : Nat → Int64) (standing : Int32) (block : Int64) (partials : Int32) (powers : Nat → Int64) (challenges : Nat → Int32) (answers : Nat → Int64) : Int64 := xt_el (g_ST_motionAt motion motionCount) 0 (xt_el (g_ST_requireOpen standing) 0 (if (f_KE_isPrimeToModulus block pp qq) = 0 then 0 else (if (3 : Int32) ≤ (f_IN_bitCount (f_ST_goodPartials powers challenges answers block partials base checks pp qq modulus order)) then (f_MO_seal_signature (f_KE_signatureOf block signing modulus)) else 0)))
def f_ST_join_standing (motion : Int32) (motionCount : Int32) (base : Int64) (signing : Int64) (pp : Int64) (qq : Int64) (modulus : Int64) (order : Int64) (checks : Nat → Int64) (standing : Int32) (block : Int64) (partials : Int32) (powers : Nat → Int64) (challenges : Nat → Int32) (answers : Nat → Int64) : Int32 := xt_el (g_ST_motionAt motion motionCount) 0 (xt_el (g_ST_requireOpen standing) 0 (if (f_KE_isPrimeToModulus block pp qq) = 0 then 0 else (if (3 : Int32) ≤ (f_IN_bitCount (f_ST_goodPartials powers challenges answers block partials base checks pp qq modulus order)) then (f_MO_seal_standing (f_KE_signatureOf block signing modulus)) else 0)))
def f_ST_join_signature (motion : Int32) (motionCount : Int32) (base : Int64) (signing : Int64) (pp : Int64) (qq : Int64) (modulus : Int64) (order : Int64) (checks : Nat → Int64) (standing : Int32) (block : Int64) (partials : Int32) (powers : Nat → Int64) (challenges : Nat → Int32) (answers : Nat → Int64) : Int64 := xt_el (g_ST_motionAt motion motionCount) 0 (xt_el (g_ST_requireOpen standing) 0 (if (f_KE_isPrimeToModulus block pp qq) = 0 then 0 else (if (3 : Int32) ≤ (f_IN_bitCount (f_ST_goodPartials powers challenges answers block partials base checks pp qq modulus order)) then (f_MO_seal_signature (f_KE_signatureOf block signing modulus)) else 0)))
def f_ST_join_sealedCount (motion : Int32) (motionCount : Int32) (sealedCount : Int32) (base : Int64) (pp : Int64) (qq : Int64) (modulus : Int64) (order : Int64) (checks : Nat → Int64) (sealed : Nat → Int32) (standing : Int32) (block : Int64) (partials : Int32) (powers : Nat → Int64) (challenges : Nat → Int32) (answers : Nat → Int64) : Int32 := xt_el (g_ST_motionAt motion motionCount) 0 (xt_el (g_ST_requireOpen standing) 0 (if (f_KE_isPrimeToModulus block pp qq) = 0 then 0 else (if (3 : Int32) ≤ (f_IN_bitCount (f_ST_goodPartials powers challenges answers block partials base checks pp qq modulus order)) then (f_ST_enter_sealedCount motion sealedCount sealed) else 0)))
def f_ST_join_SE (motion : Int32) (motionCount : Int32) (sealedCount : Int32) (base : Int64) (pp : Int64) (qq : Int64) (modulus : Int64) (order : Int64) (checks : Nat → Int64) (sealed : Nat → Int32) (standing : Int32) (block : Int64) (partials : Int32) (powers : Nat → Int64) (challenges : Nat → Int32) (answers : Nat → Int64) : Nat → Int32 := xt_el (g_ST_motionAt motion motionCount) (fun _ => 0) (xt_el (g_ST_requireOpen standing) (fun _ => 0) (if (f_KE_isPrimeToModulus block pp qq) = 0 then (fun _ => 0) else (if (3 : Int32) ≤ (f_IN_bitCount (f_ST_goodPartials powers challenges answers block partials base checks pp qq modulus order)) then (f_ST_enter_SE motion sealedCount sealed) else (fun _ => 0))))
set_option maxHeartbeats 4000000 in
set_option maxRecDepth 100000 in
theorem ct_ST_join (l : Launch) {G : xg_G} (hg : xg_F G) (hl9 : l.stackTraces = false) (H : Heap) (hO : xg_O G H) (x : Nat) (motion : Int32) (k : Nat) (bu : Nat) (ma : Nat) (se : Nat) (motionCount : Int32) (sealedCount : Int32) (suspended : Int32) (sh : Nat) (ch : Nat) (dealt : Int32) (epoch : Int64) (base : Int64) (whole : Int64) (signing : Int64) (pp : Int64) (qq : Int64) (modulus : Int64) (order : Int64) (checks : Nat → Int64) (mot : Nat → Option Nat) (sealed : Nat → Int32) (mo : Nat) (pw : Nat) (cg : Nat) (an : Nat) (standing : Int32) (block : Int64) (partials : Int32) (objections : Int32) (signature : Int64) (powers : Nat → Int64) (challenges : Nat → Int32) (answers : Nat → Int64) (hP : va_P G.2.1 cl_all [(x, .inr (3, [.ref k, .ref bu, .ref ma, .ref se, .int motionCount, .int sealedCount, .int suspended])), (k, .inr (1, [.ref sh, .ref ch, .int dealt, .long epoch, .long base, .long whole, .long signing, .long pp, .long qq, .long modulus, .long order])), (ch, .inl (G.2.2.2.1, 6, .inr (.inl checks))), (ma, .inl (G.2.2.2.2, 12, .inr (.inr (.inr (.inr mot))))), (se, .inl (G.2.2.1, 12, .inl sealed)), (mo, .inr (2, [.ref pw, .ref cg, .ref an, .int standing, .long block, .int partials, .int objections, .long signature])), (pw, .inl (G.2.2.2.1, 6, .inr (.inl powers))), (cg, .inl (G.2.2.1, 6, .inl challenges)), (an, .inl (G.2.2.2.1, 6, .inr (.inl answers)))] H) (hD0 : va_D (fun _ => True) [(x, .inr (3, [.ref k, .ref bu, .ref ma, .ref se, .int motionCount, .int sealedCount, .int suspended])), (k, .inr (1, [.ref sh, .ref ch, .int dealt, .long epoch, .long base, .long whole, .long signing, .long pp, .long qq, .long modulus, .long order])), (ch, .inl (G.2.2.2.1, 6, .inr (.inl checks))), (ma, .inl (G.2.2.2.2, 12, .inr (.inr (.inr (.inr mot))))), (se, .inl (G.2.2.1, 12, .inl sealed)), (mo, .inr (2, [.ref pw, .ref cg, .ref an, .int standing, .long block, .int partials, .int objections, .long signature])), (pw, .inl (G.2.2.2.1, 6, .inr (.inl powers))), (cg, .inl (G.2.2.1, 6, .inl challenges)), (an, .inl (G.2.2.2.1, 6, .inr (.inl answers)))]) (hC : motionCount.toInt ≤ 12) (hM : ¬ motion < 0 → motion < motionCount → mot motion.toNatClampNeg = some mo) (hC0 : 0 ≤ sealedCount.toInt) : xc_Met l y_ST_join (.code y_ST_join b_ST_join 3 (some .long)) ({ frames := 7, cells := 8, slots := 48, locals := 118 } : Room) (xg_Pc G [.ref x, .int motion] H) (xt_wr G (va_A [(x, .inr (3, [.ref k, .ref bu, .ref ma, .ref se, .int motionCount, .int sealedCount, .int suspended])), (k, .inr (1, [.ref sh, .ref ch, .int dealt, .long epoch, .long base, .long whole, .long signing, .long pp, .long qq, .long modulus, .long order])), (ch, .inl (G.2.2.2.1, 6, .inr (.inl checks))), (ma, .inl (G.2.2.2.2, 12, .inr (.inr (.inr (.inr mot))))), (se, .inl (G.2.2.1, 12, .inl sealed)), (mo, .inr (2, [.ref pw, .ref cg, .ref an, .int standing, .long block, .int partials, .int objections, .long signature])), (pw, .inl (G.2.2.2.1, 6, .inr (.inl powers))), (cg, .inl (G.2.2.1, 6, .inl challenges)), (an, .inl (G.2.2.2.1, 6, .inr (.inl answers)))] H.size) (g_ST_join motion motionCount base pp qq modulus order checks standing block partials powers challenges answers) (some (.long (f_ST_join motion motionCount base signing pp qq modulus order checks standing block partials powers challenges answers))) [(x, .inr (3, [.ref k, .ref bu, .ref ma, .ref se, .int motionCount, .int (f_ST_join_sealedCount motion motionCount sealedCount base pp qq modulus order checks sealed standing block partials powers challenges answers), .int suspended])), (k, .inr (1, [.ref sh, .ref ch, .int dealt, .long epoch, .long base, .long whole, .long signing, .long pp, .long qq, .long modulus, .long order])), (ch, .inl (G.2.2.2.1, 6, .inr (.inl checks))), (ma, .inl (G.2.2.2.2, 12, .inr (.inr (.inr (.inr mot))))), (se, .inl (G.2.2.1, 12, .inl (f_ST_join_SE motion motionCount sealedCount base pp qq modulus order checks sealed standing block partials powers challenges answers))), (mo, .inr (2, [.ref pw, .ref cg, .ref an, .int (f_ST_join_standing motion motionCount base signing pp qq modulus order checks standing block partials powers challenges answers), .long block, .int partials, .int objections, .long (f_ST_join_signature motion motionCount base signing pp qq modulus order checks standing block partials powers challenges answers)])), (pw, .inl (G.2.2.2.1, 6, .inr (.inl powers))), (cg, .inl (G.2.2.1, 6, .inl challenges)), (an, .inl (G.2.2.2.1, 6, .inr (.inl answers)))] H) (va_A [(x, .inr (3, [.ref k, .ref bu, .ref ma, .ref se, .int motionCount, .int sealedCount, .int suspended])), (k, .inr (1, [.ref sh, .ref ch, .int dealt, .long epoch, .long base, .long whole, .long signing, .long pp, .long qq, .long modulus, .long order])), (ch, .inl (G.2.2.2.1, 6, .inr (.inl checks))), (ma, .inl (G.2.2.2.2, 12, .inr (.inr (.inr (.inr mot))))), (se, .inl (G.2.2.1, 12, .inl sealed)), (mo, .inr (2, [.ref pw, .ref cg, .ref an, .int standing, .long block, .int partials, .int objections, .long signature])), (pw, .inl (G.2.2.2.1, 6, .inr (.inl powers))), (cg, .inl (G.2.2.1, 6, .inl challenges)), (an, .inl (G.2.2.2.1, 6, .inr (.inl answers)))] H.size) := by
  refine xc_ofW (by decide) ?_
  intro p e s m args below meth c s₁ B hml hE hv
  obtain ⟨rfl, rfl, hw⟩ := hv
  have hx := B.exec
  have hb := B.bytes
  have ht := B.returns
  have hl0 := B.notSynchronized
  have S : xc_Fix p m c b_ST_join 3 s "SealTrust" := ⟨hx, hb, hml, findClass_of_methodNamed B.named⟩
  have hD := hD0.self (sz := s.heap.size)
  generalize hAe : va_A [(x, .inr (3, [.ref k, .ref bu, .ref ma, .ref se, .int motionCount, .int sealedCount, .int suspended])), (k, .inr (1, [.ref sh, .ref ch, .int dealt, .long epoch, .long base, .long whole, .long signing, .long pp, .long qq, .long modulus, .long order])), (ch, .inl (G.2.2.2.1, 6, .inr (.inl checks))), (ma, .inl (G.2.2.2.2, 12, .inr (.inr (.inr (.inr mot))))), (se, .inl (G.2.2.1, 12, .inl sealed)), (mo, .inr (2, [.ref pw, .ref cg, .ref an, .int standing, .long block, .int partials, .int objections, .long signature])), (pw, .inl (G.2.2.2.1, 6, .inr (.inl powers))), (cg, .inl (G.2.2.1, 6, .inl challenges)), (an, .inl (G.2.2.2.1, 6, .inr (.inl answers)))] s.heap.size = A at hD ⊢
  have hA : ∀ q : Nat, s.heap.size ≤ q → A q := fun q h => by rw [← hAe]; exact Or.inr h
  have hS : va_S A s.heap s.heap [] := va_S.rf
  have hl := lv_entry ([.ref x, .int motion]) (n := 3) (Nat.le_of_ble_eq_true rfl)
  rw [lg_entry_eq]
  generalize (lg_sl ([.ref x, .int motion]) ++ List.replicate (3 - (lg_sl ([.ref x, .int motion])).length) Slot.unset).toArray = ls at hl ⊢
  have hl : lv_has ls 3 [(0, .ref x), (1, .int motion)] := hl
  obtain ⟨r0, hr0⟩ : ∃ r, g_ST_join motion motionCount base pp qq modulus order checks standing block partials powers challenges answers = r := ⟨_, rfl⟩
  rw [hr0]
  unfold g_ST_join at hr0
  obtain ⟨r1, hr1⟩ : ∃ r, f_ST_join motion motionCount base signing pp qq modulus order checks standing block partials powers challenges answers = r := ⟨_, rfl⟩
  rw [hr1]
  unfold f_ST_join at hr1
  obtain ⟨r2, hr2⟩ : ∃ r, f_ST_join_standing motion motionCount base signing pp qq modulus order checks standing block partials powers challenges answers = r := ⟨_, rfl⟩
  rw [hr2]
  unfold f_ST_join_standing at hr2
  obtain ⟨r3, hr3⟩ : ∃ r, f_ST_join_signature motion motionCount base signing pp qq modulus order checks standing block partials powers challenges answers = r := ⟨_, rfl⟩
  rw [hr3]
  unfold f_ST_join_signature at hr3
  obtain ⟨r4, hr4⟩ : ∃ r, f_ST_join_sealedCount motion motionCount sealedCount base pp qq modulus order checks sealed standing block partials powers challenges answers = r := ⟨_, rfl⟩
  rw [hr4]
  unfold f_ST_join_sealedCount at hr4
  obtain ⟨r5, hr5⟩ : ∃ r, f_ST_join_SE motion motionCount sealedCount base pp qq modulus order checks sealed standing block partials powers challenges answers = r := ⟨_, rfl⟩
  rw [hr5]
  unfold f_ST_join_SE at hr5
  show W p l e ({ frames := 7, cells := 8, slots := 48, locals := 118 } : Room) s m _ below meth c s.heap [] 0 0 (xc_Z below _ _ _ s 8 48) _
  refine lv_aload_n hx hb d_ST_join_0 rfl (lv_at hl 0 rfl) ?_
  refine lv_iload_n hx hb d_ST_join_1 rfl (lv_at hl 1 rfl) ?_
  refine xt_use (xg_runV (rest := []) (kw := 0) si_ST_98 hg hw S (va_recv (xg_k hg hw) hP (ci := 3) rfl (q0 := 0) rfl) (ct_ST_motionAt l hg hl9 s.heap hO x motion k bu ma se motionCount sealedCount suspended mot (hP.sub [0, 3] rfl) hC mo hM) ⟨by decide, by decide, by decide, by decide⟩ rfl hl.1 rfl (Nat.le_of_ble_eq_true rfl) d_ST_join_2) hl0 hE (by decide) (by decide) (fun E9 H9 h9 hF9 => ?_) (fun q2 => ?_)
  · rw [xt_el1 h9, h9] at hr0
    subst hr0
    exact xt_wr1 hF9
  · rw [xt_el0 q2] at hr0
    rw [xt_el0 q2] at hr1
    rw [xt_el0 q2] at hr2
    rw [xt_el0 q2] at hr3
    rw [xt_el0 q2] at hr4
    rw [xt_el0 q2] at hr5
    refine lv_astore_n hx hb d_ST_join_5 rfl hl (by decide) rfl (fun ls hl => ?_)
    have hl : lv_has ls 3 [(2, .ref mo), (0, .ref x), (1, .int motion)] := hl
    refine lv_aload_n hx hb d_ST_join_6 rfl (lv_at hl 0 rfl) ?_
    refine xt_use (xg_runS (rest := []) (kw := 0) si_ST_106 hg hw S (ct_ST_requireOpen l hg hl9 s.heap hO mo pw cg an standing block partials objections signature (hP.sub [5] rfl) ) ⟨by decide, by decide, by decide, by decide⟩ rfl hl.1 rfl (Nat.le_of_ble_eq_true rfl) d_ST_join_7) hl0 hE (by decide) (by decide) (fun E9 H9 h9 hF9 => ?_) (fun q7 => ?_)
    · rw [xt_el1 h9, h9] at hr0
      subst hr0
      exact xt_wr1 hF9
    · rw [xt_el0 q7] at hr0
      rw [xt_el0 q7] at hr1
      rw [xt_el0 q7] at hr2
      rw [xt_el0 q7] at hr3
      rw [xt_el0 q7] at hr4
      rw [xt_el0 q7] at hr5
      refine lv_aload_n hx hb d_ST_join_10 rfl (lv_at hl 1 rfl) ?_
      refine gf_ST_10 hg hw S hP 0 rfl rfl d_ST_join_11 ?_
      refine lv_aload_n hx hb d_ST_join_14 rfl (lv_at hl 0 rfl) ?_
      refine gf_ST_159 hg hw S hP 5 rfl rfl d_ST_join_15 ?_
      refine xg_read (xg_runV (rest := []) (kw := 0) si_ST_163 hg hw S (va_recv (xg_k hg hw) hP (ci := 1) rfl (q0 := 1) rfl) (ct_KE_isPrimeToModulus l hg s.heap k block sh ch dealt epoch base whole signing pp qq modulus order (hP.sub [1] rfl) ) ⟨by decide, by decide, by decide, by decide⟩ rfl hl.1 rfl (Nat.le_of_ble_eq_true rfl) d_ST_join_18) ?_
      refine lv_if_ne hx hb d_ST_join_21 (tgt := 34) (by decide) (fun h21 => ?_) (fun h21 => ?_)
      · rw [if_neg h21] at hr0
        rw [if_neg h21] at hr1
        rw [if_neg h21] at hr2
        rw [if_neg h21] at hr3
        rw [if_neg h21] at hr4
        rw [if_neg h21] at hr5
        refine lv_aload_n hx hb d_ST_join_34 rfl (lv_at hl 1 rfl) ?_
        refine lv_aload_n hx hb d_ST_join_35 rfl (lv_at hl 0 rfl) ?_
        refine xg_read (xg_runV (rest := []) (kw := 0) si_ST_155 hg hw S (va_recv (xg_k hg hw) hP (ci := 3) rfl (q0 := 0) rfl) (ct_ST_goodPartials l hg s.heap x mo k bu ma se motionCount sealedCount suspended sh ch dealt epoch base whole signing pp qq modulus order checks pw cg an standing block partials objections signature powers challenges answers (hP.sub [0, 1, 2, 5, 6, 7, 8] rfl) ) ⟨by decide, by decide, by decide, by decide⟩ rfl hl.1 rfl (Nat.le_of_ble_eq_true rfl) d_ST_join_36) ?_
        refine xg_read (xg_runS (rest := []) (kw := 0) si_ST_172 hg hw S (ct_IN_bitCount l hg s.heap (f_ST_goodPartials powers challenges answers block partials base checks pp qq modulus order) ) ⟨by decide, by decide, by decide, by decide⟩ rfl hl.1 rfl (Nat.le_of_ble_eq_true rfl) d_ST_join_39) ?_
        refine lv_iconst (v := (3 : Int32)) hx hb d_ST_join_42 (by decide) ?_
        refine lv_icmp_ge hx hb d_ST_join_43 (tgt := 56) (by decide) (fun h43 => ?_) (fun h43 => ?_)
        · rw [if_pos h43] at hr0
          rw [if_pos h43] at hr1
          rw [if_pos h43] at hr2
          rw [if_pos h43] at hr3
          rw [if_pos h43] at hr4
          rw [if_pos h43] at hr5
          refine lv_aload_n hx hb d_ST_join_56 rfl (lv_at hl 0 rfl) ?_
          refine lv_aload_n hx hb d_ST_join_57 rfl (lv_at hl 1 rfl) ?_
          refine gf_ST_10 hg hw S hP 0 rfl rfl d_ST_join_58 ?_
          refine lv_aload_n hx hb d_ST_join_61 rfl (lv_at hl 0 rfl) ?_
          refine gf_ST_159 hg hw S hP 5 rfl rfl d_ST_join_62 ?_
          refine xg_read (xg_runV (rest := [.ref mo]) (kw := 1) si_ST_180 hg hw S (va_recv (xg_k hg hw) hP (ci := 1) rfl (q0 := 1) rfl) (ct_KE_signatureOf l hg s.heap k block sh ch dealt epoch base whole signing pp qq modulus order (hP.sub [1] rfl) ) ⟨by decide, by decide, by decide, by decide⟩ rfl hl.1 rfl (Nat.le_of_ble_eq_true rfl) d_ST_join_65) ?_
          refine xw_use (wc := [(mo, .inr (2, [.ref pw, .ref cg, .ref an, .int standing, .long block, .int partials, .int objections, .long signature]))]) (wr := [(x, .inr (3, [.ref k, .ref bu, .ref ma, .ref se, .int motionCount, .int sealedCount, .int suspended])), (k, .inr (1, [.ref sh, .ref ch, .int dealt, .long epoch, .long base, .long whole, .long signing, .long pp, .long qq, .long modulus, .long order])), (ch, .inl (G.2.2.2.1, 6, .inr (.inl checks))), (ma, .inl (G.2.2.2.2, 12, .inr (.inr (.inr (.inr mot))))), (se, .inl (G.2.2.1, 12, .inl sealed)), (pw, .inl (G.2.2.2.1, 6, .inr (.inl powers))), (cg, .inl (G.2.2.1, 6, .inl challenges)), (an, .inl (G.2.2.2.1, 6, .inr (.inl answers)))]) (xg_runV (rest := []) (kw := 0) si_ST_184 hg hw S (va_recv (xg_k hg hw) hP (ci := 2) rfl (q0 := 5) rfl) (ct_MO_seal l hg s.heap mo (f_KE_signatureOf block signing modulus) pw cg an standing block partials objections signature (hP.sub [5] rfl) ((hD.sub [5] (by decide) rfl).weaken (fun _ _ _ _ => trivial)) ) ⟨by decide, by decide, by decide, by decide⟩ rfl hl.1 rfl (Nat.le_of_ble_eq_true rfl) d_ST_join_68) hP hD hS hA [5] [0, 1, 2, 3, 4, 6, 7, 8] rfl rfl (by decide) (by decide) (fun H1 L1 hP hD hS => ?_)
          have hP : va_P G.2.1 cl_all [(x, .inr (3, [.ref k, .ref bu, .ref ma, .ref se, .int motionCount, .int sealedCount, .int suspended])), (k, .inr (1, [.ref sh, .ref ch, .int dealt, .long epoch, .long base, .long whole, .long signing, .long pp, .long qq, .long modulus, .long order])), (ch, .inl (G.2.2.2.1, 6, .inr (.inl checks))), (ma, .inl (G.2.2.2.2, 12, .inr (.inr (.inr (.inr mot))))), (se, .inl (G.2.2.1, 12, .inl sealed)), (pw, .inl (G.2.2.2.1, 6, .inr (.inl powers))), (cg, .inl (G.2.2.1, 6, .inl challenges)), (an, .inl (G.2.2.2.1, 6, .inr (.inl answers))), (mo, .inr (2, [.ref pw, .ref cg, .ref an, .int (f_MO_seal_standing (f_KE_signatureOf block signing modulus)), .long block, .int partials, .int objections, .long (f_MO_seal_signature (f_KE_signatureOf block signing modulus))]))] H1 := hP
          have hD : va_D A [(x, .inr (3, [.ref k, .ref bu, .ref ma, .ref se, .int motionCount, .int sealedCount, .int suspended])), (k, .inr (1, [.ref sh, .ref ch, .int dealt, .long epoch, .long base, .long whole, .long signing, .long pp, .long qq, .long modulus, .long order])), (ch, .inl (G.2.2.2.1, 6, .inr (.inl checks))), (ma, .inl (G.2.2.2.2, 12, .inr (.inr (.inr (.inr mot))))), (se, .inl (G.2.2.1, 12, .inl sealed)), (pw, .inl (G.2.2.2.1, 6, .inr (.inl powers))), (cg, .inl (G.2.2.1, 6, .inl challenges)), (an, .inl (G.2.2.2.1, 6, .inr (.inl answers))), (mo, .inr (2, [.ref pw, .ref cg, .ref an, .int (f_MO_seal_standing (f_KE_signatureOf block signing modulus)), .long block, .int partials, .int objections, .long (f_MO_seal_signature (f_KE_signatureOf block signing modulus))]))] := hD
          refine lv_aload_n hx hb d_ST_join_71 rfl (lv_at hl 1 rfl) ?_
          refine lv_iload_n hx hb d_ST_join_72 rfl (lv_at hl 2 rfl) ?_
          refine xw_use (wc := [(x, .inr (3, [.ref k, .ref bu, .ref ma, .ref se, .int motionCount, .int sealedCount, .int suspended])), (se, .inl (G.2.2.1, 12, .inl sealed))]) (wr := [(k, .inr (1, [.ref sh, .ref ch, .int dealt, .long epoch, .long base, .long whole, .long signing, .long pp, .long qq, .long modulus, .long order])), (ch, .inl (G.2.2.2.1, 6, .inr (.inl checks))), (ma, .inl (G.2.2.2.2, 12, .inr (.inr (.inr (.inr mot))))), (pw, .inl (G.2.2.2.1, 6, .inr (.inl powers))), (cg, .inl (G.2.2.1, 6, .inl challenges)), (an, .inl (G.2.2.2.1, 6, .inr (.inl answers))), (mo, .inr (2, [.ref pw, .ref cg, .ref an, .int (f_MO_seal_standing (f_KE_signatureOf block signing modulus)), .long block, .int partials, .int objections, .long (f_MO_seal_signature (f_KE_signatureOf block signing modulus))]))]) (xg_runV (rest := []) (kw := 0) si_ST_187 hg hw S (va_recv (xg_k hg hw) hP (ci := 3) rfl (q0 := 0) rfl) (ct_ST_enter l hg H1 x motion k bu ma se motionCount sealedCount suspended sealed (hP.sub [0, 4] rfl) ((hD.sub [0, 4] (by decide) rfl).weaken (fun _ _ _ _ => trivial)) hC0) ⟨by decide, by decide, by decide, by decide⟩ rfl hl.1 rfl (Nat.le_of_ble_eq_true rfl) d_ST_join_73) hP hD hS hA [0, 4] [1, 2, 3, 5, 6, 7, 8] rfl rfl (by decide) (by decide) (fun H2 L2 hP hD hS => ?_)
          have hP : va_P G.2.1 cl_all [(k, .inr (1, [.ref sh, .ref ch, .int dealt, .long epoch, .long base, .long whole, .long signing, .long pp, .long qq, .long modulus, .long order])), (ch, .inl (G.2.2.2.1, 6, .inr (.inl checks))), (ma, .inl (G.2.2.2.2, 12, .inr (.inr (.inr (.inr mot))))), (pw, .inl (G.2.2.2.1, 6, .inr (.inl powers))), (cg, .inl (G.2.2.1, 6, .inl challenges)), (an, .inl (G.2.2.2.1, 6, .inr (.inl answers))), (mo, .inr (2, [.ref pw, .ref cg, .ref an, .int (f_MO_seal_standing (f_KE_signatureOf block signing modulus)), .long block, .int partials, .int objections, .long (f_MO_seal_signature (f_KE_signatureOf block signing modulus))])), (x, .inr (3, [.ref k, .ref bu, .ref ma, .ref se, .int motionCount, .int (f_ST_enter_sealedCount motion sealedCount sealed), .int suspended])), (se, .inl (G.2.2.1, 12, .inl (f_ST_enter_SE motion sealedCount sealed)))] H2 := hP
          have hD : va_D A [(k, .inr (1, [.ref sh, .ref ch, .int dealt, .long epoch, .long base, .long whole, .long signing, .long pp, .long qq, .long modulus, .long order])), (ch, .inl (G.2.2.2.1, 6, .inr (.inl checks))), (ma, .inl (G.2.2.2.2, 12, .inr (.inr (.inr (.inr mot))))), (pw, .inl (G.2.2.2.1, 6, .inr (.inl powers))), (cg, .inl (G.2.2.1, 6, .inl challenges)), (an, .inl (G.2.2.2.1, 6, .inr (.inl answers))), (mo, .inr (2, [.ref pw, .ref cg, .ref an, .int (f_MO_seal_standing (f_KE_signatureOf block signing modulus)), .long block, .int partials, .int objections, .long (f_MO_seal_signature (f_KE_signatureOf block signing modulus))])), (x, .inr (3, [.ref k, .ref bu, .ref ma, .ref se, .int motionCount, .int (f_ST_enter_sealedCount motion sealedCount sealed), .int suspended])), (se, .inl (G.2.2.1, 12, .inl (f_ST_enter_SE motion sealedCount sealed)))] := hD
          refine lv_aload_n hx hb d_ST_join_76 rfl (lv_at hl 0 rfl) ?_
          refine gf_ST_190 hg hw S hP 6 rfl rfl d_ST_join_77 ?_
          subst hr0
          subst hr1
          subst hr2
          subst hr3
          subst hr4
          subst hr5
          have hP := hP.sub (ws' := [(x, .inr (3, [.ref k, .ref bu, .ref ma, .ref se, .int motionCount, .int (f_ST_enter_sealedCount motion sealedCount sealed), .int suspended])), (k, .inr (1, [.ref sh, .ref ch, .int dealt, .long epoch, .long base, .long whole, .long signing, .long pp, .long qq, .long modulus, .long order])), (ch, .inl (G.2.2.2.1, 6, .inr (.inl checks))), (ma, .inl (G.2.2.2.2, 12, .inr (.inr (.inr (.inr mot))))), (se, .inl (G.2.2.1, 12, .inl (f_ST_enter_SE motion sealedCount sealed))), (mo, .inr (2, [.ref pw, .ref cg, .ref an, .int (f_MO_seal_standing (f_KE_signatureOf block signing modulus)), .long block, .int partials, .int objections, .long (f_MO_seal_signature (f_KE_signatureOf block signing modulus))])), (pw, .inl (G.2.2.2.1, 6, .inr (.inl powers))), (cg, .inl (G.2.2.1, 6, .inl challenges)), (an, .inl (G.2.2.2.1, 6, .inr (.inl answers)))]) [7, 0, 1, 2, 8, 6, 3, 4, 5] rfl
          have hD := hD.sub (ws' := [(x, .inr (3, [.ref k, .ref bu, .ref ma, .ref se, .int motionCount, .int (f_ST_enter_sealedCount motion sealedCount sealed), .int suspended])), (k, .inr (1, [.ref sh, .ref ch, .int dealt, .long epoch, .long base, .long whole, .long signing, .long pp, .long qq, .long modulus, .long order])), (ch, .inl (G.2.2.2.1, 6, .inr (.inl checks))), (ma, .inl (G.2.2.2.2, 12, .inr (.inr (.inr (.inr mot))))), (se, .inl (G.2.2.1, 12, .inl (f_ST_enter_SE motion sealedCount sealed))), (mo, .inr (2, [.ref pw, .ref cg, .ref an, .int (f_MO_seal_standing (f_KE_signatureOf block signing modulus)), .long block, .int partials, .int objections, .long (f_MO_seal_signature (f_KE_signatureOf block signing modulus))])), (pw, .inl (G.2.2.2.1, 6, .inr (.inl powers))), (cg, .inl (G.2.2.1, 6, .inl challenges)), (an, .inl (G.2.2.2.1, 6, .inr (.inl answers)))]) [7, 0, 1, 2, 8, 6, 3, 4, 5] (by decide) rfl
          refine W.widen (k := 8) (n := 48) (Nat.le_of_ble_eq_true rfl) (Nat.le_of_ble_eq_true rfl) ?_
          exact xc_lret hx hb ht hl0 (xw_F hS) hS.2.2 (xt_wr0 hP hD) d_ST_join_80
        · rw [if_neg h43] at hr0
          rw [if_neg h43] at hr1
          rw [if_neg h43] at hr2
          rw [if_neg h43] at hr3
          rw [if_neg h43] at hr4
          rw [if_neg h43] at hr5
          subst hr0
          exact th_2 hg hw hO S hl9 hl0 hE sw_178 hl.1 d_ST_join_46 d_ST_join_49 d_ST_join_50 d_ST_join_52 d_ST_join_55 ⟨by decide, by decide, by decide, by decide⟩ ⟨by decide, by decide⟩ (fun _ h => xt_wr1 h)
      · rw [if_pos h21] at hr0
        rw [if_pos h21] at hr1
        rw [if_pos h21] at hr2
        rw [if_pos h21] at hr3
        rw [if_pos h21] at hr4
        rw [if_pos h21] at hr5
        subst hr0
        exact th_3 hg hw hO S hl9 hl0 hE sw_169 hl.1 d_ST_join_24 d_ST_join_27 d_ST_join_28 d_ST_join_30 d_ST_join_33 ⟨by decide, by decide, by decide, by decide⟩ ⟨by decide, by decide⟩ (fun _ h => xt_wr1 h)
def g_ST_verify (dealt : Int32) (size : Int32) : Option String := xt_el (g_ST_requireDocument dealt size) (g_ST_requireDocument dealt size) none
def f_ST_verify (sig_ : Int64) (dealt : Int32) (modulus : Int64) (size : Int32) (bytes : Nat → Int32) : Int32 := xt_el (g_ST_requireDocument dealt size) 0 (f_KE_isSignature sig_ (f_KE_blockOf modulus bytes size) modulus)
set_option maxHeartbeats 4000000 in
set_option maxRecDepth 100000 in
theorem ct_ST_verify (l : Launch) {G : xg_G} (hg : xg_F G) (hl9 : l.stackTraces = false) (H : Heap) (hO : xg_O G H) (x : Nat) (sig_ : Int64) (k : Nat) (bu : Nat) (ma : Nat) (se : Nat) (motionCount : Int32) (sealedCount : Int32) (suspended : Int32) (sh : Nat) (ch : Nat) (dealt : Int32) (epoch : Int64) (base : Int64) (whole : Int64) (signing : Int64) (pp : Int64) (qq : Int64) (modulus : Int64) (order : Int64) (bys : Nat) (size : Int32) (bytes : Nat → Int32) (hP : va_P G.2.1 cl_all [(x, .inr (3, [.ref k, .ref bu, .ref ma, .ref se, .int motionCount, .int sealedCount, .int suspended])), (k, .inr (1, [.ref sh, .ref ch, .int dealt, .long epoch, .long base, .long whole, .long signing, .long pp, .long qq, .long modulus, .long order])), (bu, .inr (0, [.ref bys, .int size])), (bys, .inl (G.2.2.1, 24, .inl bytes))] H) (hZ : size.toInt ≤ 24) : xc_Met l y_ST_verify (.code y_ST_verify b_ST_verify 3 (some .boolean)) ({ frames := 8, cells := 8, slots := 48, locals := 106 } : Room) (xg_Pc G [.ref x, .long sig_] H) (xt_ro (g_ST_verify dealt size) (some (.int (f_ST_verify sig_ dealt modulus size bytes))) H) (fun _ => False) := by
  refine xc_ofW (by decide) ?_
  intro p e s m args below meth c s₁ B hml hE hv
  obtain ⟨rfl, rfl, hw⟩ := hv
  have hx := B.exec
  have hb := B.bytes
  have ht := B.returns
  have hl0 := B.notSynchronized
  have S : xc_Fix p m c b_ST_verify 3 s "SealTrust" := ⟨hx, hb, hml, findClass_of_methodNamed B.named⟩
  have hl := lv_entry ([.ref x, .long sig_]) (n := 3) (Nat.le_of_ble_eq_true rfl)
  rw [lg_entry_eq]
  generalize (lg_sl ([.ref x, .long sig_]) ++ List.replicate (3 - (lg_sl ([.ref x, .long sig_])).length) Slot.unset).toArray = ls at hl ⊢
  have hl : lv_has ls 3 [(0, .ref x), (1, .long sig_)] := hl
  obtain ⟨r0, hr0⟩ : ∃ r, g_ST_verify dealt size = r := ⟨_, rfl⟩
  rw [hr0]
  unfold g_ST_verify at hr0
  obtain ⟨r1, hr1⟩ : ∃ r, f_ST_verify sig_ dealt modulus size bytes = r := ⟨_, rfl⟩
  rw [hr1]
  unfold f_ST_verify at hr1
  show W p l e ({ frames := 8, cells := 8, slots := 48, locals := 106 } : Room) s m _ below meth c s.heap [] 0 0 (xc_Z below _ _ _ s 8 48) _
  refine lv_aload_n hx hb d_ST_verify_0 rfl (lv_at hl 0 rfl) ?_
  refine xt_use (xg_runV (rest := []) (kw := 0) si_ST_80 hg hw S (va_recv (xg_k hg hw) hP (ci := 3) rfl (q0 := 0) rfl) (ct_ST_requireDocument l hg hl9 s.heap hO x k bu ma se motionCount sealedCount suspended sh ch dealt epoch base whole signing pp qq modulus order bys size (hP.sub [0, 1, 2] rfl) ) ⟨by decide, by decide, by decide, by decide⟩ rfl hl.1 rfl (Nat.le_of_ble_eq_true rfl) d_ST_verify_1) hl0 hE (by decide) (by decide) (fun E9 H9 h9 hF9 => ?_) (fun q1 => ?_)
  · rw [xt_el1 h9, h9] at hr0
    subst hr0
    exact xt_ro1 hF9
  · rw [xt_el0 q1] at hr0
    rw [xt_el0 q1] at hr1
    refine lv_aload_n hx hb d_ST_verify_4 rfl (lv_at hl 0 rfl) ?_
    refine gf_ST_10 hg hw S hP 0 rfl rfl d_ST_verify_5 ?_
    refine lv_lload_n hx hb d_ST_verify_8 rfl (lv_at hl 1 rfl) ?_
    refine lv_aload_n hx hb d_ST_verify_9 rfl (lv_at hl 0 rfl) ?_
    refine gf_ST_10 hg hw S hP 0 rfl rfl d_ST_verify_10 ?_
    refine lv_aload_n hx hb d_ST_verify_13 rfl (lv_at hl 0 rfl) ?_
    refine gf_ST_19 hg hw S hP 0 rfl rfl d_ST_verify_14 ?_
    refine xg_read (xg_runV (rest := [.long sig_, .ref k]) (kw := 3) si_ST_88 hg hw S (va_recv (xg_k hg hw) hP (ci := 1) rfl (q0 := 1) rfl) (ct_KE_blockOf l hg s.heap k bu sh ch dealt epoch base whole signing pp qq modulus order bys size bytes (hP.sub [1, 2, 3] rfl) hZ) ⟨by decide, by decide, by decide, by decide⟩ rfl hl.1 rfl (Nat.le_of_ble_eq_true rfl) d_ST_verify_17) ?_
    refine xg_read (xg_runV (rest := []) (kw := 0) si_ST_193 hg hw S (va_recv (xg_k hg hw) hP (ci := 1) rfl (q0 := 1) rfl) (ct_KE_isSignature l hg s.heap k sig_ (f_KE_blockOf modulus bytes size) sh ch dealt epoch base whole signing pp qq modulus order (hP.sub [1] rfl) ) ⟨by decide, by decide, by decide, by decide⟩ rfl hl.1 rfl (Nat.le_of_ble_eq_true rfl) d_ST_verify_20) ?_
    subst hr0
    subst hr1
    refine W.widen (k := 8) (n := 48) (Nat.le_of_ble_eq_true rfl) (Nat.le_of_ble_eq_true rfl) ?_
    exact xc_zret hx hb ht (xg_nb (nb_KE_isSignature ..)) hl0 xc_F.rf (fun _ h => nomatch h) xt_ro0 d_ST_verify_23
def g_ST_suspend (trustee : Int32) (on_ : Int32) (suspended : Int32) (dealt : Int32) : Option String := xt_el (g_ST_requireTrustee trustee) (g_ST_requireTrustee trustee) (xt_el (g_ST_requireKey dealt) (g_ST_requireKey dealt) (if (f_ST_isIn suspended trustee) = on_ then none else none))
def f_ST_suspend (trustee : Int32) (on_ : Int32) (suspended : Int32) (dealt : Int32) : Int32 := xt_el (g_ST_requireTrustee trustee) 0 (xt_el (g_ST_requireKey dealt) 0 (if (f_ST_isIn suspended trustee) = on_ then (0 : Int32) else (1 : Int32)))
def f_ST_suspend_suspended (trustee : Int32) (on_ : Int32) (suspended : Int32) (dealt : Int32) : Int32 := xt_el (g_ST_requireTrustee trustee) 0 (xt_el (g_ST_requireKey dealt) 0 (if (f_ST_isIn suspended trustee) = on_ then suspended else (suspended ^^^ ((1 : Int32) <<< (trustee &&& 31)))))
set_option maxHeartbeats 4000000 in
set_option maxRecDepth 100000 in
theorem ct_ST_suspend (l : Launch) {G : xg_G} (hg : xg_F G) (hl9 : l.stackTraces = false) (H : Heap) (hO : xg_O G H) (x : Nat) (trustee : Int32) (on_ : Int32) (k : Nat) (bu : Nat) (ma : Nat) (se : Nat) (motionCount : Int32) (sealedCount : Int32) (suspended : Int32) (sh : Nat) (ch : Nat) (dealt : Int32) (epoch : Int64) (base : Int64) (whole : Int64) (signing : Int64) (pp : Int64) (qq : Int64) (modulus : Int64) (order : Int64) (hP : va_P G.2.1 cl_all [(x, .inr (3, [.ref k, .ref bu, .ref ma, .ref se, .int motionCount, .int sealedCount, .int suspended])), (k, .inr (1, [.ref sh, .ref ch, .int dealt, .long epoch, .long base, .long whole, .long signing, .long pp, .long qq, .long modulus, .long order]))] H) (hD0 : va_D (fun _ => True) [(x, .inr (3, [.ref k, .ref bu, .ref ma, .ref se, .int motionCount, .int sealedCount, .int suspended])), (k, .inr (1, [.ref sh, .ref ch, .int dealt, .long epoch, .long base, .long whole, .long signing, .long pp, .long qq, .long modulus, .long order]))])  : xc_Met l y_ST_suspend (.code y_ST_suspend b_ST_suspend 3 (some .boolean)) ({ frames := 7, cells := 8, slots := 48, locals := 94 } : Room) (xg_Pc G [.ref x, .int trustee, .int on_] H) (xt_wr G (va_A [(x, .inr (3, [.ref k, .ref bu, .ref ma, .ref se, .int motionCount, .int sealedCount, .int suspended])), (k, .inr (1, [.ref sh, .ref ch, .int dealt, .long epoch, .long base, .long whole, .long signing, .long pp, .long qq, .long modulus, .long order]))] H.size) (g_ST_suspend trustee on_ suspended dealt) (some (.int (f_ST_suspend trustee on_ suspended dealt))) [(x, .inr (3, [.ref k, .ref bu, .ref ma, .ref se, .int motionCount, .int sealedCount, .int (f_ST_suspend_suspended trustee on_ suspended dealt)])), (k, .inr (1, [.ref sh, .ref ch, .int dealt, .long epoch, .long base, .long whole, .long signing, .long pp, .long qq, .long modulus, .long order]))] H) (va_A [(x, .inr (3, [.ref k, .ref bu, .ref ma, .ref se, .int motionCount, .int sealedCount, .int suspended])), (k, .inr (1, [.ref sh, .ref ch, .int dealt, .long epoch, .long base, .long whole, .long signing, .long pp, .long qq, .long modulus, .long order]))] H.size) := by
  refine xc_ofW (by decide) ?_
  intro p e s m args below meth c s₁ B hml hE hv
  obtain ⟨rfl, rfl, hw⟩ := hv
  have hx := B.exec
  have hb := B.bytes
  have ht := B.returns
  have hl0 := B.notSynchronized
  have S : xc_Fix p m c b_ST_suspend 3 s "SealTrust" := ⟨hx, hb, hml, findClass_of_methodNamed B.named⟩
  have hD := hD0.self (sz := s.heap.size)
  generalize hAe : va_A [(x, .inr (3, [.ref k, .ref bu, .ref ma, .ref se, .int motionCount, .int sealedCount, .int suspended])), (k, .inr (1, [.ref sh, .ref ch, .int dealt, .long epoch, .long base, .long whole, .long signing, .long pp, .long qq, .long modulus, .long order]))] s.heap.size = A at hD ⊢
  have hA : ∀ q : Nat, s.heap.size ≤ q → A q := fun q h => by rw [← hAe]; exact Or.inr h
  have hS : va_S A s.heap s.heap [] := va_S.rf
  have hl := lv_entry ([.ref x, .int trustee, .int on_]) (n := 3) (Nat.le_of_ble_eq_true rfl)
  rw [lg_entry_eq]
  generalize (lg_sl ([.ref x, .int trustee, .int on_]) ++ List.replicate (3 - (lg_sl ([.ref x, .int trustee, .int on_])).length) Slot.unset).toArray = ls at hl ⊢
  have hl : lv_has ls 3 [(0, .ref x), (1, .int trustee), (2, .int on_)] := hl
  obtain ⟨r0, hr0⟩ : ∃ r, g_ST_suspend trustee on_ suspended dealt = r := ⟨_, rfl⟩
  rw [hr0]
  unfold g_ST_suspend at hr0
  obtain ⟨r1, hr1⟩ : ∃ r, f_ST_suspend trustee on_ suspended dealt = r := ⟨_, rfl⟩
  rw [hr1]
  unfold f_ST_suspend at hr1
  obtain ⟨r2, hr2⟩ : ∃ r, f_ST_suspend_suspended trustee on_ suspended dealt = r := ⟨_, rfl⟩
  rw [hr2]
  unfold f_ST_suspend_suspended at hr2
  show W p l e ({ frames := 7, cells := 8, slots := 48, locals := 94 } : Room) s m _ below meth c s.heap [] 0 0 (xc_Z below _ _ _ s 8 48) _
  refine lv_iload_n hx hb d_ST_suspend_0 rfl (lv_at hl 1 rfl) ?_
  refine xt_use (xg_runS (rest := []) (kw := 0) si_ST_102 hg hw S (ct_ST_requireTrustee l hg hl9 s.heap hO trustee  ) ⟨by decide, by decide, by decide, by decide⟩ rfl hl.1 rfl (Nat.le_of_ble_eq_true rfl) d_ST_suspend_1) hl0 hE (by decide) (by decide) (fun E9 H9 h9 hF9 => ?_) (fun q1 => ?_)
  · rw [xt_el1 h9, h9] at hr0
    subst hr0
    exact xt_wr1 hF9
  · rw [xt_el0 q1] at hr0
    rw [xt_el0 q1] at hr1
    rw [xt_el0 q1] at hr2
    refine lv_aload_n hx hb d_ST_suspend_4 rfl (lv_at hl 0 rfl) ?_
    refine xt_use (xg_runV (rest := []) (kw := 0) si_ST_197 hg hw S (va_recv (xg_k hg hw) hP (ci := 3) rfl (q0 := 0) rfl) (ct_ST_requireKey l hg hl9 s.heap hO x k bu ma se motionCount sealedCount suspended sh ch dealt epoch base whole signing pp qq modulus order (hP.sub [0, 1] rfl) ) ⟨by decide, by decide, by decide, by decide⟩ rfl hl.1 rfl (Nat.le_of_ble_eq_true rfl) d_ST_suspend_5) hl0 hE (by decide) (by decide) (fun E9 H9 h9 hF9 => ?_) (fun q5 => ?_)
    · rw [xt_el1 h9, h9] at hr0
      subst hr0
      exact xt_wr1 hF9
    · rw [xt_el0 q5] at hr0
      rw [xt_el0 q5] at hr1
      rw [xt_el0 q5] at hr2
      refine lv_aload_n hx hb d_ST_suspend_8 rfl (lv_at hl 0 rfl) ?_
      refine gf_ST_64 hg hw S hP 0 rfl rfl d_ST_suspend_9 ?_
      refine lv_iload_n hx hb d_ST_suspend_12 rfl (lv_at hl 1 rfl) ?_
      refine xg_read (xg_runS (rest := []) (kw := 0) si_ST_114 hg hw S (ct_ST_isIn l hg s.heap suspended trustee ) ⟨by decide, by decide, by decide, by decide⟩ rfl hl.1 rfl (Nat.le_of_ble_eq_true rfl) d_ST_suspend_13) ?_
      refine lv_iload_n hx hb d_ST_suspend_16 rfl (lv_at hl 2 rfl) ?_
      refine lv_icmp_ne hx hb d_ST_suspend_17 (tgt := 22) (by decide) (fun h17 => ?_) (fun h17 => ?_)
      · rw [if_neg h17] at hr0
        rw [if_neg h17] at hr1
        rw [if_neg h17] at hr2
        refine lv_aload_n hx hb d_ST_suspend_22 rfl (lv_at hl 0 rfl) ?_
        refine lv_dup hx hb d_ST_suspend_23 rfl ?_
        refine gf_ST_64 hg hw S hP 0 rfl rfl d_ST_suspend_24 ?_
        refine lv_iconst (v := (1 : Int32)) hx hb d_ST_suspend_27 (by decide) ?_
        refine lv_iload_n hx hb d_ST_suspend_28 rfl (lv_at hl 1 rfl) ?_
        refine lv_ishl hx hb d_ST_suspend_29 ?_
        refine lv_ixor hx hb d_ST_suspend_30 ?_
        refine pf_ST_64 hg hw S hP hD hS 0 rfl rfl rfl (Nat.le_of_ble_eq_true rfl) d_ST_suspend_31 (fun H1 L1 hP hD hS => ?_)
        have hP : va_P G.2.1 cl_all [(x, .inr (3, [.ref k, .ref bu, .ref ma, .ref se, .int motionCount, .int sealedCount, .int (suspended ^^^ ((1 : Int32) <<< (trustee &&& 31)))])), (k, .inr (1, [.ref sh, .ref ch, .int dealt, .long epoch, .long base, .long whole, .long signing, .long pp, .long qq, .long modulus, .long order]))] H1 := hP
        have hD : va_D A [(x, .inr (3, [.ref k, .ref bu, .ref ma, .ref se, .int motionCount, .int sealedCount, .int (suspended ^^^ ((1 : Int32) <<< (trustee &&& 31)))])), (k, .inr (1, [.ref sh, .ref ch, .int dealt, .long epoch, .long base, .long whole, .long signing, .long pp, .long qq, .long modulus, .long order]))] := hD
        refine lv_iconst (v := (1 : Int32)) hx hb d_ST_suspend_34 (by decide) ?_
        subst hr0
        subst hr1
        subst hr2
        refine W.widen (k := 8) (n := 48) (Nat.le_of_ble_eq_true rfl) (Nat.le_of_ble_eq_true rfl) ?_
        exact xc_zret hx hb ht rfl hl0 (xw_F hS) hS.2.2 (xt_wr0 hP hD) d_ST_suspend_35
      · rw [if_pos h17] at hr0
        rw [if_pos h17] at hr1
        rw [if_pos h17] at hr2
        refine lv_iconst (v := (0 : Int32)) hx hb d_ST_suspend_20 (by decide) ?_
        subst hr0
        subst hr1
        subst hr2
        refine W.widen (k := 8) (n := 48) (Nat.le_of_ble_eq_true rfl) (Nat.le_of_ble_eq_true rfl) ?_
        exact xc_zret hx hb ht rfl hl0 (xw_F hS) hS.2.2 (xt_wr0 hP hD) d_ST_suspend_21
def g_ST_parts (mask : Int32) (dealt : Int32) : Option String := if mask < 0 then (some xt_IA) else (if (64 : Int32) ≤ mask then (some xt_IA) else (if (f_IN_bitCount mask) = (3 : Int32) then (xt_el (g_ST_requireKey dealt) (g_ST_requireKey dealt) none) else (some xt_IA)))
def f_ST_parts (mask : Int32) (dealt : Int32) (whole : Int64) (order : Int64) (shares : Nat → Int64) : Int32 := if mask < 0 then 0 else (if (64 : Int32) ≤ mask then 0 else (if (f_IN_bitCount mask) = (3 : Int32) then (xt_el (g_ST_requireKey dealt) 0 (f_KE_isWholeBy mask shares whole order)) else 0))
set_option maxHeartbeats 4000000 in
set_option maxRecDepth 100000 in
theorem ct_ST_parts (l : Launch) {G : xg_G} (hg : xg_F G) (hl9 : l.stackTraces = false) (H : Heap) (hO : xg_O G H) (x : Nat) (mask : Int32) (k : Nat) (bu : Nat) (ma : Nat) (se : Nat) (motionCount : Int32) (sealedCount : Int32) (suspended : Int32) (sh : Nat) (ch : Nat) (dealt : Int32) (epoch : Int64) (base : Int64) (whole : Int64) (signing : Int64) (pp : Int64) (qq : Int64) (modulus : Int64) (order : Int64) (shares : Nat → Int64) (hP : va_P G.2.1 cl_all [(x, .inr (3, [.ref k, .ref bu, .ref ma, .ref se, .int motionCount, .int sealedCount, .int suspended])), (k, .inr (1, [.ref sh, .ref ch, .int dealt, .long epoch, .long base, .long whole, .long signing, .long pp, .long qq, .long modulus, .long order])), (sh, .inl (G.2.2.2.1, 6, .inr (.inl shares)))] H)  : xc_Met l y_ST_parts (.code y_ST_parts b_ST_parts 2 (some .boolean)) ({ frames := 7, cells := 8, slots := 48, locals := 94 } : Room) (xg_Pc G [.ref x, .int mask] H) (xt_ro (g_ST_parts mask dealt) (some (.int (f_ST_parts mask dealt whole order shares))) H) (fun _ => False) := by
  refine xc_ofW (by decide) ?_
  intro p e s m args below meth c s₁ B hml hE hv
  obtain ⟨rfl, rfl, hw⟩ := hv
  have hx := B.exec
  have hb := B.bytes
  have ht := B.returns
  have hl0 := B.notSynchronized
  have S : xc_Fix p m c b_ST_parts 2 s "SealTrust" := ⟨hx, hb, hml, findClass_of_methodNamed B.named⟩
  have hl := lv_entry ([.ref x, .int mask]) (n := 2) (Nat.le_of_ble_eq_true rfl)
  rw [lg_entry_eq]
  generalize (lg_sl ([.ref x, .int mask]) ++ List.replicate (2 - (lg_sl ([.ref x, .int mask])).length) Slot.unset).toArray = ls at hl ⊢
  have hl : lv_has ls 2 [(0, .ref x), (1, .int mask)] := hl
  obtain ⟨r0, hr0⟩ : ∃ r, g_ST_parts mask dealt = r := ⟨_, rfl⟩
  rw [hr0]
  unfold g_ST_parts at hr0
  obtain ⟨r1, hr1⟩ : ∃ r, f_ST_parts mask dealt whole order shares = r := ⟨_, rfl⟩
  rw [hr1]
  unfold f_ST_parts at hr1
  show W p l e ({ frames := 7, cells := 8, slots := 48, locals := 94 } : Room) s m _ below meth c s.heap [] 0 0 (xc_Z below _ _ _ s 8 48) _
  refine lv_iload_n hx hb d_ST_parts_0 rfl (lv_at hl 1 rfl) ?_
  refine lv_if_lt hx hb d_ST_parts_1 (tgt := 18) (by decide) (fun h1 => ?_) (fun h1 => ?_)
  · rw [if_pos h1] at hr0
    rw [if_pos h1] at hr1
    subst hr0
    exact th_1 hg hw hO S hl9 hl0 hE sw_206 hl.1 d_ST_parts_18 d_ST_parts_21 d_ST_parts_22 d_ST_parts_24 d_ST_parts_27 ⟨by decide, by decide, by decide, by decide⟩ ⟨by decide, by decide⟩ (fun _ h => xt_ro1 h)
  · rw [if_neg h1] at hr0
    rw [if_neg h1] at hr1
    refine lv_iload_n hx hb d_ST_parts_4 rfl (lv_at hl 1 rfl) ?_
    refine lv_bipush (v := (64 : Int32)) hx hb d_ST_parts_5 (by decide) ?_
    refine lv_icmp_ge hx hb d_ST_parts_7 (tgt := 18) (by decide) (fun h7 => ?_) (fun h7 => ?_)
    · rw [if_pos h7] at hr0
      rw [if_pos h7] at hr1
      subst hr0
      exact th_1 hg hw hO S hl9 hl0 hE sw_206 hl.1 d_ST_parts_18 d_ST_parts_21 d_ST_parts_22 d_ST_parts_24 d_ST_parts_27 ⟨by decide, by decide, by decide, by decide⟩ ⟨by decide, by decide⟩ (fun _ h => xt_ro1 h)
    · rw [if_neg h7] at hr0
      rw [if_neg h7] at hr1
      refine lv_iload_n hx hb d_ST_parts_10 rfl (lv_at hl 1 rfl) ?_
      refine xg_read (xg_runS (rest := []) (kw := 0) si_ST_172 hg hw S (ct_IN_bitCount l hg s.heap mask ) ⟨by decide, by decide, by decide, by decide⟩ rfl hl.1 rfl (Nat.le_of_ble_eq_true rfl) d_ST_parts_11) ?_
      refine lv_iconst (v := (3 : Int32)) hx hb d_ST_parts_14 (by decide) ?_
      refine lv_icmp_eq hx hb d_ST_parts_15 (tgt := 28) (by decide) (fun h15 => ?_) (fun h15 => ?_)
      · rw [if_pos h15] at hr0
        rw [if_pos h15] at hr1
        refine lv_aload_n hx hb d_ST_parts_28 rfl (lv_at hl 0 rfl) ?_
        refine xt_use (xg_runV (rest := []) (kw := 0) si_ST_197 hg hw S (va_recv (xg_k hg hw) hP (ci := 3) rfl (q0 := 0) rfl) (ct_ST_requireKey l hg hl9 s.heap hO x k bu ma se motionCount sealedCount suspended sh ch dealt epoch base whole signing pp qq modulus order (hP.sub [0, 1] rfl) ) ⟨by decide, by decide, by decide, by decide⟩ rfl hl.1 rfl (Nat.le_of_ble_eq_true rfl) d_ST_parts_29) hl0 hE (by decide) (by decide) (fun E9 H9 h9 hF9 => ?_) (fun q29 => ?_)
        · rw [xt_el1 h9, h9] at hr0
          subst hr0
          exact xt_ro1 hF9
        · rw [xt_el0 q29] at hr0
          rw [xt_el0 q29] at hr1
          refine lv_aload_n hx hb d_ST_parts_32 rfl (lv_at hl 0 rfl) ?_
          refine gf_ST_10 hg hw S hP 0 rfl rfl d_ST_parts_33 ?_
          refine lv_iload_n hx hb d_ST_parts_36 rfl (lv_at hl 1 rfl) ?_
          refine xg_read (xg_runV (rest := []) (kw := 0) si_ST_208 hg hw S (va_recv (xg_k hg hw) hP (ci := 1) rfl (q0 := 1) rfl) (ct_KE_isWholeBy l hg s.heap k mask sh ch dealt epoch base whole signing pp qq modulus order shares (hP.sub [1, 2] rfl) ) ⟨by decide, by decide, by decide, by decide⟩ rfl hl.1 rfl (Nat.le_of_ble_eq_true rfl) d_ST_parts_37) ?_
          subst hr0
          subst hr1
          refine W.widen (k := 8) (n := 48) (Nat.le_of_ble_eq_true rfl) (Nat.le_of_ble_eq_true rfl) ?_
          exact xc_zret hx hb ht (xg_nb (nb_KE_isWholeBy ..)) hl0 xc_F.rf (fun _ h => nomatch h) xt_ro0 d_ST_parts_40
      · rw [if_neg h15] at hr0
        rw [if_neg h15] at hr1
        subst hr0
        exact th_1 hg hw hO S hl9 hl0 hE sw_206 hl.1 d_ST_parts_18 d_ST_parts_21 d_ST_parts_22 d_ST_parts_24 d_ST_parts_27 ⟨by decide, by decide, by decide, by decide⟩ ⟨by decide, by decide⟩ (fun _ h => xt_ro1 h)
def g_ST_told (motion : Int32) (what : Int32) (motionCount : Int32) : Option String := xt_el (g_ST_motionAt motion motionCount) (g_ST_motionAt motion motionCount) (if what = (0 : Int32) then none else (if what = (1 : Int32) then none else (if what = (2 : Int32) then none else (if what = (3 : Int32) then none else (if what = (4 : Int32) then none else (some xt_IA))))))
def f_ST_told (motion : Int32) (what : Int32) (motionCount : Int32) (standing : Int32) (block : Int64) (partials : Int32) (objections : Int32) (signature : Int64) : Int64 := xt_el (g_ST_motionAt motion motionCount) 0 (if what = (0 : Int32) then standing.toInt64 else (if what = (1 : Int32) then block else (if what = (2 : Int32) then partials.toInt64 else (if what = (3 : Int32) then objections.toInt64 else (if what = (4 : Int32) then signature else 0)))))
set_option maxHeartbeats 4000000 in
set_option maxRecDepth 100000 in
theorem ct_ST_told (l : Launch) {G : xg_G} (hg : xg_F G) (hl9 : l.stackTraces = false) (H : Heap) (hO : xg_O G H) (x : Nat) (motion : Int32) (what : Int32) (k : Nat) (bu : Nat) (ma : Nat) (se : Nat) (motionCount : Int32) (sealedCount : Int32) (suspended : Int32) (mot : Nat → Option Nat) (mo : Nat) (pw : Nat) (cg : Nat) (an : Nat) (standing : Int32) (block : Int64) (partials : Int32) (objections : Int32) (signature : Int64) (hP : va_P G.2.1 cl_all [(x, .inr (3, [.ref k, .ref bu, .ref ma, .ref se, .int motionCount, .int sealedCount, .int suspended])), (ma, .inl (G.2.2.2.2, 12, .inr (.inr (.inr (.inr mot))))), (mo, .inr (2, [.ref pw, .ref cg, .ref an, .int standing, .long block, .int partials, .int objections, .long signature]))] H) (hC : motionCount.toInt ≤ 12) (hM : ¬ motion < 0 → motion < motionCount → mot motion.toNatClampNeg = some mo) : xc_Met l y_ST_told (.code y_ST_told b_ST_told 4 (some .long)) ({ frames := 7, cells := 8, slots := 48, locals := 95 } : Room) (xg_Pc G [.ref x, .int motion, .int what] H) (xt_ro (g_ST_told motion what motionCount) (some (.long (f_ST_told motion what motionCount standing block partials objections signature))) H) (fun _ => False) := by
  refine xc_ofW (by decide) ?_
  intro p e s m args below meth c s₁ B hml hE hv
  obtain ⟨rfl, rfl, hw⟩ := hv
  have hx := B.exec
  have hb := B.bytes
  have ht := B.returns
  have hl0 := B.notSynchronized
  have S : xc_Fix p m c b_ST_told 4 s "SealTrust" := ⟨hx, hb, hml, findClass_of_methodNamed B.named⟩
  have hl := lv_entry ([.ref x, .int motion, .int what]) (n := 4) (Nat.le_of_ble_eq_true rfl)
  rw [lg_entry_eq]
  generalize (lg_sl ([.ref x, .int motion, .int what]) ++ List.replicate (4 - (lg_sl ([.ref x, .int motion, .int what])).length) Slot.unset).toArray = ls at hl ⊢
  have hl : lv_has ls 4 [(0, .ref x), (1, .int motion), (2, .int what)] := hl
  obtain ⟨r0, hr0⟩ : ∃ r, g_ST_told motion what motionCount = r := ⟨_, rfl⟩
  rw [hr0]
  unfold g_ST_told at hr0
  obtain ⟨r1, hr1⟩ : ∃ r, f_ST_told motion what motionCount standing block partials objections signature = r := ⟨_, rfl⟩
  rw [hr1]
  unfold f_ST_told at hr1
  show W p l e ({ frames := 7, cells := 8, slots := 48, locals := 95 } : Room) s m _ below meth c s.heap [] 0 0 (xc_Z below _ _ _ s 8 48) _
  refine lv_aload_n hx hb d_ST_told_0 rfl (lv_at hl 0 rfl) ?_
  refine lv_iload_n hx hb d_ST_told_1 rfl (lv_at hl 1 rfl) ?_
  refine xt_use (xg_runV (rest := []) (kw := 0) si_ST_98 hg hw S (va_recv (xg_k hg hw) hP (ci := 3) rfl (q0 := 0) rfl) (ct_ST_motionAt l hg hl9 s.heap hO x motion k bu ma se motionCount sealedCount suspended mot (hP.sub [0, 1] rfl) hC mo hM) ⟨by decide, by decide, by decide, by decide⟩ rfl hl.1 rfl (Nat.le_of_ble_eq_true rfl) d_ST_told_2) hl0 hE (by decide) (by decide) (fun E9 H9 h9 hF9 => ?_) (fun q2 => ?_)
  · rw [xt_el1 h9, h9] at hr0
    subst hr0
    exact xt_ro1 hF9
  · rw [xt_el0 q2] at hr0
    rw [xt_el0 q2] at hr1
    refine lv_astore_n hx hb d_ST_told_5 rfl hl (by decide) rfl (fun ls hl => ?_)
    have hl : lv_has ls 4 [(3, .ref mo), (0, .ref x), (1, .int motion), (2, .int what)] := hl
    refine lv_iload_n hx hb d_ST_told_6 rfl (lv_at hl 3 rfl) ?_
    by_cases h7_0 : what = (0 : Int32)
    · rw [if_pos h7_0] at hr0
      rw [if_pos h7_0] at hr1
      refine lv_tableIn hx hb d_ST_told_7 (off := 33) (tgt := 40) (by rw [h7_0]; decide) (by rw [h7_0]; decide) (by rw [h7_0]; decide) (by decide) ?_
      refine lv_aload_n hx hb d_ST_told_40 rfl (lv_at hl 0 rfl) ?_
      refine gf_ST_211 hg hw S hP 2 rfl rfl d_ST_told_41 ?_
      refine lv_i2l hx hb d_ST_told_44 rfl ?_
      subst hr0
      subst hr1
      refine W.widen (k := 8) (n := 48) (Nat.le_of_ble_eq_true rfl) (Nat.le_of_ble_eq_true rfl) ?_
      exact xc_lret hx hb ht hl0 xc_F.rf (fun _ h => nomatch h) xt_ro0 d_ST_told_45
    · rw [if_neg h7_0] at hr0
      rw [if_neg h7_0] at hr1
      by_cases h7_1 : what = (1 : Int32)
      · rw [if_pos h7_1] at hr0
        rw [if_pos h7_1] at hr1
        refine lv_tableIn hx hb d_ST_told_7 (off := 39) (tgt := 46) (by rw [h7_1]; decide) (by rw [h7_1]; decide) (by rw [h7_1]; decide) (by decide) ?_
        refine lv_aload_n hx hb d_ST_told_46 rfl (lv_at hl 0 rfl) ?_
        refine gf_ST_159 hg hw S hP 2 rfl rfl d_ST_told_47 ?_
        subst hr0
        subst hr1
        refine W.widen (k := 8) (n := 48) (Nat.le_of_ble_eq_true rfl) (Nat.le_of_ble_eq_true rfl) ?_
        exact xc_lret hx hb ht hl0 xc_F.rf (fun _ h => nomatch h) xt_ro0 d_ST_told_50
      · rw [if_neg h7_1] at hr0
        rw [if_neg h7_1] at hr1
        by_cases h7_2 : what = (2 : Int32)
        · rw [if_pos h7_2] at hr0
          rw [if_pos h7_2] at hr1
          refine lv_tableIn hx hb d_ST_told_7 (off := 44) (tgt := 51) (by rw [h7_2]; decide) (by rw [h7_2]; decide) (by rw [h7_2]; decide) (by decide) ?_
          refine lv_aload_n hx hb d_ST_told_51 rfl (lv_at hl 0 rfl) ?_
          refine gf_ST_135 hg hw S hP 2 rfl rfl d_ST_told_52 ?_
          refine lv_i2l hx hb d_ST_told_55 rfl ?_
          subst hr0
          subst hr1
          refine W.widen (k := 8) (n := 48) (Nat.le_of_ble_eq_true rfl) (Nat.le_of_ble_eq_true rfl) ?_
          exact xc_lret hx hb ht hl0 xc_F.rf (fun _ h => nomatch h) xt_ro0 d_ST_told_56
        · rw [if_neg h7_2] at hr0
          rw [if_neg h7_2] at hr1
          by_cases h7_3 : what = (3 : Int32)
          · rw [if_pos h7_3] at hr0
            rw [if_pos h7_3] at hr1
            refine lv_tableIn hx hb d_ST_told_7 (off := 50) (tgt := 57) (by rw [h7_3]; decide) (by rw [h7_3]; decide) (by rw [h7_3]; decide) (by decide) ?_
            refine lv_aload_n hx hb d_ST_told_57 rfl (lv_at hl 0 rfl) ?_
            refine gf_ST_126 hg hw S hP 2 rfl rfl d_ST_told_58 ?_
            refine lv_i2l hx hb d_ST_told_61 rfl ?_
            subst hr0
            subst hr1
            refine W.widen (k := 8) (n := 48) (Nat.le_of_ble_eq_true rfl) (Nat.le_of_ble_eq_true rfl) ?_
            exact xc_lret hx hb ht hl0 xc_F.rf (fun _ h => nomatch h) xt_ro0 d_ST_told_62
          · rw [if_neg h7_3] at hr0
            rw [if_neg h7_3] at hr1
            by_cases h7_4 : what = (4 : Int32)
            · rw [if_pos h7_4] at hr0
              rw [if_pos h7_4] at hr1
              refine lv_tableIn hx hb d_ST_told_7 (off := 56) (tgt := 63) (by rw [h7_4]; decide) (by rw [h7_4]; decide) (by rw [h7_4]; decide) (by decide) ?_
              refine lv_aload_n hx hb d_ST_told_63 rfl (lv_at hl 0 rfl) ?_
              refine gf_ST_190 hg hw S hP 2 rfl rfl d_ST_told_64 ?_
              subst hr0
              subst hr1
              refine W.widen (k := 8) (n := 48) (Nat.le_of_ble_eq_true rfl) (Nat.le_of_ble_eq_true rfl) ?_
              exact xc_lret hx hb ht hl0 xc_F.rf (fun _ h => nomatch h) xt_ro0 d_ST_told_67
            · rw [if_neg h7_4] at hr0
              rw [if_neg h7_4] at hr1
              have e7_0 : (what).toInt ≠ 0 := xt_ne h7_0
              have e7_1 : (what).toInt ≠ 1 := xt_ne h7_1
              have e7_2 : (what).toInt ≠ 2 := xt_ne h7_2
              have e7_3 : (what).toInt ≠ 3 := xt_ne h7_3
              have e7_4 : (what).toInt ≠ 4 := xt_ne h7_4
              refine lv_tableOut hx hb d_ST_told_7 (tgt := 68) (by omega) (by decide) ?_
              subst hr0
              exact th_1 hg hw hO S hl9 hl0 hE sw_214 hl.1 d_ST_told_68 d_ST_told_71 d_ST_told_72 d_ST_told_74 d_ST_told_77 ⟨by decide, by decide, by decide, by decide⟩ ⟨by decide, by decide⟩ (fun _ h => xt_ro1 h)
def g_ST_book (n_ : Int32) (sealedCount : Int32) : Option String := if 0 ≤ n_ then (if sealedCount ≤ n_ then none else none) else (some xt_IA)
def f_ST_book (n_ : Int32) (sealedCount : Int32) (sealed : Nat → Int32) : Int32 := if 0 ≤ n_ then (if sealedCount ≤ n_ then (-1 : Int32) else (sealed n_.toNatClampNeg)) else 0
set_option maxHeartbeats 4000000 in
set_option maxRecDepth 100000 in
theorem ct_ST_book (l : Launch) {G : xg_G} (hg : xg_F G) (hl9 : l.stackTraces = false) (H : Heap) (hO : xg_O G H) (x : Nat) (n_ : Int32) (k : Nat) (bu : Nat) (ma : Nat) (se : Nat) (motionCount : Int32) (sealedCount : Int32) (suspended : Int32) (sealed : Nat → Int32) (hP : va_P G.2.1 cl_all [(x, .inr (3, [.ref k, .ref bu, .ref ma, .ref se, .int motionCount, .int sealedCount, .int suspended])), (se, .inl (G.2.2.1, 12, .inl sealed))] H) (hC : sealedCount.toInt ≤ 12) : xc_Met l y_ST_book (.code y_ST_book b_ST_book 2 (some .int)) ({ frames := 6, cells := 1, slots := 6, locals := 82 } : Room) (xg_Pc G [.ref x, .int n_] H) (xt_ro (g_ST_book n_ sealedCount) (some (.int (f_ST_book n_ sealedCount sealed))) H) (fun _ => False) := by
  refine xc_ofW (by decide) ?_
  intro p e s m args below meth c s₁ B hml hE hv
  obtain ⟨rfl, rfl, hw⟩ := hv
  have hx := B.exec
  have hb := B.bytes
  have ht := B.returns
  have hl0 := B.notSynchronized
  have S : xc_Fix p m c b_ST_book 2 s "SealTrust" := ⟨hx, hb, hml, findClass_of_methodNamed B.named⟩
  have hl := lv_entry ([.ref x, .int n_]) (n := 2) (Nat.le_of_ble_eq_true rfl)
  rw [lg_entry_eq]
  generalize (lg_sl ([.ref x, .int n_]) ++ List.replicate (2 - (lg_sl ([.ref x, .int n_])).length) Slot.unset).toArray = ls at hl ⊢
  have hl : lv_has ls 2 [(0, .ref x), (1, .int n_)] := hl
  obtain ⟨r0, hr0⟩ : ∃ r, g_ST_book n_ sealedCount = r := ⟨_, rfl⟩
  rw [hr0]
  unfold g_ST_book at hr0
  obtain ⟨r1, hr1⟩ : ∃ r, f_ST_book n_ sealedCount sealed = r := ⟨_, rfl⟩
  rw [hr1]
  unfold f_ST_book at hr1
  show W p l e ({ frames := 6, cells := 1, slots := 6, locals := 82 } : Room) s m _ below meth c s.heap [] 0 0 (xc_Z below _ _ _ s 1 6) _
  refine lv_iload_n hx hb d_ST_book_0 rfl (lv_at hl 1 rfl) ?_
  refine lv_if_ge hx hb d_ST_book_1 (tgt := 14) (by decide) (fun h1 => ?_) (fun h1 => ?_)
  · rw [if_pos h1] at hr0
    rw [if_pos h1] at hr1
    refine lv_iload_n hx hb d_ST_book_14 rfl (lv_at hl 1 rfl) ?_
    refine lv_aload_n hx hb d_ST_book_15 rfl (lv_at hl 0 rfl) ?_
    refine gf_ST_61 hg hw S hP 0 rfl rfl d_ST_book_16 ?_
    refine lv_icmp_ge hx hb d_ST_book_19 (tgt := 31) (by decide) (fun h19 => ?_) (fun h19 => ?_)
    · rw [if_pos h19] at hr0
      rw [if_pos h19] at hr1
      refine lv_iconst (v := (-1 : Int32)) hx hb d_ST_book_31 (by decide) ?_
      subst hr0
      subst hr1
      refine W.widen (k := 1) (n := 6) (Nat.le_of_ble_eq_true rfl) (Nat.le_of_ble_eq_true rfl) ?_
      exact xc_iret hx hb ht hl0 xc_F.rf (fun _ h => nomatch h) xt_ro0 d_ST_book_32
    · rw [if_neg h19] at hr0
      rw [if_neg h19] at hr1
      refine lv_aload_n hx hb d_ST_book_22 rfl (lv_at hl 0 rfl) ?_
      refine gf_ST_30 hg hw S hP 0 rfl rfl d_ST_book_23 ?_
      refine lv_iload_n hx hb d_ST_book_26 rfl (lv_at hl 1 rfl) ?_
      refine va_iald hx hb (xg_k hg hw) hP 1 0 rfl rfl (xs_min2 h1 h19 hC) d_ST_book_27 ?_
      refine lv_goto hx hb d_ST_book_28 (tgt := 32) (by decide) ?_
      subst hr0
      subst hr1
      refine W.widen (k := 1) (n := 6) (Nat.le_of_ble_eq_true rfl) (Nat.le_of_ble_eq_true rfl) ?_
      exact xc_iret hx hb ht hl0 xc_F.rf (fun _ h => nomatch h) xt_ro0 d_ST_book_32
  · rw [if_neg h1] at hr0
    rw [if_neg h1] at hr1
    subst hr0
    exact th_1 hg hw hO S hl9 hl0 hE sw_216 hl.1 d_ST_book_4 d_ST_book_7 d_ST_book_8 d_ST_book_10 d_ST_book_13 ⟨by decide, by decide, by decide, by decide⟩ ⟨by decide, by decide⟩ (fun _ h => xt_ro1 h)
def g_ST_state (what : Int32) (dealt : Int32) : Option String := if what < 0 then (some xt_IA) else (if what ≤ (10 : Int32) then (if what = (4 : Int32) then none else (if dealt = 0 then none else (if what = (0 : Int32) then none else (if what = (1 : Int32) then none else (if what = (2 : Int32) then none else (if what = (3 : Int32) then none else none)))))) else (some xt_IA))
def f_ST_state (what : Int32) (motionCount : Int32) (suspended : Int32) (dealt : Int32) (epoch : Int64) (modulus : Int64) (checks : Nat → Int64) (size : Int32) : Int64 := if what < 0 then 0 else (if what ≤ (10 : Int32) then (if what = (4 : Int32) then ((f_BU_count size).toInt64) else (if dealt = 0 then (0 : Int64) else (if what = (0 : Int32) then modulus else (if what = (1 : Int32) then epoch else (if what = (2 : Int32) then motionCount.toInt64 else (if what = (3 : Int32) then suspended.toInt64 else (checks (what - (5 : Int32)).toNatClampNeg))))))) else 0)
set_option maxHeartbeats 4000000 in
set_option maxRecDepth 100000 in
theorem ct_ST_state (l : Launch) {G : xg_G} (hg : xg_F G) (hl9 : l.stackTraces = false) (H : Heap) (hO : xg_O G H) (x : Nat) (what : Int32) (k : Nat) (bu : Nat) (ma : Nat) (se : Nat) (motionCount : Int32) (sealedCount : Int32) (suspended : Int32) (sh : Nat) (ch : Nat) (dealt : Int32) (epoch : Int64) (base : Int64) (whole : Int64) (signing : Int64) (pp : Int64) (qq : Int64) (modulus : Int64) (order : Int64) (checks : Nat → Int64) (bys : Nat) (size : Int32) (hP : va_P G.2.1 cl_all [(x, .inr (3, [.ref k, .ref bu, .ref ma, .ref se, .int motionCount, .int sealedCount, .int suspended])), (k, .inr (1, [.ref sh, .ref ch, .int dealt, .long epoch, .long base, .long whole, .long signing, .long pp, .long qq, .long modulus, .long order])), (ch, .inl (G.2.2.2.1, 6, .inr (.inl checks))), (bu, .inr (0, [.ref bys, .int size]))] H)  : xc_Met l y_ST_state (.code y_ST_state b_ST_state 2 (some .long)) ({ frames := 6, cells := 1, slots := 6, locals := 82 } : Room) (xg_Pc G [.ref x, .int what] H) (xt_ro (g_ST_state what dealt) (some (.long (f_ST_state what motionCount suspended dealt epoch modulus checks size))) H) (fun _ => False) := by
  refine xc_ofW (by decide) ?_
  intro p e s m args below meth c s₁ B hml hE hv
  obtain ⟨rfl, rfl, hw⟩ := hv
  have hx := B.exec
  have hb := B.bytes
  have ht := B.returns
  have hl0 := B.notSynchronized
  have S : xc_Fix p m c b_ST_state 2 s "SealTrust" := ⟨hx, hb, hml, findClass_of_methodNamed B.named⟩
  have hl := lv_entry ([.ref x, .int what]) (n := 2) (Nat.le_of_ble_eq_true rfl)
  rw [lg_entry_eq]
  generalize (lg_sl ([.ref x, .int what]) ++ List.replicate (2 - (lg_sl ([.ref x, .int what])).length) Slot.unset).toArray = ls at hl ⊢
  have hl : lv_has ls 2 [(0, .ref x), (1, .int what)] := hl
  obtain ⟨r0, hr0⟩ : ∃ r, g_ST_state what dealt = r := ⟨_, rfl⟩
  rw [hr0]
  unfold g_ST_state at hr0
  obtain ⟨r1, hr1⟩ : ∃ r, f_ST_state what motionCount suspended dealt epoch modulus checks size = r := ⟨_, rfl⟩
  rw [hr1]
  unfold f_ST_state at hr1
  show W p l e ({ frames := 6, cells := 1, slots := 6, locals := 82 } : Room) s m _ below meth c s.heap [] 0 0 (xc_Z below _ _ _ s 1 6) _
  refine lv_iload_n hx hb d_ST_state_0 rfl (lv_at hl 1 rfl) ?_
  refine lv_if_lt hx hb d_ST_state_1 (tgt := 10) (by decide) (fun h1 => ?_) (fun h1 => ?_)
  · rw [if_pos h1] at hr0
    rw [if_pos h1] at hr1
    subst hr0
    exact th_1 hg hw hO S hl9 hl0 hE sw_218 hl.1 d_ST_state_10 d_ST_state_13 d_ST_state_14 d_ST_state_16 d_ST_state_19 ⟨by decide, by decide, by decide, by decide⟩ ⟨by decide, by decide⟩ (fun _ h => xt_ro1 h)
  · rw [if_neg h1] at hr0
    rw [if_neg h1] at hr1
    refine lv_iload_n hx hb d_ST_state_4 rfl (lv_at hl 1 rfl) ?_
    refine lv_bipush (v := (10 : Int32)) hx hb d_ST_state_5 (by decide) ?_
    refine lv_icmp_le hx hb d_ST_state_7 (tgt := 20) (by decide) (fun h7 => ?_) (fun h7 => ?_)
    · rw [if_pos h7] at hr0
      rw [if_pos h7] at hr1
      refine lv_iload_n hx hb d_ST_state_20 rfl (lv_at hl 1 rfl) ?_
      refine lv_iconst (v := (4 : Int32)) hx hb d_ST_state_21 (by decide) ?_
      refine lv_icmp_ne hx hb d_ST_state_22 (tgt := 34) (by decide) (fun h22 => ?_) (fun h22 => ?_)
      · rw [if_neg h22] at hr0
        rw [if_neg h22] at hr1
        refine lv_aload_n hx hb d_ST_state_34 rfl (lv_at hl 0 rfl) ?_
        refine gf_ST_10 hg hw S hP 0 rfl rfl d_ST_state_35 ?_
        refine gf_ST_220 hg hw S hP 1 rfl rfl d_ST_state_38 ?_
        refine lv_if_ne hx hb d_ST_state_41 (tgt := 46) (by decide) (fun h41 => ?_) (fun h41 => ?_)
        · rw [if_neg h41] at hr0
          rw [if_neg h41] at hr1
          refine lv_iload_n hx hb d_ST_state_46 rfl (lv_at hl 1 rfl) ?_
          by_cases h47_0 : what = (0 : Int32)
          · rw [if_pos h47_0] at hr0
            rw [if_pos h47_0] at hr1
            refine lv_tableIn hx hb d_ST_state_47 (off := 29) (tgt := 76) (by rw [h47_0]; decide) (by rw [h47_0]; decide) (by rw [h47_0]; decide) (by decide) ?_
            refine lv_aload_n hx hb d_ST_state_76 rfl (lv_at hl 0 rfl) ?_
            refine gf_ST_10 hg hw S hP 0 rfl rfl d_ST_state_77 ?_
            refine gf_ST_224 hg hw S hP 1 rfl rfl d_ST_state_80 ?_
            subst hr0
            subst hr1
            refine W.widen (k := 1) (n := 6) (Nat.le_of_ble_eq_true rfl) (Nat.le_of_ble_eq_true rfl) ?_
            exact xc_lret hx hb ht hl0 xc_F.rf (fun _ h => nomatch h) xt_ro0 d_ST_state_83
          · rw [if_neg h47_0] at hr0
            rw [if_neg h47_0] at hr1
            by_cases h47_1 : what = (1 : Int32)
            · rw [if_pos h47_1] at hr0
              rw [if_pos h47_1] at hr1
              refine lv_tableIn hx hb d_ST_state_47 (off := 37) (tgt := 84) (by rw [h47_1]; decide) (by rw [h47_1]; decide) (by rw [h47_1]; decide) (by decide) ?_
              refine lv_aload_n hx hb d_ST_state_84 rfl (lv_at hl 0 rfl) ?_
              refine gf_ST_10 hg hw S hP 0 rfl rfl d_ST_state_85 ?_
              refine gf_ST_200 hg hw S hP 1 rfl rfl d_ST_state_88 ?_
              subst hr0
              subst hr1
              refine W.widen (k := 1) (n := 6) (Nat.le_of_ble_eq_true rfl) (Nat.le_of_ble_eq_true rfl) ?_
              exact xc_lret hx hb ht hl0 xc_F.rf (fun _ h => nomatch h) xt_ro0 d_ST_state_91
            · rw [if_neg h47_1] at hr0
              rw [if_neg h47_1] at hr1
              by_cases h47_2 : what = (2 : Int32)
              · rw [if_pos h47_2] at hr0
                rw [if_pos h47_2] at hr1
                refine lv_tableIn hx hb d_ST_state_47 (off := 45) (tgt := 92) (by rw [h47_2]; decide) (by rw [h47_2]; decide) (by rw [h47_2]; decide) (by decide) ?_
                refine lv_aload_n hx hb d_ST_state_92 rfl (lv_at hl 0 rfl) ?_
                refine gf_ST_57 hg hw S hP 0 rfl rfl d_ST_state_93 ?_
                refine lv_i2l hx hb d_ST_state_96 rfl ?_
                subst hr0
                subst hr1
                refine W.widen (k := 1) (n := 6) (Nat.le_of_ble_eq_true rfl) (Nat.le_of_ble_eq_true rfl) ?_
                exact xc_lret hx hb ht hl0 xc_F.rf (fun _ h => nomatch h) xt_ro0 d_ST_state_97
              · rw [if_neg h47_2] at hr0
                rw [if_neg h47_2] at hr1
                by_cases h47_3 : what = (3 : Int32)
                · rw [if_pos h47_3] at hr0
                  rw [if_pos h47_3] at hr1
                  refine lv_tableIn hx hb d_ST_state_47 (off := 51) (tgt := 98) (by rw [h47_3]; decide) (by rw [h47_3]; decide) (by rw [h47_3]; decide) (by decide) ?_
                  refine lv_aload_n hx hb d_ST_state_98 rfl (lv_at hl 0 rfl) ?_
                  refine gf_ST_64 hg hw S hP 0 rfl rfl d_ST_state_99 ?_
                  refine lv_i2l hx hb d_ST_state_102 rfl ?_
                  subst hr0
                  subst hr1
                  refine W.widen (k := 1) (n := 6) (Nat.le_of_ble_eq_true rfl) (Nat.le_of_ble_eq_true rfl) ?_
                  exact xc_lret hx hb ht hl0 xc_F.rf (fun _ h => nomatch h) xt_ro0 d_ST_state_103
                · rw [if_neg h47_3] at hr0
                  rw [if_neg h47_3] at hr1
                  have e47_0 : (what).toInt ≠ 0 := xt_ne h47_0
                  have e47_1 : (what).toInt ≠ 1 := xt_ne h47_1
                  have e47_2 : (what).toInt ≠ 2 := xt_ne h47_2
                  have e47_3 : (what).toInt ≠ 3 := xt_ne h47_3
                  refine lv_tableOut hx hb d_ST_state_47 (tgt := 104) (by omega) (by decide) ?_
                  refine lv_aload_n hx hb d_ST_state_104 rfl (lv_at hl 0 rfl) ?_
                  refine gf_ST_10 hg hw S hP 0 rfl rfl d_ST_state_105 ?_
                  refine gf_ST_227 hg hw S hP 1 rfl rfl d_ST_state_108 ?_
                  refine lv_iload_n hx hb d_ST_state_111 rfl (lv_at hl 1 rfl) ?_
                  refine lv_iconst (v := (5 : Int32)) hx hb d_ST_state_112 (by decide) ?_
                  refine lv_isub hx hb d_ST_state_113 ?_
                  refine va_lald hx hb (xg_k hg hw) hP 2 1 rfl rfl (xs_w5 h1 h7 h22 e47_0 e47_1 e47_2 e47_3) d_ST_state_114 ?_
                  subst hr0
                  subst hr1
                  refine W.widen (k := 1) (n := 6) (Nat.le_of_ble_eq_true rfl) (Nat.le_of_ble_eq_true rfl) ?_
                  exact xc_lret hx hb ht hl0 xc_F.rf (fun _ h => nomatch h) xt_ro0 d_ST_state_115
        · rw [if_pos h41] at hr0
          rw [if_pos h41] at hr1
          refine lv_lconst (v := (0 : Int64)) hx hb d_ST_state_44 (by decide) ?_
          subst hr0
          subst hr1
          refine W.widen (k := 1) (n := 6) (Nat.le_of_ble_eq_true rfl) (Nat.le_of_ble_eq_true rfl) ?_
          exact xc_lret hx hb ht hl0 xc_F.rf (fun _ h => nomatch h) xt_ro0 d_ST_state_45
      · rw [if_pos h22] at hr0
        rw [if_pos h22] at hr1
        refine lv_aload_n hx hb d_ST_state_25 rfl (lv_at hl 0 rfl) ?_
        refine gf_ST_19 hg hw S hP 0 rfl rfl d_ST_state_26 ?_
        refine xg_read (xg_runV (rest := []) (kw := 0) si_ST_77 hg hw S (va_recv (xg_k hg hw) hP (ci := 0) rfl (q0 := 3) rfl) (ct_BU_count l hg s.heap bu bys size (hP.sub [3] rfl) ) ⟨by decide, by decide, by decide, by decide⟩ rfl hl.1 rfl (Nat.le_of_ble_eq_true rfl) d_ST_state_29) ?_
        refine lv_i2l hx hb d_ST_state_32 rfl ?_
        subst hr0
        subst hr1
        refine W.widen (k := 1) (n := 6) (Nat.le_of_ble_eq_true rfl) (Nat.le_of_ble_eq_true rfl) ?_
        exact xc_lret hx hb ht hl0 xc_F.rf (fun _ h => nomatch h) xt_ro0 d_ST_state_33
    · rw [if_neg h7] at hr0
      rw [if_neg h7] at hr1
      subst hr0
      exact th_1 hg hw hO S hl9 hl0 hE sw_218 hl.1 d_ST_state_10 d_ST_state_13 d_ST_state_14 d_ST_state_16 d_ST_state_19 ⟨by decide, by decide, by decide, by decide⟩ ⟨by decide, by decide⟩ (fun _ h => xt_ro1 h)
