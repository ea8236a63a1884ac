/-! the key: methods that write; motions: objections; the book -/
def f_MO_takeObjection_objections (trustee : Int32) (objections : Int32) (standing : Int32) : Int32 := if (f_IN_bitCount (objections ||| ((1 : Int32) <<< (trustee &&& 31)))) < (3 : Int32) then (objections ||| ((1 : Int32) <<< (trustee &&& 31))) else (objections ||| ((1 : Int32) <<< (trustee &&& 31)))
def f_MO_takeObjection_standing (trustee : Int32) (objections : Int32) (standing : Int32) : Int32 := if (f_IN_bitCount (objections ||| ((1 : Int32) <<< (trustee &&& 31)))) < (3 : Int32) then standing else (2 : Int32)
set_option maxHeartbeats 4000000 in
set_option maxRecDepth 100000 in
theorem ct_MO_takeObjection (l : Launch) {G : xg_G} (hg : xg_F G) (H : Heap) (mo : Nat) (trustee : Int32) (pw : Nat) (cg : Nat) (an : Nat) (standing : Int32) (block : Int64) (partials : Int32) (objections : Int32) (signature : Int64) (hP : va_P G.2.1 cl_all [(mo, .inr (2, [.ref pw, .ref cg, .ref an, .int standing, .long block, .int partials, .int objections, .long signature]))] H) (hD0 : va_D (fun _ => True) [(mo, .inr (2, [.ref pw, .ref cg, .ref an, .int standing, .long block, .int partials, .int objections, .long signature]))])  : xc_Met l y_MO_takeObjection (.code y_MO_takeObjection b_MO_takeObjection 2 none) ({ frames := 1, cells := 0, slots := 0, locals := 12 } : Room) (xg_Pc G [.ref mo, .int trustee] H) (xw_post G (va_A [(mo, .inr (2, [.ref pw, .ref cg, .ref an, .int standing, .long block, .int partials, .int objections, .long signature]))] H.size) none [(mo, .inr (2, [.ref pw, .ref cg, .ref an, .int (f_MO_takeObjection_standing trustee objections standing), .long block, .int partials, .int (f_MO_takeObjection_objections trustee objections standing), .long signature]))]) (va_A [(mo, .inr (2, [.ref pw, .ref cg, .ref an, .int standing, .long block, .int partials, .int objections, .long signature]))] H.size) := by
  refine xc_ofW (by decide) ?_
  intro p e s m args below meth c s₁ B hml hE hv
  obtain ⟨rfl, rfl, hw⟩ := hv
  have hx := B.exec
  have hb := B.bytes
  have ht := B.returns
  have hl0 := B.notSynchronized
  have S : xc_Fix p m c b_MO_takeObjection 2 s "SealTrust$Motion" := ⟨hx, hb, hml, findClass_of_methodNamed B.named⟩
  have hD := hD0.self (sz := s.heap.size)
  generalize hAe : va_A [(mo, .inr (2, [.ref pw, .ref cg, .ref an, .int standing, .long block, .int partials, .int objections, .long signature]))] s.heap.size = A at hD ⊢
  have hA : ∀ q : Nat, s.heap.size ≤ q → A q := fun q h => by rw [← hAe]; exact Or.inr h
  have hS : va_S A s.heap s.heap [] := va_S.rf
  have hl := lv_entry ([.ref mo, .int trustee]) (n := 2) (Nat.le_of_ble_eq_true rfl)
  rw [lg_entry_eq]
  generalize (lg_sl ([.ref mo, .int trustee]) ++ List.replicate (2 - (lg_sl ([.ref mo, .int trustee])).length) Slot.unset).toArray = ls at hl ⊢
  have hl : lv_has ls 2 [(0, .ref mo), (1, .int trustee)] := hl
  obtain ⟨r0, hr0⟩ : ∃ r, f_MO_takeObjection_objections trustee objections standing = r := ⟨_, rfl⟩
  rw [hr0]
  unfold f_MO_takeObjection_objections at hr0
  obtain ⟨r1, hr1⟩ : ∃ r, f_MO_takeObjection_standing trustee objections standing = r := ⟨_, rfl⟩
  rw [hr1]
  unfold f_MO_takeObjection_standing at hr1
  refine lv_aload_n hx hb d_MO_takeObjection_0 rfl (lv_at hl 0 rfl) ?_
  refine lv_dup hx hb d_MO_takeObjection_1 rfl ?_
  refine gf_MO_33 hg hw S hP 0 rfl rfl d_MO_takeObjection_2 ?_
  refine lv_iconst (v := (1 : Int32)) hx hb d_MO_takeObjection_5 (by decide) ?_
  refine lv_iload_n hx hb d_MO_takeObjection_6 rfl (lv_at hl 1 rfl) ?_
  refine lv_ishl hx hb d_MO_takeObjection_7 ?_
  refine lv_ior hx hb d_MO_takeObjection_8 ?_
  refine pf_MO_33 hg hw S hP hD hS 0 rfl rfl rfl (Nat.le_of_ble_eq_true rfl) d_MO_takeObjection_9 (fun H1 L1 hP hD hS => ?_)
  have hP : va_P G.2.1 cl_all [(mo, .inr (2, [.ref pw, .ref cg, .ref an, .int standing, .long block, .int partials, .int (objections ||| ((1 : Int32) <<< (trustee &&& 31))), .long signature]))] H1 := hP
  have hD : va_D A [(mo, .inr (2, [.ref pw, .ref cg, .ref an, .int standing, .long block, .int partials, .int (objections ||| ((1 : Int32) <<< (trustee &&& 31))), .long signature]))] := hD
  refine lv_aload_n hx hb d_MO_takeObjection_12 rfl (lv_at hl 0 rfl) ?_
  refine gf_MO_33 hg hw S hP 0 rfl rfl d_MO_takeObjection_13 ?_
  refine xg_read (xg_runS (rest := []) (kw := 0) si_MO_39 hg hw S (ct_IN_bitCount l hg H1 (objections ||| ((1 : Int32) <<< (trustee &&& 31))) ) ⟨by decide, by decide, by decide, by decide⟩ rfl hl.1 rfl (Nat.le_of_ble_eq_true rfl) d_MO_takeObjection_16) ?_
  refine lv_iconst (v := (3 : Int32)) hx hb d_MO_takeObjection_19 (by decide) ?_
  refine lv_icmp_lt hx hb d_MO_takeObjection_20 (tgt := 28) (by decide) (fun h20 => ?_) (fun h20 => ?_)
  · rw [if_pos h20] at hr0
    rw [if_pos h20] at hr1
    subst hr0
    subst hr1
    exact xw_vret hx hb ht hl0 hP hD hS d_MO_takeObjection_28
  · rw [if_neg h20] at hr0
    rw [if_neg h20] at hr1
    refine lv_aload_n hx hb d_MO_takeObjection_23 rfl (lv_at hl 0 rfl) ?_
    refine lv_iconst (v := (2 : Int32)) hx hb d_MO_takeObjection_24 (by decide) ?_
    refine pf_MO_22 hg hw S hP hD hS 0 rfl rfl rfl (Nat.le_of_ble_eq_true rfl) d_MO_takeObjection_25 (fun H2 L2 hP hD hS => ?_)
    have hP : va_P G.2.1 cl_all [(mo, .inr (2, [.ref pw, .ref cg, .ref an, .int (2 : Int32), .long block, .int partials, .int (objections ||| ((1 : Int32) <<< (trustee &&& 31))), .long signature]))] H2 := hP
    have hD : va_D A [(mo, .inr (2, [.ref pw, .ref cg, .ref an, .int (2 : Int32), .long block, .int partials, .int (objections ||| ((1 : Int32) <<< (trustee &&& 31))), .long signature]))] := hD
    subst hr0
    subst hr1
    exact xw_vret hx hb ht hl0 hP hD hS d_MO_takeObjection_28
def lf_KE_begin_129_9 (newP : Int64) (newQ : Int64) (root : Int64) (shares : Nat → Int64) : Nat → Int32 → (Nat → Int64) → (Nat → Int64)
  | 0, _, _ => fun _ => 0
  | n + 1, i, shv => if (6 : Int32) ≤ i then shv else (lf_KE_begin_129_9 newP newQ root shares n (i + (1 : Int32)) (vp_updL shv i.toNatClampNeg (f_ST_rest (f_ST_powerModulo (65537 : Int64) (((((newP - (1 : Int64)) / (2 : Int64)) - (1 : Int64)) * (((newQ - (1 : Int64)) / (2 : Int64)) - (1 : Int64))) - (1 : Int64)) ((2 : Int64) * (((newP - (1 : Int64)) / (2 : Int64)) * ((newQ - (1 : Int64)) / (2 : Int64))))) (((newP - (1 : Int64)) / (2 : Int64)) * ((newQ - (1 : Int64)) / (2 : Int64))))))
def f_KE_begin_dealt (newP : Int64) (newQ : Int64) (root : Int64) : Int32 := (1 : Int32)
def f_KE_begin_epoch (newP : Int64) (newQ : Int64) (root : Int64) : Int64 := (0 : Int64)
def f_KE_begin_base (newP : Int64) (newQ : Int64) (root : Int64) : Int64 := f_ST_rest (root * root) (newP * newQ)
def f_KE_begin_whole (newP : Int64) (newQ : Int64) (root : Int64) : Int64 := f_ST_rest (f_ST_powerModulo (65537 : Int64) (((((newP - (1 : Int64)) / (2 : Int64)) - (1 : Int64)) * (((newQ - (1 : Int64)) / (2 : Int64)) - (1 : Int64))) - (1 : Int64)) ((2 : Int64) * (((newP - (1 : Int64)) / (2 : Int64)) * ((newQ - (1 : Int64)) / (2 : Int64))))) (((newP - (1 : Int64)) / (2 : Int64)) * ((newQ - (1 : Int64)) / (2 : Int64)))
def f_KE_begin_signing (newP : Int64) (newQ : Int64) (root : Int64) : Int64 := f_ST_powerModulo (65537 : Int64) (((((newP - (1 : Int64)) / (2 : Int64)) - (1 : Int64)) * (((newQ - (1 : Int64)) / (2 : Int64)) - (1 : Int64))) - (1 : Int64)) ((2 : Int64) * (((newP - (1 : Int64)) / (2 : Int64)) * ((newQ - (1 : Int64)) / (2 : Int64))))
def f_KE_begin_p (newP : Int64) (newQ : Int64) (root : Int64) : Int64 := newP
def f_KE_begin_q (newP : Int64) (newQ : Int64) (root : Int64) : Int64 := newQ
def f_KE_begin_modulus (newP : Int64) (newQ : Int64) (root : Int64) : Int64 := newP * newQ
def f_KE_begin_order (newP : Int64) (newQ : Int64) (root : Int64) : Int64 := ((newP - (1 : Int64)) / (2 : Int64)) * ((newQ - (1 : Int64)) / (2 : Int64))
def f_KE_begin_SH (newP : Int64) (newQ : Int64) (root : Int64) (shares : Nat → Int64) : Nat → Int64 := lf_KE_begin_129_9 newP newQ root shares 7 (0 : Int32) shares
set_option maxHeartbeats 4000000 in
set_option maxRecDepth 100000 in
theorem wl_KE_begin_129 {p : Program} {l : Launch} {e : Env} {s : State} {m : MethodId} {args : Array Value} {below : List Frame} {meth : Method} {c : Code} {G : xg_G} {A : Nat → Prop} {k : Nat} {newP : Int64} {newQ : Int64} {root : Int64} {sh : Nat} {ch : Nat} {dealt : Int32} {epoch : Int64} {base : Int64} {whole : Int64} {signing : Int64} {pp : Int64} {qq : Int64} {modulus : Int64} {order : Int64} {shares : Nat → Int64} (hg : xg_F G) (hw : G.1.WarmedH s.vm) (S : xc_Fix p m c b_KE_begin 12 s "SealTrust$Key") (hl0 : meth.locks = false) (ht : meth.sig.returnType = none) (hA : ∀ q, s.heap.size ≤ q → A q)  : ∀ (n : Nat) (i : Int32) (shv : Nat → Int64) (r9 : Nat → Int64) (ls : Array Slot) (H9 : Heap) (L9 : List Loc), lf_KE_begin_129_9 newP newQ root shares n i shv = r9 → (0 ≤ i.toInt ∧ ((6 : Int32).toInt - i.toInt).toNat < n) → lv_has ls 12 [(11, .int i), (9, .long ((newQ - (1 : Int64)) / (2 : Int64))), (7, .long ((newP - (1 : Int64)) / (2 : Int64))), (0, .ref k), (1, .long newP), (3, .long newQ), (5, .long root)] → va_P G.2.1 cl_all [(k, .inr (1, [.ref sh, .ref ch, .int (1 : Int32), .long (0 : Int64), .long (f_ST_rest (root * root) (newP * newQ)), .long (f_ST_rest (f_ST_powerModulo (65537 : Int64) (((((newP - (1 : Int64)) / (2 : Int64)) - (1 : Int64)) * (((newQ - (1 : Int64)) / (2 : Int64)) - (1 : Int64))) - (1 : Int64)) ((2 : Int64) * (((newP - (1 : Int64)) / (2 : Int64)) * ((newQ - (1 : Int64)) / (2 : Int64))))) (((newP - (1 : Int64)) / (2 : Int64)) * ((newQ - (1 : Int64)) / (2 : Int64)))), .long (f_ST_powerModulo (65537 : Int64) (((((newP - (1 : Int64)) / (2 : Int64)) - (1 : Int64)) * (((newQ - (1 : Int64)) / (2 : Int64)) - (1 : Int64))) - (1 : Int64)) ((2 : Int64) * (((newP - (1 : Int64)) / (2 : Int64)) * ((newQ - (1 : Int64)) / (2 : Int64))))), .long newP, .long newQ, .long (newP * newQ), .long (((newP - (1 : Int64)) / (2 : Int64)) * ((newQ - (1 : Int64)) / (2 : Int64)))])), (sh, .inl (G.2.2.2.1, 6, .inr (.inl shv)))] H9 → va_D A [(k, .inr (1, [.ref sh, .ref ch, .int (1 : Int32), .long (0 : Int64), .long (f_ST_rest (root * root) (newP * newQ)), .long (f_ST_rest (f_ST_powerModulo (65537 : Int64) (((((newP - (1 : Int64)) / (2 : Int64)) - (1 : Int64)) * (((newQ - (1 : Int64)) / (2 : Int64)) - (1 : Int64))) - (1 : Int64)) ((2 : Int64) * (((newP - (1 : Int64)) / (2 : Int64)) * ((newQ - (1 : Int64)) / (2 : Int64))))) (((newP - (1 : Int64)) / (2 : Int64)) * ((newQ - (1 : Int64)) / (2 : Int64)))), .long (f_ST_powerModulo (65537 : Int64) (((((newP - (1 : Int64)) / (2 : Int64)) - (1 : Int64)) * (((newQ - (1 : Int64)) / (2 : Int64)) - (1 : Int64))) - (1 : Int64)) ((2 : Int64) * (((newP - (1 : Int64)) / (2 : Int64)) * ((newQ - (1 : Int64)) / (2 : Int64))))), .long newP, .long newQ, .long (newP * newQ), .long (((newP - (1 : Int64)) / (2 : Int64)) * ((newQ - (1 : Int64)) / (2 : Int64)))])), (sh, .inl (G.2.2.2.1, 6, .inr (.inl shv)))] → va_S A s.heap H9 L9 → W p l e ({ frames := 2, cells := 0, slots := 0, locals := 42 } : Room) s m args below meth c H9 L9 0 0 (xw_Z G below A none [(k, .inr (1, [.ref sh, .ref ch, .int (1 : Int32), .long (0 : Int64), .long (f_ST_rest (root * root) (newP * newQ)), .long (f_ST_rest (f_ST_powerModulo (65537 : Int64) (((((newP - (1 : Int64)) / (2 : Int64)) - (1 : Int64)) * (((newQ - (1 : Int64)) / (2 : Int64)) - (1 : Int64))) - (1 : Int64)) ((2 : Int64) * (((newP - (1 : Int64)) / (2 : Int64)) * ((newQ - (1 : Int64)) / (2 : Int64))))) (((newP - (1 : Int64)) / (2 : Int64)) * ((newQ - (1 : Int64)) / (2 : Int64)))), .long (f_ST_powerModulo (65537 : Int64) (((((newP - (1 : Int64)) / (2 : Int64)) - (1 : Int64)) * (((newQ - (1 : Int64)) / (2 : Int64)) - (1 : Int64))) - (1 : Int64)) ((2 : Int64) * (((newP - (1 : Int64)) / (2 : Int64)) * ((newQ - (1 : Int64)) / (2 : Int64))))), .long newP, .long newQ, .long (newP * newQ), .long (((newP - (1 : Int64)) / (2 : Int64)) * ((newQ - (1 : Int64)) / (2 : Int64)))])), (sh, .inl (G.2.2.2.1, 6, .inr (.inl r9)))] args s 0 0) (F0 m 129 ls []) := by
  have hx := S.1
  have hb := S.2.1
  intro n
  induction n with
  | zero =>
    intro i shv r9 ls H9 L9 hr9 hmu
    omega
  | succ n ih =>
    intro i shv r9 ls H9 L9 hr9 hmu hl hP hD hS
    rw [lf_KE_begin_129_9] at hr9
    refine lv_iload hx hb d_KE_begin_129 (lv_at hl 0 rfl) ?_
    refine lv_bipush (v := (6 : Int32)) hx hb d_KE_begin_131 (by decide) ?_
    refine lv_icmp_ge hx hb d_KE_begin_133 (tgt := 153) (by decide) (fun h133 => ?_) (fun h133 => ?_)
    · rw [if_pos h133] at hr9
      subst hr9
      exact xw_vret hx hb ht hl0 hP hD hS d_KE_begin_153
    · rw [if_neg h133] at hr9
      refine lv_aload_n hx hb d_KE_begin_136 rfl (lv_at hl 3 rfl) ?_
      refine gf_KE_9 hg hw S hP 0 rfl rfl d_KE_begin_137 ?_
      refine lv_iload hx hb d_KE_begin_140 (lv_at hl 0 rfl) ?_
      refine lv_aload_n hx hb d_KE_begin_142 rfl (lv_at hl 3 rfl) ?_
      refine gf_KE_46 hg hw S hP 0 rfl rfl d_KE_begin_143 ?_
      refine va_last hx hb (xg_k hg hw) hP hD hS 1 1 rfl rfl (xi_in h133 hmu.1 (by decide)) d_KE_begin_146 (fun H10 L10 hP hD hS => ?_)
      have hP : va_P G.2.1 cl_all [(k, .inr (1, [.ref sh, .ref ch, .int (1 : Int32), .long (0 : Int64), .long (f_ST_rest (root * root) (newP * newQ)), .long (f_ST_rest (f_ST_powerModulo (65537 : Int64) (((((newP - (1 : Int64)) / (2 : Int64)) - (1 : Int64)) * (((newQ - (1 : Int64)) / (2 : Int64)) - (1 : Int64))) - (1 : Int64)) ((2 : Int64) * (((newP - (1 : Int64)) / (2 : Int64)) * ((newQ - (1 : Int64)) / (2 : Int64))))) (((newP - (1 : Int64)) / (2 : Int64)) * ((newQ - (1 : Int64)) / (2 : Int64)))), .long (f_ST_powerModulo (65537 : Int64) (((((newP - (1 : Int64)) / (2 : Int64)) - (1 : Int64)) * (((newQ - (1 : Int64)) / (2 : Int64)) - (1 : Int64))) - (1 : Int64)) ((2 : Int64) * (((newP - (1 : Int64)) / (2 : Int64)) * ((newQ - (1 : Int64)) / (2 : Int64))))), .long newP, .long newQ, .long (newP * newQ), .long (((newP - (1 : Int64)) / (2 : Int64)) * ((newQ - (1 : Int64)) / (2 : Int64)))])), (sh, .inl (G.2.2.2.1, 6, .inr (.inl (vp_updL shv i.toNatClampNeg (f_ST_rest (f_ST_powerModulo (65537 : Int64) (((((newP - (1 : Int64)) / (2 : Int64)) - (1 : Int64)) * (((newQ - (1 : Int64)) / (2 : Int64)) - (1 : Int64))) - (1 : Int64)) ((2 : Int64) * (((newP - (1 : Int64)) / (2 : Int64)) * ((newQ - (1 : Int64)) / (2 : Int64))))) (((newP - (1 : Int64)) / (2 : Int64)) * ((newQ - (1 : Int64)) / (2 : Int64))))))))] H10 := hP
      have hD : va_D A [(k, .inr (1, [.ref sh, .ref ch, .int (1 : Int32), .long (0 : Int64), .long (f_ST_rest (root * root) (newP * newQ)), .long (f_ST_rest (f_ST_powerModulo (65537 : Int64) (((((newP - (1 : Int64)) / (2 : Int64)) - (1 : Int64)) * (((newQ - (1 : Int64)) / (2 : Int64)) - (1 : Int64))) - (1 : Int64)) ((2 : Int64) * (((newP - (1 : Int64)) / (2 : Int64)) * ((newQ - (1 : Int64)) / (2 : Int64))))) (((newP - (1 : Int64)) / (2 : Int64)) * ((newQ - (1 : Int64)) / (2 : Int64)))), .long (f_ST_powerModulo (65537 : Int64) (((((newP - (1 : Int64)) / (2 : Int64)) - (1 : Int64)) * (((newQ - (1 : Int64)) / (2 : Int64)) - (1 : Int64))) - (1 : Int64)) ((2 : Int64) * (((newP - (1 : Int64)) / (2 : Int64)) * ((newQ - (1 : Int64)) / (2 : Int64))))), .long newP, .long newQ, .long (newP * newQ), .long (((newP - (1 : Int64)) / (2 : Int64)) * ((newQ - (1 : Int64)) / (2 : Int64)))])), (sh, .inl (G.2.2.2.1, 6, .inr (.inl (vp_updL shv i.toNatClampNeg (f_ST_rest (f_ST_powerModulo (65537 : Int64) (((((newP - (1 : Int64)) / (2 : Int64)) - (1 : Int64)) * (((newQ - (1 : Int64)) / (2 : Int64)) - (1 : Int64))) - (1 : Int64)) ((2 : Int64) * (((newP - (1 : Int64)) / (2 : Int64)) * ((newQ - (1 : Int64)) / (2 : Int64))))) (((newP - (1 : Int64)) / (2 : Int64)) * ((newQ - (1 : Int64)) / (2 : Int64))))))))] := hD
      refine lv_iinc (v := i + (1 : Int32)) hx hb d_KE_begin_147 hl (k := 0) rfl rfl (by decide) rfl (fun ls hl => ?_)
      have hl : lv_has ls 12 [(11, .int (i + (1 : Int32))), (9, .long ((newQ - (1 : Int64)) / (2 : Int64))), (7, .long ((newP - (1 : Int64)) / (2 : Int64))), (0, .ref k), (1, .long newP), (3, .long newQ), (5, .long root)] := hl
      refine lv_goto hx hb d_KE_begin_150 (tgt := 129) (by decide) ?_
      exact ih (i + (1 : Int32)) (vp_updL shv i.toNatClampNeg (f_ST_rest (f_ST_powerModulo (65537 : Int64) (((((newP - (1 : Int64)) / (2 : Int64)) - (1 : Int64)) * (((newQ - (1 : Int64)) / (2 : Int64)) - (1 : Int64))) - (1 : Int64)) ((2 : Int64) * (((newP - (1 : Int64)) / (2 : Int64)) * ((newQ - (1 : Int64)) / (2 : Int64))))) (((newP - (1 : Int64)) / (2 : Int64)) * ((newQ - (1 : Int64)) / (2 : Int64))))) r9 ls H10 L10 hr9 (xi_up0 h133 hmu) (lv_sub hl [0, 1, 2, 3, 4, 5, 6] rfl) hP hD hS
set_option maxHeartbeats 4000000 in
set_option maxRecDepth 100000 in
theorem ct_KE_begin (l : Launch) {G : xg_G} (hg : xg_F G) (H : Heap) (k : Nat) (newP : Int64) (newQ : Int64) (root : Int64) (sh : Nat) (ch : Nat) (dealt : Int32) (epoch : Int64) (base : Int64) (whole : Int64) (signing : Int64) (pp : Int64) (qq : Int64) (modulus : Int64) (order : Int64) (shares : Nat → Int64) (hP : va_P G.2.1 cl_all [(k, .inr (1, [.ref sh, .ref ch, .int dealt, .long epoch, .long base, .long whole, .long signing, .long pp, .long qq, .long modulus, .long order])), (sh, .inl (G.2.2.2.1, 6, .inr (.inl shares)))] H) (hD0 : va_D (fun _ => True) [(k, .inr (1, [.ref sh, .ref ch, .int dealt, .long epoch, .long base, .long whole, .long signing, .long pp, .long qq, .long modulus, .long order])), (sh, .inl (G.2.2.2.1, 6, .inr (.inl shares)))])  : xc_Met l y_KE_begin (.code y_KE_begin b_KE_begin 12 none) ({ frames := 2, cells := 0, slots := 0, locals := 42 } : Room) (xg_Pc G [.ref k, .long newP, .long newQ, .long root] H) (xw_post G (va_A [(k, .inr (1, [.ref sh, .ref ch, .int dealt, .long epoch, .long base, .long whole, .long signing, .long pp, .long qq, .long modulus, .long order])), (sh, .inl (G.2.2.2.1, 6, .inr (.inl shares)))] H.size) none [(k, .inr (1, [.ref sh, .ref ch, .int (f_KE_begin_dealt newP newQ root), .long (f_KE_begin_epoch newP newQ root), .long (f_KE_begin_base newP newQ root), .long (f_KE_begin_whole newP newQ root), .long (f_KE_begin_signing newP newQ root), .long (f_KE_begin_p newP newQ root), .long (f_KE_begin_q newP newQ root), .long (f_KE_begin_modulus newP newQ root), .long (f_KE_begin_order newP newQ root)])), (sh, .inl (G.2.2.2.1, 6, .inr (.inl (f_KE_begin_SH newP newQ root shares))))]) (va_A [(k, .inr (1, [.ref sh, .ref ch, .int dealt, .long epoch, .long base, .long whole, .long signing, .long pp, .long qq, .long modulus, .long order])), (sh, .inl (G.2.2.2.1, 6, .inr (.inl shares)))] H.size) := by
  refine xc_ofW (by decide) ?_
  intro p e s m args below meth c s₁ B hml hE hv
  obtain ⟨rfl, rfl, hw⟩ := hv
  have hx := B.exec
  have hb := B.bytes
  have ht := B.returns
  have hl0 := B.notSynchronized
  have S : xc_Fix p m c b_KE_begin 12 s "SealTrust$Key" := ⟨hx, hb, hml, findClass_of_methodNamed B.named⟩
  have hD := hD0.self (sz := s.heap.size)
  generalize hAe : va_A [(k, .inr (1, [.ref sh, .ref ch, .int dealt, .long epoch, .long base, .long whole, .long signing, .long pp, .long qq, .long modulus, .long order])), (sh, .inl (G.2.2.2.1, 6, .inr (.inl shares)))] s.heap.size = A at hD ⊢
  have hA : ∀ q : Nat, s.heap.size ≤ q → A q := fun q h => by rw [← hAe]; exact Or.inr h
  have hS : va_S A s.heap s.heap [] := va_S.rf
  have hl := lv_entry ([.ref k, .long newP, .long newQ, .long root]) (n := 12) (Nat.le_of_ble_eq_true rfl)
  rw [lg_entry_eq]
  generalize (lg_sl ([.ref k, .long newP, .long newQ, .long root]) ++ List.replicate (12 - (lg_sl ([.ref k, .long newP, .long newQ, .long root])).length) Slot.unset).toArray = ls at hl ⊢
  have hl : lv_has ls 12 [(0, .ref k), (1, .long newP), (3, .long newQ), (5, .long root)] := hl
  obtain ⟨r0, hr0⟩ : ∃ r, f_KE_begin_dealt newP newQ root = r := ⟨_, rfl⟩
  rw [hr0]
  unfold f_KE_begin_dealt at hr0
  obtain ⟨r1, hr1⟩ : ∃ r, f_KE_begin_epoch newP newQ root = r := ⟨_, rfl⟩
  rw [hr1]
  unfold f_KE_begin_epoch at hr1
  obtain ⟨r2, hr2⟩ : ∃ r, f_KE_begin_base newP newQ root = r := ⟨_, rfl⟩
  rw [hr2]
  unfold f_KE_begin_base at hr2
  obtain ⟨r3, hr3⟩ : ∃ r, f_KE_begin_whole newP newQ root = r := ⟨_, rfl⟩
  rw [hr3]
  unfold f_KE_begin_whole at hr3
  obtain ⟨r4, hr4⟩ : ∃ r, f_KE_begin_signing newP newQ root = r := ⟨_, rfl⟩
  rw [hr4]
  unfold f_KE_begin_signing at hr4
  obtain ⟨r5, hr5⟩ : ∃ r, f_KE_begin_p newP newQ root = r := ⟨_, rfl⟩
  rw [hr5]
  unfold f_KE_begin_p at hr5
  obtain ⟨r6, hr6⟩ : ∃ r, f_KE_begin_q newP newQ root = r := ⟨_, rfl⟩
  rw [hr6]
  unfold f_KE_begin_q at hr6
  obtain ⟨r7, hr7⟩ : ∃ r, f_KE_begin_modulus newP newQ root = r := ⟨_, rfl⟩
  rw [hr7]
  unfold f_KE_begin_modulus at hr7
  obtain ⟨r8, hr8⟩ : ∃ r, f_KE_begin_order newP newQ root = r := ⟨_, rfl⟩
  rw [hr8]
  unfold f_KE_begin_order at hr8
  obtain ⟨r9, hr9⟩ : ∃ r, f_KE_begin_SH newP newQ root shares = r := ⟨_, rfl⟩
  rw [hr9]
  unfold f_KE_begin_SH at hr9
  refine lv_aload_n hx hb d_KE_begin_0 rfl (lv_at hl 0 rfl) ?_
  refine lv_lload_n hx hb d_KE_begin_1 rfl (lv_at hl 1 rfl) ?_
  refine pf_KE_18 hg hw S hP hD hS 0 rfl rfl rfl (Nat.le_of_ble_eq_true rfl) d_KE_begin_2 (fun H1 L1 hP hD hS => ?_)
  have hP : va_P G.2.1 cl_all [(k, .inr (1, [.ref sh, .ref ch, .int dealt, .long epoch, .long base, .long whole, .long signing, .long newP, .long qq, .long modulus, .long order])), (sh, .inl (G.2.2.2.1, 6, .inr (.inl shares)))] H1 := hP
  have hD : va_D A [(k, .inr (1, [.ref sh, .ref ch, .int dealt, .long epoch, .long base, .long whole, .long signing, .long newP, .long qq, .long modulus, .long order])), (sh, .inl (G.2.2.2.1, 6, .inr (.inl shares)))] := hD
  refine lv_aload_n hx hb d_KE_begin_5 rfl (lv_at hl 0 rfl) ?_
  refine lv_lload_n hx hb d_KE_begin_6 rfl (lv_at hl 2 rfl) ?_
  refine pf_KE_22 hg hw S hP hD hS 0 rfl rfl rfl (Nat.le_of_ble_eq_true rfl) d_KE_begin_7 (fun H2 L2 hP hD hS => ?_)
  have hP : va_P G.2.1 cl_all [(k, .inr (1, [.ref sh, .ref ch, .int dealt, .long epoch, .long base, .long whole, .long signing, .long newP, .long newQ, .long modulus, .long order])), (sh, .inl (G.2.2.2.1, 6, .inr (.inl shares)))] H2 := hP
  have hD : va_D A [(k, .inr (1, [.ref sh, .ref ch, .int dealt, .long epoch, .long base, .long whole, .long signing, .long newP, .long newQ, .long modulus, .long order])), (sh, .inl (G.2.2.2.1, 6, .inr (.inl shares)))] := hD
  refine lv_aload_n hx hb d_KE_begin_10 rfl (lv_at hl 0 rfl) ?_
  refine lv_aload_n hx hb d_KE_begin_11 rfl (lv_at hl 0 rfl) ?_
  refine gf_KE_18 hg hw S hP 0 rfl rfl d_KE_begin_12 ?_
  refine lv_aload_n hx hb d_KE_begin_15 rfl (lv_at hl 0 rfl) ?_
  refine gf_KE_22 hg hw S hP 0 rfl rfl d_KE_begin_16 ?_
  refine lv_lmul hx hb d_KE_begin_19 ?_
  refine pf_KE_25 hg hw S hP hD hS 0 rfl rfl rfl (Nat.le_of_ble_eq_true rfl) d_KE_begin_20 (fun H3 L3 hP hD hS => ?_)
  have hP : va_P G.2.1 cl_all [(k, .inr (1, [.ref sh, .ref ch, .int dealt, .long epoch, .long base, .long whole, .long signing, .long newP, .long newQ, .long (newP * newQ), .long order])), (sh, .inl (G.2.2.2.1, 6, .inr (.inl shares)))] H3 := hP
  have hD : va_D A [(k, .inr (1, [.ref sh, .ref ch, .int dealt, .long epoch, .long base, .long whole, .long signing, .long newP, .long newQ, .long (newP * newQ), .long order])), (sh, .inl (G.2.2.2.1, 6, .inr (.inl shares)))] := hD
  refine lv_aload_n hx hb d_KE_begin_23 rfl (lv_at hl 0 rfl) ?_
  refine gf_KE_18 hg hw S hP 0 rfl rfl d_KE_begin_24 ?_
  refine lv_lconst (v := (1 : Int64)) hx hb d_KE_begin_27 (by decide) ?_
  refine lv_lsub hx hb d_KE_begin_28 ?_
  refine kc_KE_28 hg hw S d_KE_begin_29 ?_
  refine lv_ldiv hx hb d_KE_begin_32 (by decide) ?_
  refine lv_lstore hx hb d_KE_begin_33 hl (by decide) rfl (fun ls hl => ?_)
  have hl : lv_has ls 12 [(7, .long ((newP - (1 : Int64)) / (2 : Int64))), (0, .ref k), (1, .long newP), (3, .long newQ), (5, .long root)] := hl
  refine lv_aload_n hx hb d_KE_begin_35 rfl (lv_at hl 1 rfl) ?_
  refine gf_KE_22 hg hw S hP 0 rfl rfl d_KE_begin_36 ?_
  refine lv_lconst (v := (1 : Int64)) hx hb d_KE_begin_39 (by decide) ?_
  refine lv_lsub hx hb d_KE_begin_40 ?_
  refine kc_KE_28 hg hw S d_KE_begin_41 ?_
  refine lv_ldiv hx hb d_KE_begin_44 (by decide) ?_
  refine lv_lstore hx hb d_KE_begin_45 hl (by decide) rfl (fun ls hl => ?_)
  have hl : lv_has ls 12 [(9, .long ((newQ - (1 : Int64)) / (2 : Int64))), (7, .long ((newP - (1 : Int64)) / (2 : Int64))), (0, .ref k), (1, .long newP), (3, .long newQ), (5, .long root)] := hl
  refine lv_aload_n hx hb d_KE_begin_47 rfl (lv_at hl 2 rfl) ?_
  refine lv_lload hx hb d_KE_begin_48 (lv_at hl 1 rfl) ?_
  refine lv_lload hx hb d_KE_begin_50 (lv_at hl 0 rfl) ?_
  refine lv_lmul hx hb d_KE_begin_52 ?_
  refine pf_KE_30 hg hw S hP hD hS 0 rfl rfl rfl (Nat.le_of_ble_eq_true rfl) d_KE_begin_53 (fun H4 L4 hP hD hS => ?_)
  have hP : va_P G.2.1 cl_all [(k, .inr (1, [.ref sh, .ref ch, .int dealt, .long epoch, .long base, .long whole, .long signing, .long newP, .long newQ, .long (newP * newQ), .long (((newP - (1 : Int64)) / (2 : Int64)) * ((newQ - (1 : Int64)) / (2 : Int64)))])), (sh, .inl (G.2.2.2.1, 6, .inr (.inl shares)))] H4 := hP
  have hD : va_D A [(k, .inr (1, [.ref sh, .ref ch, .int dealt, .long epoch, .long base, .long whole, .long signing, .long newP, .long newQ, .long (newP * newQ), .long (((newP - (1 : Int64)) / (2 : Int64)) * ((newQ - (1 : Int64)) / (2 : Int64)))])), (sh, .inl (G.2.2.2.1, 6, .inr (.inl shares)))] := hD
  refine lv_aload_n hx hb d_KE_begin_56 rfl (lv_at hl 2 rfl) ?_
  refine kc_KE_33 hg hw S d_KE_begin_57 ?_
  refine lv_lload hx hb d_KE_begin_60 (lv_at hl 1 rfl) ?_
  refine lv_lconst (v := (1 : Int64)) hx hb d_KE_begin_62 (by decide) ?_
  refine lv_lsub hx hb d_KE_begin_63 ?_
  refine lv_lload hx hb d_KE_begin_64 (lv_at hl 0 rfl) ?_
  refine lv_lconst (v := (1 : Int64)) hx hb d_KE_begin_66 (by decide) ?_
  refine lv_lsub hx hb d_KE_begin_67 ?_
  refine lv_lmul hx hb d_KE_begin_68 ?_
  refine lv_lconst (v := (1 : Int64)) hx hb d_KE_begin_69 (by decide) ?_
  refine lv_lsub hx hb d_KE_begin_70 ?_
  refine kc_KE_28 hg hw S d_KE_begin_71 ?_
  refine lv_aload_n hx hb d_KE_begin_74 rfl (lv_at hl 2 rfl) ?_
  refine gf_KE_30 hg hw S hP 0 rfl rfl d_KE_begin_75 ?_
  refine lv_lmul hx hb d_KE_begin_78 ?_
  refine xg_read (xg_runSN (rest := [.ref k]) (kw := 1) si_KE_35 hg hw S (ct_ST_powerModulo l hg H4 (65537 : Int64) (((((newP - (1 : Int64)) / (2 : Int64)) - (1 : Int64)) * (((newQ - (1 : Int64)) / (2 : Int64)) - (1 : Int64))) - (1 : Int64)) ((2 : Int64) * (((newP - (1 : Int64)) / (2 : Int64)) * ((newQ - (1 : Int64)) / (2 : Int64)))) ) ⟨by decide, by decide, by decide, by decide⟩ rfl hl.1 rfl (Nat.le_of_ble_eq_true rfl) d_KE_begin_79) ?_
  refine pf_KE_39 hg hw S hP hD hS 0 rfl rfl rfl (Nat.le_of_ble_eq_true rfl) d_KE_begin_82 (fun H5 L5 hP hD hS => ?_)
  have hP : va_P G.2.1 cl_all [(k, .inr (1, [.ref sh, .ref ch, .int dealt, .long epoch, .long base, .long whole, .long (f_ST_powerModulo (65537 : Int64) (((((newP - (1 : Int64)) / (2 : Int64)) - (1 : Int64)) * (((newQ - (1 : Int64)) / (2 : Int64)) - (1 : Int64))) - (1 : Int64)) ((2 : Int64) * (((newP - (1 : Int64)) / (2 : Int64)) * ((newQ - (1 : Int64)) / (2 : Int64))))), .long newP, .long newQ, .long (newP * newQ), .long (((newP - (1 : Int64)) / (2 : Int64)) * ((newQ - (1 : Int64)) / (2 : Int64)))])), (sh, .inl (G.2.2.2.1, 6, .inr (.inl shares)))] H5 := hP
  have hD : va_D A [(k, .inr (1, [.ref sh, .ref ch, .int dealt, .long epoch, .long base, .long whole, .long (f_ST_powerModulo (65537 : Int64) (((((newP - (1 : Int64)) / (2 : Int64)) - (1 : Int64)) * (((newQ - (1 : Int64)) / (2 : Int64)) - (1 : Int64))) - (1 : Int64)) ((2 : Int64) * (((newP - (1 : Int64)) / (2 : Int64)) * ((newQ - (1 : Int64)) / (2 : Int64))))), .long newP, .long newQ, .long (newP * newQ), .long (((newP - (1 : Int64)) / (2 : Int64)) * ((newQ - (1 : Int64)) / (2 : Int64)))])), (sh, .inl (G.2.2.2.1, 6, .inr (.inl shares)))] := hD
  refine lv_aload_n hx hb d_KE_begin_85 rfl (lv_at hl 2 rfl) ?_
  refine lv_aload_n hx hb d_KE_begin_86 rfl (lv_at hl 2 rfl) ?_
  refine gf_KE_39 hg hw S hP 0 rfl rfl d_KE_begin_87 ?_
  refine lv_aload_n hx hb d_KE_begin_90 rfl (lv_at hl 2 rfl) ?_
  refine gf_KE_30 hg hw S hP 0 rfl rfl d_KE_begin_91 ?_
  refine xg_read (xg_runSN (rest := [.ref k]) (kw := 1) si_KE_42 hg hw S (ct_ST_rest l hg H5 (f_ST_powerModulo (65537 : Int64) (((((newP - (1 : Int64)) / (2 : Int64)) - (1 : Int64)) * (((newQ - (1 : Int64)) / (2 : Int64)) - (1 : Int64))) - (1 : Int64)) ((2 : Int64) * (((newP - (1 : Int64)) / (2 : Int64)) * ((newQ - (1 : Int64)) / (2 : Int64))))) (((newP - (1 : Int64)) / (2 : Int64)) * ((newQ - (1 : Int64)) / (2 : Int64))) ) ⟨by decide, by decide, by decide, by decide⟩ rfl hl.1 rfl (Nat.le_of_ble_eq_true rfl) d_KE_begin_94) ?_
  refine pf_KE_46 hg hw S hP hD hS 0 rfl rfl rfl (Nat.le_of_ble_eq_true rfl) d_KE_begin_97 (fun H6 L6 hP hD hS => ?_)
  have hP : va_P G.2.1 cl_all [(k, .inr (1, [.ref sh, .ref ch, .int dealt, .long epoch, .long base, .long (f_ST_rest (f_ST_powerModulo (65537 : Int64) (((((newP - (1 : Int64)) / (2 : Int64)) - (1 : Int64)) * (((newQ - (1 : Int64)) / (2 : Int64)) - (1 : Int64))) - (1 : Int64)) ((2 : Int64) * (((newP - (1 : Int64)) / (2 : Int64)) * ((newQ - (1 : Int64)) / (2 : Int64))))) (((newP - (1 : Int64)) / (2 : Int64)) * ((newQ - (1 : Int64)) / (2 : Int64)))), .long (f_ST_powerModulo (65537 : Int64) (((((newP - (1 : Int64)) / (2 : Int64)) - (1 : Int64)) * (((newQ - (1 : Int64)) / (2 : Int64)) - (1 : Int64))) - (1 : Int64)) ((2 : Int64) * (((newP - (1 : Int64)) / (2 : Int64)) * ((newQ - (1 : Int64)) / (2 : Int64))))), .long newP, .long newQ, .long (newP * newQ), .long (((newP - (1 : Int64)) / (2 : Int64)) * ((newQ - (1 : Int64)) / (2 : Int64)))])), (sh, .inl (G.2.2.2.1, 6, .inr (.inl shares)))] H6 := hP
  have hD : va_D A [(k, .inr (1, [.ref sh, .ref ch, .int dealt, .long epoch, .long base, .long (f_ST_rest (f_ST_powerModulo (65537 : Int64) (((((newP - (1 : Int64)) / (2 : Int64)) - (1 : Int64)) * (((newQ - (1 : Int64)) / (2 : Int64)) - (1 : Int64))) - (1 : Int64)) ((2 : Int64) * (((newP - (1 : Int64)) / (2 : Int64)) * ((newQ - (1 : Int64)) / (2 : Int64))))) (((newP - (1 : Int64)) / (2 : Int64)) * ((newQ - (1 : Int64)) / (2 : Int64)))), .long (f_ST_powerModulo (65537 : Int64) (((((newP - (1 : Int64)) / (2 : Int64)) - (1 : Int64)) * (((newQ - (1 : Int64)) / (2 : Int64)) - (1 : Int64))) - (1 : Int64)) ((2 : Int64) * (((newP - (1 : Int64)) / (2 : Int64)) * ((newQ - (1 : Int64)) / (2 : Int64))))), .long newP, .long newQ, .long (newP * newQ), .long (((newP - (1 : Int64)) / (2 : Int64)) * ((newQ - (1 : Int64)) / (2 : Int64)))])), (sh, .inl (G.2.2.2.1, 6, .inr (.inl shares)))] := hD
  refine lv_aload_n hx hb d_KE_begin_100 rfl (lv_at hl 2 rfl) ?_
  refine lv_lload hx hb d_KE_begin_101 (lv_at hl 5 rfl) ?_
  refine lv_lload hx hb d_KE_begin_103 (lv_at hl 5 rfl) ?_
  refine lv_lmul hx hb d_KE_begin_105 ?_
  refine lv_aload_n hx hb d_KE_begin_106 rfl (lv_at hl 2 rfl) ?_
  refine gf_KE_25 hg hw S hP 0 rfl rfl d_KE_begin_107 ?_
  refine xg_read (xg_runSN (rest := [.ref k]) (kw := 1) si_KE_42 hg hw S (ct_ST_rest l hg H6 (root * root) (newP * newQ) ) ⟨by decide, by decide, by decide, by decide⟩ rfl hl.1 rfl (Nat.le_of_ble_eq_true rfl) d_KE_begin_110) ?_
  refine pf_KE_49 hg hw S hP hD hS 0 rfl rfl rfl (Nat.le_of_ble_eq_true rfl) d_KE_begin_113 (fun H7 L7 hP hD hS => ?_)
  have hP : va_P G.2.1 cl_all [(k, .inr (1, [.ref sh, .ref ch, .int dealt, .long epoch, .long (f_ST_rest (root * root) (newP * newQ)), .long (f_ST_rest (f_ST_powerModulo (65537 : Int64) (((((newP - (1 : Int64)) / (2 : Int64)) - (1 : Int64)) * (((newQ - (1 : Int64)) / (2 : Int64)) - (1 : Int64))) - (1 : Int64)) ((2 : Int64) * (((newP - (1 : Int64)) / (2 : Int64)) * ((newQ - (1 : Int64)) / (2 : Int64))))) (((newP - (1 : Int64)) / (2 : Int64)) * ((newQ - (1 : Int64)) / (2 : Int64)))), .long (f_ST_powerModulo (65537 : Int64) (((((newP - (1 : Int64)) / (2 : Int64)) - (1 : Int64)) * (((newQ - (1 : Int64)) / (2 : Int64)) - (1 : Int64))) - (1 : Int64)) ((2 : Int64) * (((newP - (1 : Int64)) / (2 : Int64)) * ((newQ - (1 : Int64)) / (2 : Int64))))), .long newP, .long newQ, .long (newP * newQ), .long (((newP - (1 : Int64)) / (2 : Int64)) * ((newQ - (1 : Int64)) / (2 : Int64)))])), (sh, .inl (G.2.2.2.1, 6, .inr (.inl shares)))] H7 := hP
  have hD : va_D A [(k, .inr (1, [.ref sh, .ref ch, .int dealt, .long epoch, .long (f_ST_rest (root * root) (newP * newQ)), .long (f_ST_rest (f_ST_powerModulo (65537 : Int64) (((((newP - (1 : Int64)) / (2 : Int64)) - (1 : Int64)) * (((newQ - (1 : Int64)) / (2 : Int64)) - (1 : Int64))) - (1 : Int64)) ((2 : Int64) * (((newP - (1 : Int64)) / (2 : Int64)) * ((newQ - (1 : Int64)) / (2 : Int64))))) (((newP - (1 : Int64)) / (2 : Int64)) * ((newQ - (1 : Int64)) / (2 : Int64)))), .long (f_ST_powerModulo (65537 : Int64) (((((newP - (1 : Int64)) / (2 : Int64)) - (1 : Int64)) * (((newQ - (1 : Int64)) / (2 : Int64)) - (1 : Int64))) - (1 : Int64)) ((2 : Int64) * (((newP - (1 : Int64)) / (2 : Int64)) * ((newQ - (1 : Int64)) / (2 : Int64))))), .long newP, .long newQ, .long (newP * newQ), .long (((newP - (1 : Int64)) / (2 : Int64)) * ((newQ - (1 : Int64)) / (2 : Int64)))])), (sh, .inl (G.2.2.2.1, 6, .inr (.inl shares)))] := hD
  refine lv_aload_n hx hb d_KE_begin_116 rfl (lv_at hl 2 rfl) ?_
  refine lv_lconst (v := (0 : Int64)) hx hb d_KE_begin_117 (by decide) ?_
  refine pf_KE_52 hg hw S hP hD hS 0 rfl rfl rfl (Nat.le_of_ble_eq_true rfl) d_KE_begin_118 (fun H8 L8 hP hD hS => ?_)
  have hP : va_P G.2.1 cl_all [(k, .inr (1, [.ref sh, .ref ch, .int dealt, .long (0 : Int64), .long (f_ST_rest (root * root) (newP * newQ)), .long (f_ST_rest (f_ST_powerModulo (65537 : Int64) (((((newP - (1 : Int64)) / (2 : Int64)) - (1 : Int64)) * (((newQ - (1 : Int64)) / (2 : Int64)) - (1 : Int64))) - (1 : Int64)) ((2 : Int64) * (((newP - (1 : Int64)) / (2 : Int64)) * ((newQ - (1 : Int64)) / (2 : Int64))))) (((newP - (1 : Int64)) / (2 : Int64)) * ((newQ - (1 : Int64)) / (2 : Int64)))), .long (f_ST_powerModulo (65537 : Int64) (((((newP - (1 : Int64)) / (2 : Int64)) - (1 : Int64)) * (((newQ - (1 : Int64)) / (2 : Int64)) - (1 : Int64))) - (1 : Int64)) ((2 : Int64) * (((newP - (1 : Int64)) / (2 : Int64)) * ((newQ - (1 : Int64)) / (2 : Int64))))), .long newP, .long newQ, .long (newP * newQ), .long (((newP - (1 : Int64)) / (2 : Int64)) * ((newQ - (1 : Int64)) / (2 : Int64)))])), (sh, .inl (G.2.2.2.1, 6, .inr (.inl shares)))] H8 := hP
  have hD : va_D A [(k, .inr (1, [.ref sh, .ref ch, .int dealt, .long (0 : Int64), .long (f_ST_rest (root * root) (newP * newQ)), .long (f_ST_rest (f_ST_powerModulo (65537 : Int64) (((((newP - (1 : Int64)) / (2 : Int64)) - (1 : Int64)) * (((newQ - (1 : Int64)) / (2 : Int64)) - (1 : Int64))) - (1 : Int64)) ((2 : Int64) * (((newP - (1 : Int64)) / (2 : Int64)) * ((newQ - (1 : Int64)) / (2 : Int64))))) (((newP - (1 : Int64)) / (2 : Int64)) * ((newQ - (1 : Int64)) / (2 : Int64)))), .long (f_ST_powerModulo (65537 : Int64) (((((newP - (1 : Int64)) / (2 : Int64)) - (1 : Int64)) * (((newQ - (1 : Int64)) / (2 : Int64)) - (1 : Int64))) - (1 : Int64)) ((2 : Int64) * (((newP - (1 : Int64)) / (2 : Int64)) * ((newQ - (1 : Int64)) / (2 : Int64))))), .long newP, .long newQ, .long (newP * newQ), .long (((newP - (1 : Int64)) / (2 : Int64)) * ((newQ - (1 : Int64)) / (2 : Int64)))])), (sh, .inl (G.2.2.2.1, 6, .inr (.inl shares)))] := hD
  refine lv_aload_n hx hb d_KE_begin_121 rfl (lv_at hl 2 rfl) ?_
  refine lv_iconst (v := (1 : Int32)) hx hb d_KE_begin_122 (by decide) ?_
  refine pf_KE_55 hg hw S hP hD hS 0 rfl rfl rfl (Nat.le_of_ble_eq_true rfl) d_KE_begin_123 (fun H9 L9 hP hD hS => ?_)
  have hP : va_P G.2.1 cl_all [(k, .inr (1, [.ref sh, .ref ch, .int (1 : Int32), .long (0 : Int64), .long (f_ST_rest (root * root) (newP * newQ)), .long (f_ST_rest (f_ST_powerModulo (65537 : Int64) (((((newP - (1 : Int64)) / (2 : Int64)) - (1 : Int64)) * (((newQ - (1 : Int64)) / (2 : Int64)) - (1 : Int64))) - (1 : Int64)) ((2 : Int64) * (((newP - (1 : Int64)) / (2 : Int64)) * ((newQ - (1 : Int64)) / (2 : Int64))))) (((newP - (1 : Int64)) / (2 : Int64)) * ((newQ - (1 : Int64)) / (2 : Int64)))), .long (f_ST_powerModulo (65537 : Int64) (((((newP - (1 : Int64)) / (2 : Int64)) - (1 : Int64)) * (((newQ - (1 : Int64)) / (2 : Int64)) - (1 : Int64))) - (1 : Int64)) ((2 : Int64) * (((newP - (1 : Int64)) / (2 : Int64)) * ((newQ - (1 : Int64)) / (2 : Int64))))), .long newP, .long newQ, .long (newP * newQ), .long (((newP - (1 : Int64)) / (2 : Int64)) * ((newQ - (1 : Int64)) / (2 : Int64)))])), (sh, .inl (G.2.2.2.1, 6, .inr (.inl shares)))] H9 := hP
  have hD : va_D A [(k, .inr (1, [.ref sh, .ref ch, .int (1 : Int32), .long (0 : Int64), .long (f_ST_rest (root * root) (newP * newQ)), .long (f_ST_rest (f_ST_powerModulo (65537 : Int64) (((((newP - (1 : Int64)) / (2 : Int64)) - (1 : Int64)) * (((newQ - (1 : Int64)) / (2 : Int64)) - (1 : Int64))) - (1 : Int64)) ((2 : Int64) * (((newP - (1 : Int64)) / (2 : Int64)) * ((newQ - (1 : Int64)) / (2 : Int64))))) (((newP - (1 : Int64)) / (2 : Int64)) * ((newQ - (1 : Int64)) / (2 : Int64)))), .long (f_ST_powerModulo (65537 : Int64) (((((newP - (1 : Int64)) / (2 : Int64)) - (1 : Int64)) * (((newQ - (1 : Int64)) / (2 : Int64)) - (1 : Int64))) - (1 : Int64)) ((2 : Int64) * (((newP - (1 : Int64)) / (2 : Int64)) * ((newQ - (1 : Int64)) / (2 : Int64))))), .long newP, .long newQ, .long (newP * newQ), .long (((newP - (1 : Int64)) / (2 : Int64)) * ((newQ - (1 : Int64)) / (2 : Int64)))])), (sh, .inl (G.2.2.2.1, 6, .inr (.inl shares)))] := hD
  refine lv_iconst (v := (0 : Int32)) hx hb d_KE_begin_126 (by decide) ?_
  refine lv_istore hx hb d_KE_begin_127 hl (by decide) rfl (fun ls hl => ?_)
  have hl : lv_has ls 12 [(11, .int (0 : Int32)), (9, .long ((newQ - (1 : Int64)) / (2 : Int64))), (7, .long ((newP - (1 : Int64)) / (2 : Int64))), (0, .ref k), (1, .long newP), (3, .long newQ), (5, .long root)] := hl
  subst hr0
  subst hr1
  subst hr2
  subst hr3
  subst hr4
  subst hr5
  subst hr6
  subst hr7
  subst hr8
  exact wl_KE_begin_129 (k := k) (newP := newP) (newQ := newQ) (root := root) (sh := sh) (ch := ch) (dealt := dealt) (epoch := epoch) (base := base) (whole := whole) (signing := signing) (pp := pp) (qq := qq) (modulus := modulus) (order := order) (shares := shares) hg hw S hl0 ht hA  7 (0 : Int32) shares r9 ls H9 L9 hr9 (by decide) (lv_sub hl [0, 1, 2, 3, 4, 5, 6] rfl) hP hD hS
def lf_KE_addPolynomial_3_0 (a : Int64) (b : Int64) (base : Int64) (modulus : Int64) (order : Int64) (shares : Nat → Int64) (checks : Nat → Int64) : Nat → Int32 → (Nat → Int64) → (Nat → Int64) → (Nat → Int64)
  | 0, _, _, _ => fun _ => 0
  | n + 1, i, shv, chv => if (6 : Int32) ≤ i then shv else (lf_KE_addPolynomial_3_0 a b base modulus order shares checks n (i + (1 : Int32)) (vp_updL shv i.toNatClampNeg (f_ST_rest (((shv i.toNatClampNeg) + (a * ((i + (1 : Int32)).toInt64))) + ((b * ((i + (1 : Int32)).toInt64)) * ((i + (1 : Int32)).toInt64))) order)) (vp_updL chv i.toNatClampNeg (f_KE_power base ((vp_updL shv i.toNatClampNeg (f_ST_rest (((shv i.toNatClampNeg) + (a * ((i + (1 : Int32)).toInt64))) + ((b * ((i + (1 : Int32)).toInt64)) * ((i + (1 : Int32)).toInt64))) order)) i.toNatClampNeg) modulus)))
def lf_KE_addPolynomial_3_1 (a : Int64) (b : Int64) (base : Int64) (modulus : Int64) (order : Int64) (shares : Nat → Int64) (checks : Nat → Int64) : Nat → Int32 → (Nat → Int64) → (Nat → Int64) → (Nat → Int64)
  | 0, _, _, _ => fun _ => 0
  | n + 1, i, shv, chv => if (6 : Int32) ≤ i then chv else (lf_KE_addPolynomial_3_1 a b base modulus order shares checks n (i + (1 : Int32)) (vp_updL shv i.toNatClampNeg (f_ST_rest (((shv i.toNatClampNeg) + (a * ((i + (1 : Int32)).toInt64))) + ((b * ((i + (1 : Int32)).toInt64)) * ((i + (1 : Int32)).toInt64))) order)) (vp_updL chv i.toNatClampNeg (f_KE_power base ((vp_updL shv i.toNatClampNeg (f_ST_rest (((shv i.toNatClampNeg) + (a * ((i + (1 : Int32)).toInt64))) + ((b * ((i + (1 : Int32)).toInt64)) * ((i + (1 : Int32)).toInt64))) order)) i.toNatClampNeg) modulus)))
def f_KE_addPolynomial_SH (a : Int64) (b : Int64) (base : Int64) (modulus : Int64) (order : Int64) (shares : Nat → Int64) (checks : Nat → Int64) : Nat → Int64 := lf_KE_addPolynomial_3_0 a b base modulus order shares checks 7 (0 : Int32) shares checks
def f_KE_addPolynomial_CH (a : Int64) (b : Int64) (base : Int64) (modulus : Int64) (order : Int64) (shares : Nat → Int64) (checks : Nat → Int64) : Nat → Int64 := lf_KE_addPolynomial_3_1 a b base modulus order shares checks 7 (0 : Int32) shares checks
set_option maxHeartbeats 4000000 in
set_option maxRecDepth 100000 in
theorem wl_KE_addPolynomial_3 {p : Program} {l : Launch} {e : Env} {s : State} {m : MethodId} {args : Array Value} {below : List Frame} {meth : Method} {c : Code} {G : xg_G} {A : Nat → Prop} {k : Nat} {a : Int64} {b : Int64} {sh : Nat} {ch : Nat} {dealt : Int32} {epoch : Int64} {base : Int64} {whole : Int64} {signing : Int64} {pp : Int64} {qq : Int64} {modulus : Int64} {order : Int64} {shares : Nat → Int64} {checks : Nat → Int64} (hg : xg_F G) (hw : G.1.WarmedH s.vm) (S : xc_Fix p m c b_KE_addPolynomial 8 s "SealTrust$Key") (hl0 : meth.locks = false) (ht : meth.sig.returnType = none) (hA : ∀ q, s.heap.size ≤ q → A q)  : ∀ (n : Nat) (i : Int32) (shv : Nat → Int64) (chv : Nat → Int64) (r0 : Nat → Int64) (r1 : Nat → Int64) (ls : Array Slot) (H9 : Heap) (L9 : List Loc), lf_KE_addPolynomial_3_0 a b base modulus order shares checks n i shv chv = r0 → lf_KE_addPolynomial_3_1 a b base modulus order shares checks n i shv chv = r1 → (0 ≤ i.toInt ∧ ((6 : Int32).toInt - i.toInt).toNat < n) → lv_has ls 8 [(5, .int i), (0, .ref k), (1, .long a), (3, .long b)] → va_P G.2.1 cl_all [(k, .inr (1, [.ref sh, .ref ch, .int dealt, .long epoch, .long base, .long whole, .long signing, .long pp, .long qq, .long modulus, .long order])), (sh, .inl (G.2.2.2.1, 6, .inr (.inl shv))), (ch, .inl (G.2.2.2.1, 6, .inr (.inl chv)))] H9 → va_D A [(k, .inr (1, [.ref sh, .ref ch, .int dealt, .long epoch, .long base, .long whole, .long signing, .long pp, .long qq, .long modulus, .long order])), (sh, .inl (G.2.2.2.1, 6, .inr (.inl shv))), (ch, .inl (G.2.2.2.1, 6, .inr (.inl chv)))] → va_S A s.heap H9 L9 → W p l e ({ frames := 3, cells := 0, slots := 0, locals := 59 } : Room) s m args below meth c H9 L9 0 0 (xw_Z G below A none [(k, .inr (1, [.ref sh, .ref ch, .int dealt, .long epoch, .long base, .long whole, .long signing, .long pp, .long qq, .long modulus, .long order])), (sh, .inl (G.2.2.2.1, 6, .inr (.inl r0))), (ch, .inl (G.2.2.2.1, 6, .inr (.inl r1)))] args s 0 0) (F0 m 3 ls []) := by
  have hx := S.1
  have hb := S.2.1
  intro n
  induction n with
  | zero =>
    intro i shv chv r0 r1 ls H9 L9 hr0 hr1 hmu
    omega
  | succ n ih =>
    intro i shv chv r0 r1 ls H9 L9 hr0 hr1 hmu hl hP hD hS
    rw [lf_KE_addPolynomial_3_0] at hr0
    rw [lf_KE_addPolynomial_3_1] at hr1
    refine lv_iload hx hb d_KE_addPolynomial_3 (lv_at hl 0 rfl) ?_
    refine lv_bipush (v := (6 : Int32)) hx hb d_KE_addPolynomial_5 (by decide) ?_
    refine lv_icmp_ge hx hb d_KE_addPolynomial_7 (tgt := 79) (by decide) (fun h7 => ?_) (fun h7 => ?_)
    · rw [if_pos h7] at hr0
      rw [if_pos h7] at hr1
      subst hr0
      subst hr1
      exact xw_vret hx hb ht hl0 hP hD hS d_KE_addPolynomial_79
    · rw [if_neg h7] at hr0
      rw [if_neg h7] at hr1
      refine lv_iload hx hb d_KE_addPolynomial_10 (lv_at hl 0 rfl) ?_
      refine lv_iconst (v := (1 : Int32)) hx hb d_KE_addPolynomial_12 (by decide) ?_
      refine lv_iadd hx hb d_KE_addPolynomial_13 ?_
      refine lv_i2l hx hb d_KE_addPolynomial_14 rfl ?_
      refine lv_lstore hx hb d_KE_addPolynomial_15 hl (by decide) rfl (fun ls hl => ?_)
      have hl : lv_has ls 8 [(6, .long ((i + (1 : Int32)).toInt64)), (5, .int i), (0, .ref k), (1, .long a), (3, .long b)] := hl
      refine lv_aload_n hx hb d_KE_addPolynomial_17 rfl (lv_at hl 2 rfl) ?_
      refine gf_KE_9 hg hw S hP 0 rfl rfl d_KE_addPolynomial_18 ?_
      refine lv_iload hx hb d_KE_addPolynomial_21 (lv_at hl 1 rfl) ?_
      refine lv_aload_n hx hb d_KE_addPolynomial_23 rfl (lv_at hl 2 rfl) ?_
      refine gf_KE_9 hg hw S hP 0 rfl rfl d_KE_addPolynomial_24 ?_
      refine lv_iload hx hb d_KE_addPolynomial_27 (lv_at hl 1 rfl) ?_
      refine va_lald hx hb (xg_k hg hw) hP 1 1 rfl rfl (xi_in h7 hmu.1 (by decide)) d_KE_addPolynomial_29 ?_
      refine lv_lload_n hx hb d_KE_addPolynomial_30 rfl (lv_at hl 3 rfl) ?_
      refine lv_lload hx hb d_KE_addPolynomial_31 (lv_at hl 0 rfl) ?_
      refine lv_lmul hx hb d_KE_addPolynomial_33 ?_
      refine lv_ladd hx hb d_KE_addPolynomial_34 ?_
      refine lv_lload_n hx hb d_KE_addPolynomial_35 rfl (lv_at hl 4 rfl) ?_
      refine lv_lload hx hb d_KE_addPolynomial_36 (lv_at hl 0 rfl) ?_
      refine lv_lmul hx hb d_KE_addPolynomial_38 ?_
      refine lv_lload hx hb d_KE_addPolynomial_39 (lv_at hl 0 rfl) ?_
      refine lv_lmul hx hb d_KE_addPolynomial_41 ?_
      refine lv_ladd hx hb d_KE_addPolynomial_42 ?_
      refine lv_aload_n hx hb d_KE_addPolynomial_43 rfl (lv_at hl 2 rfl) ?_
      refine gf_KE_30 hg hw S hP 0 rfl rfl d_KE_addPolynomial_44 ?_
      refine xg_read (xg_runSN (rest := [.int i, .ref sh]) (kw := 2) si_KE_42 hg hw S (ct_ST_rest l hg H9 (((shv i.toNatClampNeg) + (a * ((i + (1 : Int32)).toInt64))) + ((b * ((i + (1 : Int32)).toInt64)) * ((i + (1 : Int32)).toInt64))) order ) ⟨by decide, by decide, by decide, by decide⟩ rfl hl.1 rfl (Nat.le_of_ble_eq_true rfl) d_KE_addPolynomial_47) ?_
      refine va_last hx hb (xg_k hg hw) hP hD hS 1 1 rfl rfl (xi_in h7 hmu.1 (by decide)) d_KE_addPolynomial_50 (fun H1 L1 hP hD hS => ?_)
      have hP : va_P G.2.1 cl_all [(k, .inr (1, [.ref sh, .ref ch, .int dealt, .long epoch, .long base, .long whole, .long signing, .long pp, .long qq, .long modulus, .long order])), (sh, .inl (G.2.2.2.1, 6, .inr (.inl (vp_updL shv i.toNatClampNeg (f_ST_rest (((shv i.toNatClampNeg) + (a * ((i + (1 : Int32)).toInt64))) + ((b * ((i + (1 : Int32)).toInt64)) * ((i + (1 : Int32)).toInt64))) order))))), (ch, .inl (G.2.2.2.1, 6, .inr (.inl chv)))] H1 := hP
      have hD : va_D A [(k, .inr (1, [.ref sh, .ref ch, .int dealt, .long epoch, .long base, .long whole, .long signing, .long pp, .long qq, .long modulus, .long order])), (sh, .inl (G.2.2.2.1, 6, .inr (.inl (vp_updL shv i.toNatClampNeg (f_ST_rest (((shv i.toNatClampNeg) + (a * ((i + (1 : Int32)).toInt64))) + ((b * ((i + (1 : Int32)).toInt64)) * ((i + (1 : Int32)).toInt64))) order))))), (ch, .inl (G.2.2.2.1, 6, .inr (.inl chv)))] := hD
      refine lv_aload_n hx hb d_KE_addPolynomial_51 rfl (lv_at hl 2 rfl) ?_
      refine gf_KE_15 hg hw S hP 0 rfl rfl d_KE_addPolynomial_52 ?_
      refine lv_iload hx hb d_KE_addPolynomial_55 (lv_at hl 1 rfl) ?_
      refine lv_aload_n hx hb d_KE_addPolynomial_57 rfl (lv_at hl 2 rfl) ?_
      refine lv_aload_n hx hb d_KE_addPolynomial_58 rfl (lv_at hl 2 rfl) ?_
      refine gf_KE_49 hg hw S hP 0 rfl rfl d_KE_addPolynomial_59 ?_
      refine lv_aload_n hx hb d_KE_addPolynomial_62 rfl (lv_at hl 2 rfl) ?_
      refine gf_KE_9 hg hw S hP 0 rfl rfl d_KE_addPolynomial_63 ?_
      refine lv_iload hx hb d_KE_addPolynomial_66 (lv_at hl 1 rfl) ?_
      refine va_lald hx hb (xg_k hg hw) hP 1 1 rfl rfl (xi_in h7 hmu.1 (by decide)) d_KE_addPolynomial_68 ?_
      refine xg_read (xg_runV (rest := [.int i, .ref ch]) (kw := 2) si_KE_59 hg hw S (va_recv (xg_k hg hw) hP (ci := 1) rfl (q0 := 0) rfl) (ct_KE_power l hg H1 k base ((vp_updL shv i.toNatClampNeg (f_ST_rest (((shv i.toNatClampNeg) + (a * ((i + (1 : Int32)).toInt64))) + ((b * ((i + (1 : Int32)).toInt64)) * ((i + (1 : Int32)).toInt64))) order)) i.toNatClampNeg) sh ch dealt epoch base whole signing pp qq modulus order (hP.sub [0] rfl) ) ⟨by decide, by decide, by decide, by decide⟩ rfl hl.1 rfl (Nat.le_of_ble_eq_true rfl) d_KE_addPolynomial_69) ?_
      refine va_last hx hb (xg_k hg hw) hP hD hS 2 1 rfl rfl (xi_in h7 hmu.1 (by decide)) d_KE_addPolynomial_72 (fun H2 L2 hP hD hS => ?_)
      have hP : va_P G.2.1 cl_all [(k, .inr (1, [.ref sh, .ref ch, .int dealt, .long epoch, .long base, .long whole, .long signing, .long pp, .long qq, .long modulus, .long order])), (sh, .inl (G.2.2.2.1, 6, .inr (.inl (vp_updL shv i.toNatClampNeg (f_ST_rest (((shv i.toNatClampNeg) + (a * ((i + (1 : Int32)).toInt64))) + ((b * ((i + (1 : Int32)).toInt64)) * ((i + (1 : Int32)).toInt64))) order))))), (ch, .inl (G.2.2.2.1, 6, .inr (.inl (vp_updL chv i.toNatClampNeg (f_KE_power base ((vp_updL shv i.toNatClampNeg (f_ST_rest (((shv i.toNatClampNeg) + (a * ((i + (1 : Int32)).toInt64))) + ((b * ((i + (1 : Int32)).toInt64)) * ((i + (1 : Int32)).toInt64))) order)) i.toNatClampNeg) modulus)))))] H2 := hP
      have hD : va_D A [(k, .inr (1, [.ref sh, .ref ch, .int dealt, .long epoch, .long base, .long whole, .long signing, .long pp, .long qq, .long modulus, .long order])), (sh, .inl (G.2.2.2.1, 6, .inr (.inl (vp_updL shv i.toNatClampNeg (f_ST_rest (((shv i.toNatClampNeg) + (a * ((i + (1 : Int32)).toInt64))) + ((b * ((i + (1 : Int32)).toInt64)) * ((i + (1 : Int32)).toInt64))) order))))), (ch, .inl (G.2.2.2.1, 6, .inr (.inl (vp_updL chv i.toNatClampNeg (f_KE_power base ((vp_updL shv i.toNatClampNeg (f_ST_rest (((shv i.toNatClampNeg) + (a * ((i + (1 : Int32)).toInt64))) + ((b * ((i + (1 : Int32)).toInt64)) * ((i + (1 : Int32)).toInt64))) order)) i.toNatClampNeg) modulus)))))] := hD
      refine lv_iinc (v := i + (1 : Int32)) hx hb d_KE_addPolynomial_73 hl (k := 1) rfl rfl (by decide) rfl (fun ls hl => ?_)
      have hl : lv_has ls 8 [(5, .int (i + (1 : Int32))), (6, .long ((i + (1 : Int32)).toInt64)), (0, .ref k), (1, .long a), (3, .long b)] := hl
      refine lv_goto hx hb d_KE_addPolynomial_76 (tgt := 3) (by decide) ?_
      exact ih (i + (1 : Int32)) (vp_updL shv i.toNatClampNeg (f_ST_rest (((shv i.toNatClampNeg) + (a * ((i + (1 : Int32)).toInt64))) + ((b * ((i + (1 : Int32)).toInt64)) * ((i + (1 : Int32)).toInt64))) order)) (vp_updL chv i.toNatClampNeg (f_KE_power base ((vp_updL shv i.toNatClampNeg (f_ST_rest (((shv i.toNatClampNeg) + (a * ((i + (1 : Int32)).toInt64))) + ((b * ((i + (1 : Int32)).toInt64)) * ((i + (1 : Int32)).toInt64))) order)) i.toNatClampNeg) modulus)) r0 r1 ls H2 L2 hr0 hr1 (xi_up0 h7 hmu) (lv_sub hl [0, 2, 3, 4] rfl) hP hD hS
set_option maxHeartbeats 4000000 in
set_option maxRecDepth 100000 in
theorem ct_KE_addPolynomial (l : Launch) {G : xg_G} (hg : xg_F G) (H : Heap) (k : Nat) (a : Int64) (b : Int64) (sh : Nat) (ch : Nat) (dealt : Int32) (epoch : Int64) (base : Int64) (whole : Int64) (signing : Int64) (pp : Int64) (qq : Int64) (modulus : Int64) (order : Int64) (shares : Nat → Int64) (checks : Nat → Int64) (hP : va_P G.2.1 cl_all [(k, .inr (1, [.ref sh, .ref ch, .int dealt, .long epoch, .long base, .long whole, .long signing, .long pp, .long qq, .long modulus, .long order])), (sh, .inl (G.2.2.2.1, 6, .inr (.inl shares))), (ch, .inl (G.2.2.2.1, 6, .inr (.inl checks)))] H) (hD0 : va_D (fun _ => True) [(k, .inr (1, [.ref sh, .ref ch, .int dealt, .long epoch, .long base, .long whole, .long signing, .long pp, .long qq, .long modulus, .long order])), (sh, .inl (G.2.2.2.1, 6, .inr (.inl shares))), (ch, .inl (G.2.2.2.1, 6, .inr (.inl checks)))])  : xc_Met l y_KE_addPolynomial (.code y_KE_addPolynomial b_KE_addPolynomial 8 none) ({ frames := 3, cells := 0, slots := 0, locals := 59 } : Room) (xg_Pc G [.ref k, .long a, .long b] H) (xw_post G (va_A [(k, .inr (1, [.ref sh, .ref ch, .int dealt, .long epoch, .long base, .long whole, .long signing, .long pp, .long qq, .long modulus, .long order])), (sh, .inl (G.2.2.2.1, 6, .inr (.inl shares))), (ch, .inl (G.2.2.2.1, 6, .inr (.inl checks)))] H.size) none [(k, .inr (1, [.ref sh, .ref ch, .int dealt, .long epoch, .long base, .long whole, .long signing, .long pp, .long qq, .long modulus, .long order])), (sh, .inl (G.2.2.2.1, 6, .inr (.inl (f_KE_addPolynomial_SH a b base modulus order shares checks)))), (ch, .inl (G.2.2.2.1, 6, .inr (.inl (f_KE_addPolynomial_CH a b base modulus order shares checks))))]) (va_A [(k, .inr (1, [.ref sh, .ref ch, .int dealt, .long epoch, .long base, .long whole, .long signing, .long pp, .long qq, .long modulus, .long order])), (sh, .inl (G.2.2.2.1, 6, .inr (.inl shares))), (ch, .inl (G.2.2.2.1, 6, .inr (.inl checks)))] H.size) := by
  refine xc_ofW (by decide) ?_
  intro p e s m args below meth c s₁ B hml hE hv
  obtain ⟨rfl, rfl, hw⟩ := hv
  have hx := B.exec
  have hb := B.bytes
  have ht := B.returns
  have hl0 := B.notSynchronized
  have S : xc_Fix p m c b_KE_addPolynomial 8 s "SealTrust$Key" := ⟨hx, hb, hml, findClass_of_methodNamed B.named⟩
  have hD := hD0.self (sz := s.heap.size)
  generalize hAe : va_A [(k, .inr (1, [.ref sh, .ref ch, .int dealt, .long epoch, .long base, .long whole, .long signing, .long pp, .long qq, .long modulus, .long order])), (sh, .inl (G.2.2.2.1, 6, .inr (.inl shares))), (ch, .inl (G.2.2.2.1, 6, .inr (.inl checks)))] s.heap.size = A at hD ⊢
  have hA : ∀ q : Nat, s.heap.size ≤ q → A q := fun q h => by rw [← hAe]; exact Or.inr h
  have hS : va_S A s.heap s.heap [] := va_S.rf
  have hl := lv_entry ([.ref k, .long a, .long b]) (n := 8) (Nat.le_of_ble_eq_true rfl)
  rw [lg_entry_eq]
  generalize (lg_sl ([.ref k, .long a, .long b]) ++ List.replicate (8 - (lg_sl ([.ref k, .long a, .long b])).length) Slot.unset).toArray = ls at hl ⊢
  have hl : lv_has ls 8 [(0, .ref k), (1, .long a), (3, .long b)] := hl
  obtain ⟨r0, hr0⟩ : ∃ r, f_KE_addPolynomial_SH a b base modulus order shares checks = r := ⟨_, rfl⟩
  rw [hr0]
  unfold f_KE_addPolynomial_SH at hr0
  obtain ⟨r1, hr1⟩ : ∃ r, f_KE_addPolynomial_CH a b base modulus order shares checks = r := ⟨_, rfl⟩
  rw [hr1]
  unfold f_KE_addPolynomial_CH at hr1
  refine lv_iconst (v := (0 : Int32)) hx hb d_KE_addPolynomial_0 (by decide) ?_
  refine lv_istore hx hb d_KE_addPolynomial_1 hl (by decide) rfl (fun ls hl => ?_)
  have hl : lv_has ls 8 [(5, .int (0 : Int32)), (0, .ref k), (1, .long a), (3, .long b)] := hl
  exact wl_KE_addPolynomial_3 (k := k) (a := a) (b := b) (sh := sh) (ch := ch) (dealt := dealt) (epoch := epoch) (base := base) (whole := whole) (signing := signing) (pp := pp) (qq := qq) (modulus := modulus) (order := order) (shares := shares) (checks := checks) hg hw S hl0 ht hA  7 (0 : Int32) shares checks r0 r1 ls s.heap [] hr0 hr1 (by decide) (lv_sub hl [0, 1, 2, 3] rfl) hP hD hS
def f_KE_makePartial_PW (trustee : Int32) (shares : Nat → Int64) (block : Int64) (epoch : Int64) (base : Int64) (checks : Nat → Int64) (modulus : Int64) (powers : Nat → Int64) : Nat → Int64 := f_MO_takePartial_PW trustee (f_KE_power block ((1440 : Int64) * (shares trustee.toNatClampNeg)) modulus) powers
def f_KE_makePartial_CG (trustee : Int32) (shares : Nat → Int64) (block : Int64) (epoch : Int64) (base : Int64) (checks : Nat → Int64) (modulus : Int64) (challenges : Nat → Int32) : Nat → Int32 := f_MO_takePartial_CG trustee (f_KE_challenge trustee (f_KE_power block (2880 : Int64) modulus) (f_KE_times (f_KE_power block ((1440 : Int64) * (shares trustee.toNatClampNeg)) modulus) (f_KE_power block ((1440 : Int64) * (shares trustee.toNatClampNeg)) modulus) modulus) (f_KE_power base (f_ST_mixOf (f_ST_mixIn (f_ST_mixIn (f_ST_mixIn (7 : Int64) (shares trustee.toNatClampNeg)) block) epoch)) modulus) (f_KE_power (f_KE_power block (2880 : Int64) modulus) (f_ST_mixOf (f_ST_mixIn (f_ST_mixIn (f_ST_mixIn (7 : Int64) (shares trustee.toNatClampNeg)) block) epoch)) modulus) base checks) challenges
def f_KE_makePartial_AN (trustee : Int32) (shares : Nat → Int64) (block : Int64) (epoch : Int64) (base : Int64) (checks : Nat → Int64) (modulus : Int64) (answers : Nat → Int64) : Nat → Int64 := f_MO_takePartial_AN trustee (((shares trustee.toNatClampNeg) * ((f_KE_challenge trustee (f_KE_power block (2880 : Int64) modulus) (f_KE_times (f_KE_power block ((1440 : Int64) * (shares trustee.toNatClampNeg)) modulus) (f_KE_power block ((1440 : Int64) * (shares trustee.toNatClampNeg)) modulus) modulus) (f_KE_power base (f_ST_mixOf (f_ST_mixIn (f_ST_mixIn (f_ST_mixIn (7 : Int64) (shares trustee.toNatClampNeg)) block) epoch)) modulus) (f_KE_power (f_KE_power block (2880 : Int64) modulus) (f_ST_mixOf (f_ST_mixIn (f_ST_mixIn (f_ST_mixIn (7 : Int64) (shares trustee.toNatClampNeg)) block) epoch)) modulus) base checks).toInt64)) + (f_ST_mixOf (f_ST_mixIn (f_ST_mixIn (f_ST_mixIn (7 : Int64) (shares trustee.toNatClampNeg)) block) epoch))) answers
def f_KE_makePartial_partials (trustee : Int32) (partials : Int32) : Int32 := f_MO_takePartial_partials trustee partials
set_option maxHeartbeats 4000000 in
set_option maxRecDepth 100000 in
theorem ct_KE_makePartial (l : Launch) {G : xg_G} (hg : xg_F G) (H : Heap) (k : Nat) (mo : Nat) (trustee : Int32) (sh : Nat) (ch : Nat) (dealt : Int32) (epoch : Int64) (base : Int64) (whole : Int64) (signing : Int64) (pp : Int64) (qq : Int64) (modulus : Int64) (order : Int64) (shares : Nat → Int64) (checks : Nat → Int64) (pw : Nat) (cg : Nat) (an : Nat) (standing : Int32) (block : Int64) (partials : Int32) (objections : Int32) (signature : Int64) (powers : Nat → Int64) (challenges : Nat → Int32) (answers : Nat → Int64) (hP : va_P G.2.1 cl_all [(k, .inr (1, [.ref sh, .ref ch, .int dealt, .long epoch, .long base, .long whole, .long signing, .long pp, .long qq, .long modulus, .long order])), (sh, .inl (G.2.2.2.1, 6, .inr (.inl shares))), (ch, .inl (G.2.2.2.1, 6, .inr (.inl checks))), (mo, .inr (2, [.ref pw, .ref cg, .ref an, .int standing, .long block, .int partials, .int objections, .long signature])), (pw, .inl (G.2.2.2.1, 6, .inr (.inl powers))), (cg, .inl (G.2.2.1, 6, .inl challenges)), (an, .inl (G.2.2.2.1, 6, .inr (.inl answers)))] H) (hD0 : va_D (fun _ => True) [(k, .inr (1, [.ref sh, .ref ch, .int dealt, .long epoch, .long base, .long whole, .long signing, .long pp, .long qq, .long modulus, .long order])), (sh, .inl (G.2.2.2.1, 6, .inr (.inl shares))), (ch, .inl (G.2.2.2.1, 6, .inr (.inl checks))), (mo, .inr (2, [.ref pw, .ref cg, .ref an, .int standing, .long block, .int partials, .int objections, .long signature])), (pw, .inl (G.2.2.2.1, 6, .inr (.inl powers))), (cg, .inl (G.2.2.1, 6, .inl challenges)), (an, .inl (G.2.2.2.1, 6, .inr (.inl answers)))]) (hT : vp_in trustee 6) : xc_Met l y_KE_makePartial (.code y_KE_makePartial b_KE_makePartial 14 none) ({ frames := 3, cells := 0, slots := 0, locals := 65 } : Room) (xg_Pc G [.ref k, .ref mo, .int trustee] H) (xw_post G (va_A [(k, .inr (1, [.ref sh, .ref ch, .int dealt, .long epoch, .long base, .long whole, .long signing, .long pp, .long qq, .long modulus, .long order])), (sh, .inl (G.2.2.2.1, 6, .inr (.inl shares))), (ch, .inl (G.2.2.2.1, 6, .inr (.inl checks))), (mo, .inr (2, [.ref pw, .ref cg, .ref an, .int standing, .long block, .int partials, .int objections, .long signature])), (pw, .inl (G.2.2.2.1, 6, .inr (.inl powers))), (cg, .inl (G.2.2.1, 6, .inl challenges)), (an, .inl (G.2.2.2.1, 6, .inr (.inl answers)))] H.size) none [(k, .inr (1, [.ref sh, .ref ch, .int dealt, .long epoch, .long base, .long whole, .long signing, .long pp, .long qq, .long modulus, .long order])), (sh, .inl (G.2.2.2.1, 6, .inr (.inl shares))), (ch, .inl (G.2.2.2.1, 6, .inr (.inl checks))), (mo, .inr (2, [.ref pw, .ref cg, .ref an, .int standing, .long block, .int (f_KE_makePartial_partials trustee partials), .int objections, .long signature])), (pw, .inl (G.2.2.2.1, 6, .inr (.inl (f_KE_makePartial_PW trustee shares block epoch base checks modulus powers)))), (cg, .inl (G.2.2.1, 6, .inl (f_KE_makePartial_CG trustee shares block epoch base checks modulus challenges))), (an, .inl (G.2.2.2.1, 6, .inr (.inl (f_KE_makePartial_AN trustee shares block epoch base checks modulus answers))))]) (va_A [(k, .inr (1, [.ref sh, .ref ch, .int dealt, .long epoch, .long base, .long whole, .long signing, .long pp, .long qq, .long modulus, .long order])), (sh, .inl (G.2.2.2.1, 6, .inr (.inl shares))), (ch, .inl (G.2.2.2.1, 6, .inr (.inl checks))), (mo, .inr (2, [.ref pw, .ref cg, .ref an, .int standing, .long block, .int partials, .int objections, .long signature])), (pw, .inl (G.2.2.2.1, 6, .inr (.inl powers))), (cg, .inl (G.2.2.1, 6, .inl challenges)), (an, .inl (G.2.2.2.1, 6, .inr (.inl answers)))] H.size) := by
  refine xc_ofW (by decide) ?_
  intro p e s m args below meth c s₁ B hml hE hv
  obtain ⟨rfl, rfl, hw⟩ := hv
  have hx := B.exec
  have hb := B.bytes
  have ht := B.returns
  have hl0 := B.notSynchronized
  have S : xc_Fix p m c b_KE_makePartial 14 s "SealTrust$Key" := ⟨hx, hb, hml, findClass_of_methodNamed B.named⟩
  have hD := hD0.self (sz := s.heap.size)
  generalize hAe : va_A [(k, .inr (1, [.ref sh, .ref ch, .int dealt, .long epoch, .long base, .long whole, .long signing, .long pp, .long qq, .long modulus, .long order])), (sh, .inl (G.2.2.2.1, 6, .inr (.inl shares))), (ch, .inl (G.2.2.2.1, 6, .inr (.inl checks))), (mo, .inr (2, [.ref pw, .ref cg, .ref an, .int standing, .long block, .int partials, .int objections, .long signature])), (pw, .inl (G.2.2.2.1, 6, .inr (.inl powers))), (cg, .inl (G.2.2.1, 6, .inl challenges)), (an, .inl (G.2.2.2.1, 6, .inr (.inl answers)))] s.heap.size = A at hD ⊢
  have hA : ∀ q : Nat, s.heap.size ≤ q → A q := fun q h => by rw [← hAe]; exact Or.inr h
  have hS : va_S A s.heap s.heap [] := va_S.rf
  have hl := lv_entry ([.ref k, .ref mo, .int trustee]) (n := 14) (Nat.le_of_ble_eq_true rfl)
  rw [lg_entry_eq]
  generalize (lg_sl ([.ref k, .ref mo, .int trustee]) ++ List.replicate (14 - (lg_sl ([.ref k, .ref mo, .int trustee])).length) Slot.unset).toArray = ls at hl ⊢
  have hl : lv_has ls 14 [(0, .ref k), (1, .ref mo), (2, .int trustee)] := hl
  obtain ⟨r0, hr0⟩ : ∃ r, f_KE_makePartial_PW trustee shares block epoch base checks modulus powers = r := ⟨_, rfl⟩
  rw [hr0]
  unfold f_KE_makePartial_PW at hr0
  obtain ⟨r1, hr1⟩ : ∃ r, f_KE_makePartial_CG trustee shares block epoch base checks modulus challenges = r := ⟨_, rfl⟩
  rw [hr1]
  unfold f_KE_makePartial_CG at hr1
  obtain ⟨r2, hr2⟩ : ∃ r, f_KE_makePartial_AN trustee shares block epoch base checks modulus answers = r := ⟨_, rfl⟩
  rw [hr2]
  unfold f_KE_makePartial_AN at hr2
  obtain ⟨r3, hr3⟩ : ∃ r, f_KE_makePartial_partials trustee partials = r := ⟨_, rfl⟩
  rw [hr3]
  unfold f_KE_makePartial_partials at hr3
  refine lv_aload_n hx hb d_KE_makePartial_0 rfl (lv_at hl 0 rfl) ?_
  refine gf_KE_9 hg hw S hP 0 rfl rfl d_KE_makePartial_1 ?_
  refine lv_iload_n hx hb d_KE_makePartial_4 rfl (lv_at hl 2 rfl) ?_
  refine va_lald hx hb (xg_k hg hw) hP 1 1 rfl rfl hT d_KE_makePartial_5 ?_
  refine lv_lstore_n hx hb d_KE_makePartial_6 rfl hl (by decide) rfl (fun ls hl => ?_)
  have hl : lv_has ls 14 [(3, .long (shares trustee.toNatClampNeg)), (0, .ref k), (1, .ref mo), (2, .int trustee)] := hl
  refine lv_aload_n hx hb d_KE_makePartial_7 rfl (lv_at hl 2 rfl) ?_
  refine gf_KE_74 hg hw S hP 3 rfl rfl d_KE_makePartial_8 ?_
  refine lv_lstore hx hb d_KE_makePartial_11 hl (by decide) rfl (fun ls hl => ?_)
  have hl : lv_has ls 14 [(5, .long block), (3, .long (shares trustee.toNatClampNeg)), (0, .ref k), (1, .ref mo), (2, .int trustee)] := hl
  refine kc_KE_79 hg hw S d_KE_makePartial_13 ?_
  refine lv_lload_n hx hb d_KE_makePartial_16 rfl (lv_at hl 1 rfl) ?_
  refine xg_read (xg_runSN (rest := []) (kw := 0) si_KE_81 hg hw S (ct_ST_mixIn l hg s.heap (7 : Int64) (shares trustee.toNatClampNeg) ) ⟨by decide, by decide, by decide, by decide⟩ rfl hl.1 rfl (Nat.le_of_ble_eq_true rfl) d_KE_makePartial_17) ?_
  refine lv_lload hx hb d_KE_makePartial_20 (lv_at hl 0 rfl) ?_
  refine xg_read (xg_runSN (rest := []) (kw := 0) si_KE_81 hg hw S (ct_ST_mixIn l hg s.heap (f_ST_mixIn (7 : Int64) (shares trustee.toNatClampNeg)) block ) ⟨by decide, by decide, by decide, by decide⟩ rfl hl.1 rfl (Nat.le_of_ble_eq_true rfl) d_KE_makePartial_22) ?_
  refine lv_aload_n hx hb d_KE_makePartial_25 rfl (lv_at hl 2 rfl) ?_
  refine gf_KE_52 hg hw S hP 0 rfl rfl d_KE_makePartial_26 ?_
  refine xg_read (xg_runSN (rest := []) (kw := 0) si_KE_81 hg hw S (ct_ST_mixIn l hg s.heap (f_ST_mixIn (f_ST_mixIn (7 : Int64) (shares trustee.toNatClampNeg)) block) epoch ) ⟨by decide, by decide, by decide, by decide⟩ rfl hl.1 rfl (Nat.le_of_ble_eq_true rfl) d_KE_makePartial_29) ?_
  refine xg_read (xg_runSN (rest := []) (kw := 0) si_KE_84 hg hw S (ct_ST_mixOf l hg s.heap (f_ST_mixIn (f_ST_mixIn (f_ST_mixIn (7 : Int64) (shares trustee.toNatClampNeg)) block) epoch) ) ⟨by decide, by decide, by decide, by decide⟩ rfl hl.1 rfl (Nat.le_of_ble_eq_true rfl) d_KE_makePartial_32) ?_
  refine lv_lstore hx hb d_KE_makePartial_35 hl (by decide) rfl (fun ls hl => ?_)
  have hl : lv_has ls 14 [(7, .long (f_ST_mixOf (f_ST_mixIn (f_ST_mixIn (f_ST_mixIn (7 : Int64) (shares trustee.toNatClampNeg)) block) epoch))), (5, .long block), (3, .long (shares trustee.toNatClampNeg)), (0, .ref k), (1, .ref mo), (2, .int trustee)] := hl
  refine lv_aload_n hx hb d_KE_makePartial_37 rfl (lv_at hl 3 rfl) ?_
  refine lv_lload hx hb d_KE_makePartial_38 (lv_at hl 1 rfl) ?_
  refine kc_KE_88 hg hw S d_KE_makePartial_40 ?_
  refine lv_lload_n hx hb d_KE_makePartial_43 rfl (lv_at hl 2 rfl) ?_
  refine lv_lmul hx hb d_KE_makePartial_44 ?_
  refine xg_read (xg_runV (rest := []) (kw := 0) si_KE_59 hg hw S (va_recv (xg_k hg hw) hP (ci := 1) rfl (q0 := 0) rfl) (ct_KE_power l hg s.heap k block ((1440 : Int64) * (shares trustee.toNatClampNeg)) sh ch dealt epoch base whole signing pp qq modulus order (hP.sub [0] rfl) ) ⟨by decide, by decide, by decide, by decide⟩ rfl hl.1 rfl (Nat.le_of_ble_eq_true rfl) d_KE_makePartial_45) ?_
  refine lv_lstore hx hb d_KE_makePartial_48 hl (by decide) rfl (fun ls hl => ?_)
  have hl : lv_has ls 14 [(9, .long (f_KE_power block ((1440 : Int64) * (shares trustee.toNatClampNeg)) modulus)), (7, .long (f_ST_mixOf (f_ST_mixIn (f_ST_mixIn (f_ST_mixIn (7 : Int64) (shares trustee.toNatClampNeg)) block) epoch))), (5, .long block), (3, .long (shares trustee.toNatClampNeg)), (0, .ref k), (1, .ref mo), (2, .int trustee)] := hl
  refine lv_aload_n hx hb d_KE_makePartial_50 rfl (lv_at hl 4 rfl) ?_
  refine lv_lload hx hb d_KE_makePartial_51 (lv_at hl 2 rfl) ?_
  refine kc_KE_90 hg hw S d_KE_makePartial_53 ?_
  refine xg_read (xg_runV (rest := []) (kw := 0) si_KE_59 hg hw S (va_recv (xg_k hg hw) hP (ci := 1) rfl (q0 := 0) rfl) (ct_KE_power l hg s.heap k block (2880 : Int64) sh ch dealt epoch base whole signing pp qq modulus order (hP.sub [0] rfl) ) ⟨by decide, by decide, by decide, by decide⟩ rfl hl.1 rfl (Nat.le_of_ble_eq_true rfl) d_KE_makePartial_56) ?_
  refine lv_lstore hx hb d_KE_makePartial_59 hl (by decide) rfl (fun ls hl => ?_)
  have hl : lv_has ls 14 [(11, .long (f_KE_power block (2880 : Int64) modulus)), (9, .long (f_KE_power block ((1440 : Int64) * (shares trustee.toNatClampNeg)) modulus)), (7, .long (f_ST_mixOf (f_ST_mixIn (f_ST_mixIn (f_ST_mixIn (7 : Int64) (shares trustee.toNatClampNeg)) block) epoch))), (5, .long block), (3, .long (shares trustee.toNatClampNeg)), (0, .ref k), (1, .ref mo), (2, .int trustee)] := hl
  refine lv_aload_n hx hb d_KE_makePartial_61 rfl (lv_at hl 5 rfl) ?_
  refine lv_iload_n hx hb d_KE_makePartial_62 rfl (lv_at hl 7 rfl) ?_
  refine lv_lload hx hb d_KE_makePartial_63 (lv_at hl 0 rfl) ?_
  refine lv_aload_n hx hb d_KE_makePartial_65 rfl (lv_at hl 5 rfl) ?_
  refine lv_lload hx hb d_KE_makePartial_66 (lv_at hl 1 rfl) ?_
  refine lv_lload hx hb d_KE_makePartial_68 (lv_at hl 1 rfl) ?_
  refine xg_read (xg_runV (rest := [.long (f_KE_power block (2880 : Int64) modulus), .int trustee, .ref k]) (kw := 4) si_KE_92 hg hw S (va_recv (xg_k hg hw) hP (ci := 1) rfl (q0 := 0) rfl) (ct_KE_times l hg s.heap k (f_KE_power block ((1440 : Int64) * (shares trustee.toNatClampNeg)) modulus) (f_KE_power block ((1440 : Int64) * (shares trustee.toNatClampNeg)) modulus) sh ch dealt epoch base whole signing pp qq modulus order (hP.sub [0] rfl) ) ⟨by decide, by decide, by decide, by decide⟩ rfl hl.1 rfl (Nat.le_of_ble_eq_true rfl) d_KE_makePartial_70) ?_
  refine lv_aload_n hx hb d_KE_makePartial_73 rfl (lv_at hl 5 rfl) ?_
  refine lv_aload_n hx hb d_KE_makePartial_74 rfl (lv_at hl 5 rfl) ?_
  refine gf_KE_49 hg hw S hP 0 rfl rfl d_KE_makePartial_75 ?_
  refine lv_lload hx hb d_KE_makePartial_78 (lv_at hl 2 rfl) ?_
  refine xg_read (xg_runV (rest := [.long (f_KE_times (f_KE_power block ((1440 : Int64) * (shares trustee.toNatClampNeg)) modulus) (f_KE_power block ((1440 : Int64) * (shares trustee.toNatClampNeg)) modulus) modulus), .long (f_KE_power block (2880 : Int64) modulus), .int trustee, .ref k]) (kw := 6) si_KE_59 hg hw S (va_recv (xg_k hg hw) hP (ci := 1) rfl (q0 := 0) rfl) (ct_KE_power l hg s.heap k base (f_ST_mixOf (f_ST_mixIn (f_ST_mixIn (f_ST_mixIn (7 : Int64) (shares trustee.toNatClampNeg)) block) epoch)) sh ch dealt epoch base whole signing pp qq modulus order (hP.sub [0] rfl) ) ⟨by decide, by decide, by decide, by decide⟩ rfl hl.1 rfl (Nat.le_of_ble_eq_true rfl) d_KE_makePartial_80) ?_
  refine lv_aload_n hx hb d_KE_makePartial_83 rfl (lv_at hl 5 rfl) ?_
  refine lv_lload hx hb d_KE_makePartial_84 (lv_at hl 0 rfl) ?_
  refine lv_lload hx hb d_KE_makePartial_86 (lv_at hl 2 rfl) ?_
  refine xg_read (xg_runV (rest := [.long (f_KE_power base (f_ST_mixOf (f_ST_mixIn (f_ST_mixIn (f_ST_mixIn (7 : Int64) (shares trustee.toNatClampNeg)) block) epoch)) modulus), .long (f_KE_times (f_KE_power block ((1440 : Int64) * (shares trustee.toNatClampNeg)) modulus) (f_KE_power block ((1440 : Int64) * (shares trustee.toNatClampNeg)) modulus) modulus), .long (f_KE_power block (2880 : Int64) modulus), .int trustee, .ref k]) (kw := 8) si_KE_59 hg hw S (va_recv (xg_k hg hw) hP (ci := 1) rfl (q0 := 0) rfl) (ct_KE_power l hg s.heap k (f_KE_power block (2880 : Int64) modulus) (f_ST_mixOf (f_ST_mixIn (f_ST_mixIn (f_ST_mixIn (7 : Int64) (shares trustee.toNatClampNeg)) block) epoch)) sh ch dealt epoch base whole signing pp qq modulus order (hP.sub [0] rfl) ) ⟨by decide, by decide, by decide, by decide⟩ rfl hl.1 rfl (Nat.le_of_ble_eq_true rfl) d_KE_makePartial_88) ?_
  refine xg_read (xg_runV (rest := []) (kw := 0) si_KE_95 hg hw S (va_recv (xg_k hg hw) hP (ci := 1) rfl (q0 := 0) rfl) (ct_KE_challenge l hg s.heap k trustee (f_KE_power block (2880 : Int64) modulus) (f_KE_times (f_KE_power block ((1440 : Int64) * (shares trustee.toNatClampNeg)) modulus) (f_KE_power block ((1440 : Int64) * (shares trustee.toNatClampNeg)) modulus) modulus) (f_KE_power base (f_ST_mixOf (f_ST_mixIn (f_ST_mixIn (f_ST_mixIn (7 : Int64) (shares trustee.toNatClampNeg)) block) epoch)) modulus) (f_KE_power (f_KE_power block (2880 : Int64) modulus) (f_ST_mixOf (f_ST_mixIn (f_ST_mixIn (f_ST_mixIn (7 : Int64) (shares trustee.toNatClampNeg)) block) epoch)) modulus) sh ch dealt epoch base whole signing pp qq modulus order checks (hP.sub [0, 2] rfl) hT) ⟨by decide, by decide, by decide, by decide⟩ rfl hl.1 rfl (Nat.le_of_ble_eq_true rfl) d_KE_makePartial_91) ?_
  refine lv_istore hx hb d_KE_makePartial_94 hl (by decide) rfl (fun ls hl => ?_)
  have hl : lv_has ls 14 [(13, .int (f_KE_challenge trustee (f_KE_power block (2880 : Int64) modulus) (f_KE_times (f_KE_power block ((1440 : Int64) * (shares trustee.toNatClampNeg)) modulus) (f_KE_power block ((1440 : Int64) * (shares trustee.toNatClampNeg)) modulus) modulus) (f_KE_power base (f_ST_mixOf (f_ST_mixIn (f_ST_mixIn (f_ST_mixIn (7 : Int64) (shares trustee.toNatClampNeg)) block) epoch)) modulus) (f_KE_power (f_KE_power block (2880 : Int64) modulus) (f_ST_mixOf (f_ST_mixIn (f_ST_mixIn (f_ST_mixIn (7 : Int64) (shares trustee.toNatClampNeg)) block) epoch)) modulus) base checks)), (11, .long (f_KE_power block (2880 : Int64) modulus)), (9, .long (f_KE_power block ((1440 : Int64) * (shares trustee.toNatClampNeg)) modulus)), (7, .long (f_ST_mixOf (f_ST_mixIn (f_ST_mixIn (f_ST_mixIn (7 : Int64) (shares trustee.toNatClampNeg)) block) epoch))), (5, .long block), (3, .long (shares trustee.toNatClampNeg)), (0, .ref k), (1, .ref mo), (2, .int trustee)] := hl
  refine lv_aload_n hx hb d_KE_makePartial_96 rfl (lv_at hl 7 rfl) ?_
  refine lv_iload_n hx hb d_KE_makePartial_97 rfl (lv_at hl 8 rfl) ?_
  refine lv_lload hx hb d_KE_makePartial_98 (lv_at hl 2 rfl) ?_
  refine lv_iload hx hb d_KE_makePartial_100 (lv_at hl 0 rfl) ?_
  refine lv_lload_n hx hb d_KE_makePartial_102 rfl (lv_at hl 5 rfl) ?_
  refine lv_iload hx hb d_KE_makePartial_103 (lv_at hl 0 rfl) ?_
  refine lv_i2l hx hb d_KE_makePartial_105 rfl ?_
  refine lv_lmul hx hb d_KE_makePartial_106 ?_
  refine lv_lload hx hb d_KE_makePartial_107 (lv_at hl 3 rfl) ?_
  refine lv_ladd hx hb d_KE_makePartial_109 ?_
  refine xw_use (wc := [(mo, .inr (2, [.ref pw, .ref cg, .ref an, .int standing, .long block, .int partials, .int objections, .long signature])), (pw, .inl (G.2.2.2.1, 6, .inr (.inl powers))), (cg, .inl (G.2.2.1, 6, .inl challenges)), (an, .inl (G.2.2.2.1, 6, .inr (.inl answers)))]) (wr := [(k, .inr (1, [.ref sh, .ref ch, .int dealt, .long epoch, .long base, .long whole, .long signing, .long pp, .long qq, .long modulus, .long order])), (sh, .inl (G.2.2.2.1, 6, .inr (.inl shares))), (ch, .inl (G.2.2.2.1, 6, .inr (.inl checks)))]) (xg_runV (rest := []) (kw := 0) si_KE_99 hg hw S (va_recv (xg_k hg hw) hP (ci := 2) rfl (q0 := 3) rfl) (ct_MO_takePartial l hg s.heap mo trustee (f_KE_power block ((1440 : Int64) * (shares trustee.toNatClampNeg)) modulus) (f_KE_challenge trustee (f_KE_power block (2880 : Int64) modulus) (f_KE_times (f_KE_power block ((1440 : Int64) * (shares trustee.toNatClampNeg)) modulus) (f_KE_power block ((1440 : Int64) * (shares trustee.toNatClampNeg)) modulus) modulus) (f_KE_power base (f_ST_mixOf (f_ST_mixIn (f_ST_mixIn (f_ST_mixIn (7 : Int64) (shares trustee.toNatClampNeg)) block) epoch)) modulus) (f_KE_power (f_KE_power block (2880 : Int64) modulus) (f_ST_mixOf (f_ST_mixIn (f_ST_mixIn (f_ST_mixIn (7 : Int64) (shares trustee.toNatClampNeg)) block) epoch)) modulus) base checks) (((shares trustee.toNatClampNeg) * ((f_KE_challenge trustee (f_KE_power block (2880 : Int64) modulus) (f_KE_times (f_KE_power block ((1440 : Int64) * (shares trustee.toNatClampNeg)) modulus) (f_KE_power block ((1440 : Int64) * (shares trustee.toNatClampNeg)) modulus) modulus) (f_KE_power base (f_ST_mixOf (f_ST_mixIn (f_ST_mixIn (f_ST_mixIn (7 : Int64) (shares trustee.toNatClampNeg)) block) epoch)) modulus) (f_KE_power (f_KE_power block (2880 : Int64) modulus) (f_ST_mixOf (f_ST_mixIn (f_ST_mixIn (f_ST_mixIn (7 : Int64) (shares trustee.toNatClampNeg)) block) epoch)) modulus) base checks).toInt64)) + (f_ST_mixOf (f_ST_mixIn (f_ST_mixIn (f_ST_mixIn (7 : Int64) (shares trustee.toNatClampNeg)) block) epoch))) pw cg an standing block partials objections signature powers challenges answers (hP.sub [3, 4, 5, 6] rfl) ((hD.sub [3, 4, 5, 6] (by decide) rfl).weaken (fun _ _ _ _ => trivial)) hT) ⟨by decide, by decide, by decide, by decide⟩ rfl hl.1 rfl (Nat.le_of_ble_eq_true rfl) d_KE_makePartial_110) hP hD hS hA [3, 4, 5, 6] [0, 1, 2] rfl rfl (by decide) (by decide) (fun H1 L1 hP hD hS => ?_)
  have hP : va_P G.2.1 cl_all [(k, .inr (1, [.ref sh, .ref ch, .int dealt, .long epoch, .long base, .long whole, .long signing, .long pp, .long qq, .long modulus, .long order])), (sh, .inl (G.2.2.2.1, 6, .inr (.inl shares))), (ch, .inl (G.2.2.2.1, 6, .inr (.inl checks))), (mo, .inr (2, [.ref pw, .ref cg, .ref an, .int standing, .long block, .int (f_MO_takePartial_partials trustee partials), .int objections, .long signature])), (pw, .inl (G.2.2.2.1, 6, .inr (.inl (f_MO_takePartial_PW trustee (f_KE_power block ((1440 : Int64) * (shares trustee.toNatClampNeg)) modulus) powers)))), (cg, .inl (G.2.2.1, 6, .inl (f_MO_takePartial_CG trustee (f_KE_challenge trustee (f_KE_power block (2880 : Int64) modulus) (f_KE_times (f_KE_power block ((1440 : Int64) * (shares trustee.toNatClampNeg)) modulus) (f_KE_power block ((1440 : Int64) * (shares trustee.toNatClampNeg)) modulus) modulus) (f_KE_power base (f_ST_mixOf (f_ST_mixIn (f_ST_mixIn (f_ST_mixIn (7 : Int64) (shares trustee.toNatClampNeg)) block) epoch)) modulus) (f_KE_power (f_KE_power block (2880 : Int64) modulus) (f_ST_mixOf (f_ST_mixIn (f_ST_mixIn (f_ST_mixIn (7 : Int64) (shares trustee.toNatClampNeg)) block) epoch)) modulus) base checks) challenges))), (an, .inl (G.2.2.2.1, 6, .inr (.inl (f_MO_takePartial_AN trustee (((shares trustee.toNatClampNeg) * ((f_KE_challenge trustee (f_KE_power block (2880 : Int64) modulus) (f_KE_times (f_KE_power block ((1440 : Int64) * (shares trustee.toNatClampNeg)) modulus) (f_KE_power block ((1440 : Int64) * (shares trustee.toNatClampNeg)) modulus) modulus) (f_KE_power base (f_ST_mixOf (f_ST_mixIn (f_ST_mixIn (f_ST_mixIn (7 : Int64) (shares trustee.toNatClampNeg)) block) epoch)) modulus) (f_KE_power (f_KE_power block (2880 : Int64) modulus) (f_ST_mixOf (f_ST_mixIn (f_ST_mixIn (f_ST_mixIn (7 : Int64) (shares trustee.toNatClampNeg)) block) epoch)) modulus) base checks).toInt64)) + (f_ST_mixOf (f_ST_mixIn (f_ST_mixIn (f_ST_mixIn (7 : Int64) (shares trustee.toNatClampNeg)) block) epoch))) answers))))] H1 := hP
  have hD : va_D A [(k, .inr (1, [.ref sh, .ref ch, .int dealt, .long epoch, .long base, .long whole, .long signing, .long pp, .long qq, .long modulus, .long order])), (sh, .inl (G.2.2.2.1, 6, .inr (.inl shares))), (ch, .inl (G.2.2.2.1, 6, .inr (.inl checks))), (mo, .inr (2, [.ref pw, .ref cg, .ref an, .int standing, .long block, .int (f_MO_takePartial_partials trustee partials), .int objections, .long signature])), (pw, .inl (G.2.2.2.1, 6, .inr (.inl (f_MO_takePartial_PW trustee (f_KE_power block ((1440 : Int64) * (shares trustee.toNatClampNeg)) modulus) powers)))), (cg, .inl (G.2.2.1, 6, .inl (f_MO_takePartial_CG trustee (f_KE_challenge trustee (f_KE_power block (2880 : Int64) modulus) (f_KE_times (f_KE_power block ((1440 : Int64) * (shares trustee.toNatClampNeg)) modulus) (f_KE_power block ((1440 : Int64) * (shares trustee.toNatClampNeg)) modulus) modulus) (f_KE_power base (f_ST_mixOf (f_ST_mixIn (f_ST_mixIn (f_ST_mixIn (7 : Int64) (shares trustee.toNatClampNeg)) block) epoch)) modulus) (f_KE_power (f_KE_power block (2880 : Int64) modulus) (f_ST_mixOf (f_ST_mixIn (f_ST_mixIn (f_ST_mixIn (7 : Int64) (shares trustee.toNatClampNeg)) block) epoch)) modulus) base checks) challenges))), (an, .inl (G.2.2.2.1, 6, .inr (.inl (f_MO_takePartial_AN trustee (((shares trustee.toNatClampNeg) * ((f_KE_challenge trustee (f_KE_power block (2880 : Int64) modulus) (f_KE_times (f_KE_power block ((1440 : Int64) * (shares trustee.toNatClampNeg)) modulus) (f_KE_power block ((1440 : Int64) * (shares trustee.toNatClampNeg)) modulus) modulus) (f_KE_power base (f_ST_mixOf (f_ST_mixIn (f_ST_mixIn (f_ST_mixIn (7 : Int64) (shares trustee.toNatClampNeg)) block) epoch)) modulus) (f_KE_power (f_KE_power block (2880 : Int64) modulus) (f_ST_mixOf (f_ST_mixIn (f_ST_mixIn (f_ST_mixIn (7 : Int64) (shares trustee.toNatClampNeg)) block) epoch)) modulus) base checks).toInt64)) + (f_ST_mixOf (f_ST_mixIn (f_ST_mixIn (f_ST_mixIn (7 : Int64) (shares trustee.toNatClampNeg)) block) epoch))) answers))))] := hD
  subst hr0
  subst hr1
  subst hr2
  subst hr3
  exact xw_vret hx hb ht hl0 hP hD hS d_KE_makePartial_113
def f_ST_enter_sealedCount (motion : Int32) (sealedCount : Int32) (sealed : Nat → Int32) : Int32 := if (12 : Int32) ≤ sealedCount then sealedCount else (sealedCount + (1 : Int32))
def f_ST_enter_SE (motion : Int32) (sealedCount : Int32) (sealed : Nat → Int32) : Nat → Int32 := if (12 : Int32) ≤ sealedCount then sealed else (upd sealed sealedCount.toNatClampNeg motion)
set_option maxHeartbeats 4000000 in
set_option maxRecDepth 100000 in
theorem ct_ST_enter (l : Launch) {G : xg_G} (hg : xg_F G) (H : Heap) (x : Nat) (motion : Int32) (k : Nat) (bu : Nat) (ma : Nat) (se : Nat) (motionCount : Int32) (sealedCount : Int32) (suspended : Int32) (sealed : Nat → Int32) (hP : va_P G.2.1 cl_all [(x, .inr (3, [.ref k, .ref bu, .ref ma, .ref se, .int motionCount, .int sealedCount, .int suspended])), (se, .inl (G.2.2.1, 12, .inl sealed))] H) (hD0 : va_D (fun _ => True) [(x, .inr (3, [.ref k, .ref bu, .ref ma, .ref se, .int motionCount, .int sealedCount, .int suspended])), (se, .inl (G.2.2.1, 12, .inl sealed))]) (hC : 0 ≤ sealedCount.toInt) : xc_Met l y_ST_enter (.code y_ST_enter b_ST_enter 2 none) ({ frames := 0, cells := 0, slots := 0, locals := 0 } : Room) (xg_Pc G [.ref x, .int motion] H) (xw_post G (va_A [(x, .inr (3, [.ref k, .ref bu, .ref ma, .ref se, .int motionCount, .int sealedCount, .int suspended])), (se, .inl (G.2.2.1, 12, .inl sealed))] H.size) none [(x, .inr (3, [.ref k, .ref bu, .ref ma, .ref se, .int motionCount, .int (f_ST_enter_sealedCount motion sealedCount sealed), .int suspended])), (se, .inl (G.2.2.1, 12, .inl (f_ST_enter_SE motion sealedCount sealed)))]) (va_A [(x, .inr (3, [.ref k, .ref bu, .ref ma, .ref se, .int motionCount, .int sealedCount, .int suspended])), (se, .inl (G.2.2.1, 12, .inl sealed))] H.size) := by
  refine xc_ofW (by decide) ?_
  intro p e s m args below meth c s₁ B hml hE hv
  obtain ⟨rfl, rfl, hw⟩ := hv
  have hx := B.exec
  have hb := B.bytes
  have ht := B.returns
  have hl0 := B.notSynchronized
  have S : xc_Fix p m c b_ST_enter 2 s "SealTrust" := ⟨hx, hb, hml, findClass_of_methodNamed B.named⟩
  have hD := hD0.self (sz := s.heap.size)
  generalize hAe : va_A [(x, .inr (3, [.ref k, .ref bu, .ref ma, .ref se, .int motionCount, .int sealedCount, .int suspended])), (se, .inl (G.2.2.1, 12, .inl sealed))] s.heap.size = A at hD ⊢
  have hA : ∀ q : Nat, s.heap.size ≤ q → A q := fun q h => by rw [← hAe]; exact Or.inr h
  have hS : va_S A s.heap s.heap [] := va_S.rf
  have hl := lv_entry ([.ref x, .int motion]) (n := 2) (Nat.le_of_ble_eq_true rfl)
  rw [lg_entry_eq]
  generalize (lg_sl ([.ref x, .int motion]) ++ List.replicate (2 - (lg_sl ([.ref x, .int motion])).length) Slot.unset).toArray = ls at hl ⊢
  have hl : lv_has ls 2 [(0, .ref x), (1, .int motion)] := hl
  obtain ⟨r0, hr0⟩ : ∃ r, f_ST_enter_sealedCount motion sealedCount sealed = r := ⟨_, rfl⟩
  rw [hr0]
  unfold f_ST_enter_sealedCount at hr0
  obtain ⟨r1, hr1⟩ : ∃ r, f_ST_enter_SE motion sealedCount sealed = r := ⟨_, rfl⟩
  rw [hr1]
  unfold f_ST_enter_SE at hr1
  refine lv_aload_n hx hb d_ST_enter_0 rfl (lv_at hl 0 rfl) ?_
  refine gf_ST_61 hg hw S hP 0 rfl rfl d_ST_enter_1 ?_
  refine lv_bipush (v := (12 : Int32)) hx hb d_ST_enter_4 (by decide) ?_
  refine lv_icmp_ge hx hb d_ST_enter_6 (tgt := 29) (by decide) (fun h6 => ?_) (fun h6 => ?_)
  · rw [if_pos h6] at hr0
    rw [if_pos h6] at hr1
    subst hr0
    subst hr1
    exact xw_vret hx hb ht hl0 hP hD hS d_ST_enter_29
  · rw [if_neg h6] at hr0
    rw [if_neg h6] at hr1
    refine lv_aload_n hx hb d_ST_enter_9 rfl (lv_at hl 0 rfl) ?_
    refine gf_ST_30 hg hw S hP 0 rfl rfl d_ST_enter_10 ?_
    refine lv_aload_n hx hb d_ST_enter_13 rfl (lv_at hl 0 rfl) ?_
    refine gf_ST_61 hg hw S hP 0 rfl rfl d_ST_enter_14 ?_
    refine lv_iload_n hx hb d_ST_enter_17 rfl (lv_at hl 1 rfl) ?_
    refine va_iast hx hb (xg_k hg hw) hP hD hS 1 0 rfl rfl (xi_in h6 hC (by decide)) d_ST_enter_18 (fun H1 L1 hP hD hS => ?_)
    have hP : va_P G.2.1 cl_all [(x, .inr (3, [.ref k, .ref bu, .ref ma, .ref se, .int motionCount, .int sealedCount, .int suspended])), (se, .inl (G.2.2.1, 12, .inl (upd sealed sealedCount.toNatClampNeg motion)))] H1 := hP
    have hD : va_D A [(x, .inr (3, [.ref k, .ref bu, .ref ma, .ref se, .int motionCount, .int sealedCount, .int suspended])), (se, .inl (G.2.2.1, 12, .inl (upd sealed sealedCount.toNatClampNeg motion)))] := hD
    refine lv_aload_n hx hb d_ST_enter_19 rfl (lv_at hl 0 rfl) ?_
    refine lv_dup hx hb d_ST_enter_20 rfl ?_
    refine gf_ST_61 hg hw S hP 0 rfl rfl d_ST_enter_21 ?_
    refine lv_iconst (v := (1 : Int32)) hx hb d_ST_enter_24 (by decide) ?_
    refine lv_iadd hx hb d_ST_enter_25 ?_
    refine pf_ST_61 hg hw S hP hD hS 0 rfl rfl rfl (Nat.le_of_ble_eq_true rfl) d_ST_enter_26 (fun H2 L2 hP hD hS => ?_)
    have hP : va_P G.2.1 cl_all [(x, .inr (3, [.ref k, .ref bu, .ref ma, .ref se, .int motionCount, .int (sealedCount + (1 : Int32)), .int suspended])), (se, .inl (G.2.2.1, 12, .inl (upd sealed sealedCount.toNatClampNeg motion)))] H2 := hP
    have hD : va_D A [(x, .inr (3, [.ref k, .ref bu, .ref ma, .ref se, .int motionCount, .int (sealedCount + (1 : Int32)), .int suspended])), (se, .inl (G.2.2.1, 12, .inl (upd sealed sealedCount.toNatClampNeg motion)))] := hD
    subst hr0
    subst hr1
    exact xw_vret hx hb ht hl0 hP hD hS d_ST_enter_29
def lf_ST_goodPartials_4 (powers : Nat → Int64) (challenges : Nat → Int32) (answers : Nat → Int64) (block : Int64) (partials : Int32) (base : Int64) (checks : Nat → Int64) (pp : Int64) (qq : Int64) (modulus : Int64) (order : Int64) : Nat → Int32 → Int32 → Int32
  | 0, _, _ => 0
  | n + 1, good, i => if (6 : Int32) ≤ i then good else (if (f_ST_isIn partials i) = 0 then (lf_ST_goodPartials_4 powers challenges answers block partials base checks pp qq modulus order n good (i + (1 : Int32))) else (if (f_KE_isGood i powers challenges answers block base checks pp qq modulus order) = 0 then (lf_ST_goodPartials_4 powers challenges answers block partials base checks pp qq modulus order n good (i + (1 : Int32))) else (lf_ST_goodPartials_4 powers challenges answers block partials base checks pp qq modulus order n (good ||| ((1 : Int32) <<< (i &&& 31))) (i + (1 : Int32)))))
def f_ST_goodPartials (powers : Nat → Int64) (challenges : Nat → Int32) (answers : Nat → Int64) (block : Int64) (partials : Int32) (base : Int64) (checks : Nat → Int64) (pp : Int64) (qq : Int64) (modulus : Int64) (order : Int64) : Int32 := lf_ST_goodPartials_4 powers challenges answers block partials base checks pp qq modulus order 7 (0 : Int32) (0 : Int32)
set_option maxHeartbeats 4000000 in
set_option maxRecDepth 100000 in
theorem wl_ST_goodPartials_4 {p : Program} {l : Launch} {e : Env} {s : State} {m : MethodId} {args : Array Value} {below : List Frame} {meth : Method} {c : Code} {G : xg_G} {x : Nat} {mo : Nat} {k : Nat} {bu : Nat} {ma : Nat} {se : Nat} {motionCount : Int32} {sealedCount : Int32} {suspended : Int32} {sh : Nat} {ch : Nat} {dealt : Int32} {epoch : Int64} {base : Int64} {whole : Int64} {signing : Int64} {pp : Int64} {qq : Int64} {modulus : Int64} {order : Int64} {checks : Nat → Int64} {pw : Nat} {cg : Nat} {an : Nat} {standing : Int32} {block : Int64} {partials : Int32} {objections : Int32} {signature : Int64} {powers : Nat → Int64} {challenges : Nat → Int32} {answers : Nat → Int64} (hg : xg_F G) (hw : G.1.WarmedH s.vm) (S : xc_Fix p m c b_ST_goodPartials 4 s "SealTrust") (hP : va_P G.2.1 cl_all [(x, .inr (3, [.ref k, .ref bu, .ref ma, .ref se, .int motionCount, .int sealedCount, .int suspended])), (k, .inr (1, [.ref sh, .ref ch, .int dealt, .long epoch, .long base, .long whole, .long signing, .long pp, .long qq, .long modulus, .long order])), (ch, .inl (G.2.2.2.1, 6, .inr (.inl checks))), (mo, .inr (2, [.ref pw, .ref cg, .ref an, .int standing, .long block, .int partials, .int objections, .long signature])), (pw, .inl (G.2.2.2.1, 6, .inr (.inl powers))), (cg, .inl (G.2.2.1, 6, .inl challenges)), (an, .inl (G.2.2.2.1, 6, .inr (.inl answers)))] s.heap) (hl0 : meth.locks = false) (ht : meth.sig.returnType = (some .int))  : ∀ (n : Nat) (good : Int32) (i : Int32) (r : Int32) (ls : Array Slot), lf_ST_goodPartials_4 powers challenges answers block partials base checks pp qq modulus order n good i = r → (0 ≤ i.toInt ∧ ((6 : Int32).toInt - i.toInt).toNat < n) → lv_has ls 4 [(3, .int i), (2, .int good), (0, .ref x), (1, .ref mo)] → W p l e ({ frames := 5, cells := 0, slots := 0, locals := 103 } : Room) s m args below meth c s.heap [] 0 0 (xg_Z below (some (.int r)) args s) (F0 m 4 ls []) := by
  have hx := S.1
  have hb := S.2.1
  intro n
  induction n with
  | zero =>
    intro good i r ls hr hmu hl
    omega
  | succ n ih =>
    intro good i r ls hr hmu hl
    rw [lf_ST_goodPartials_4] at hr
    refine lv_iload_n hx hb d_ST_goodPartials_4 rfl (lv_at hl 0 rfl) ?_
    refine lv_bipush (v := (6 : Int32)) hx hb d_ST_goodPartials_5 (by decide) ?_
    refine lv_icmp_ge hx hb d_ST_goodPartials_7 (tgt := 45) (by decide) (fun h7 => ?_) (fun h7 => ?_)
    · rw [if_pos h7] at hr
      refine lv_iload_n hx hb d_ST_goodPartials_45 rfl (lv_at hl 1 rfl) ?_
      exact xg_iret hx hb ht hl0 hr d_ST_goodPartials_46
    · rw [if_neg h7] at hr
      refine lv_aload_n hx hb d_ST_goodPartials_10 rfl (lv_at hl 3 rfl) ?_
      refine gf_ST_135 hg hw S hP 3 rfl rfl d_ST_goodPartials_11 ?_
      refine lv_iload_n hx hb d_ST_goodPartials_14 rfl (lv_at hl 0 rfl) ?_
      refine xg_read (xg_runS (rest := []) (kw := 0) si_ST_114 hg hw S (ct_ST_isIn l hg s.heap partials i ) ⟨by decide, by decide, by decide, by decide⟩ rfl hl.1 rfl (Nat.le_of_ble_eq_true rfl) d_ST_goodPartials_15) ?_
      refine lv_if_eq hx hb d_ST_goodPartials_18 (tgt := 39) (by decide) (fun h18 => ?_) (fun h18 => ?_)
      · rw [if_pos h18] at hr
        refine lv_iinc (v := i + (1 : Int32)) hx hb d_ST_goodPartials_39 hl (k := 0) rfl rfl (by decide) rfl (fun ls hl => ?_)
        have hl : lv_has ls 4 [(3, .int (i + (1 : Int32))), (2, .int good), (0, .ref x), (1, .ref mo)] := hl
        refine lv_goto hx hb d_ST_goodPartials_42 (tgt := 4) (by decide) ?_
        exact ih good (i + (1 : Int32)) r ls hr (xi_up0 h7 hmu) (lv_sub hl [0, 1, 2, 3] rfl)
      · rw [if_neg h18] at hr
        refine lv_aload_n hx hb d_ST_goodPartials_21 rfl (lv_at hl 2 rfl) ?_
        refine gf_ST_10 hg hw S hP 0 rfl rfl d_ST_goodPartials_22 ?_
        refine lv_aload_n hx hb d_ST_goodPartials_25 rfl (lv_at hl 3 rfl) ?_
        refine lv_iload_n hx hb d_ST_goodPartials_26 rfl (lv_at hl 0 rfl) ?_
        refine xg_read (xg_runV (rest := []) (kw := 0) si_ST_242 hg hw S (va_recv (xg_k hg hw) hP (ci := 1) rfl (q0 := 1) rfl) (ct_KE_isGood l hg s.heap k mo i sh ch dealt epoch base whole signing pp qq modulus order checks pw cg an standing block partials objections signature powers challenges answers (hP.sub [1, 2, 3, 4, 5, 6] rfl) (xi_in h7 hmu.1 (by decide))) ⟨by decide, by decide, by decide, by decide⟩ rfl hl.1 rfl (Nat.le_of_ble_eq_true rfl) d_ST_goodPartials_27) ?_
        refine lv_if_eq hx hb d_ST_goodPartials_30 (tgt := 39) (by decide) (fun h30 => ?_) (fun h30 => ?_)
        · rw [if_pos h30] at hr
          refine lv_iinc (v := i + (1 : Int32)) hx hb d_ST_goodPartials_39 hl (k := 0) rfl rfl (by decide) rfl (fun ls hl => ?_)
          have hl : lv_has ls 4 [(3, .int (i + (1 : Int32))), (2, .int good), (0, .ref x), (1, .ref mo)] := hl
          refine lv_goto hx hb d_ST_goodPartials_42 (tgt := 4) (by decide) ?_
          exact ih good (i + (1 : Int32)) r ls hr (xi_up0 h7 hmu) (lv_sub hl [0, 1, 2, 3] rfl)
        · rw [if_neg h30] at hr
          refine lv_iload_n hx hb d_ST_goodPartials_33 rfl (lv_at hl 1 rfl) ?_
          refine lv_iconst (v := (1 : Int32)) hx hb d_ST_goodPartials_34 (by decide) ?_
          refine lv_iload_n hx hb d_ST_goodPartials_35 rfl (lv_at hl 0 rfl) ?_
          refine lv_ishl hx hb d_ST_goodPartials_36 ?_
          refine lv_ior hx hb d_ST_goodPartials_37 ?_
          refine lv_istore_n hx hb d_ST_goodPartials_38 rfl hl (by decide) rfl (fun ls hl => ?_)
          have hl : lv_has ls 4 [(2, .int (good ||| ((1 : Int32) <<< (i &&& 31)))), (3, .int i), (0, .ref x), (1, .ref mo)] := hl
          refine lv_iinc (v := i + (1 : Int32)) hx hb d_ST_goodPartials_39 hl (k := 1) rfl rfl (by decide) rfl (fun ls hl => ?_)
          have hl : lv_has ls 4 [(3, .int (i + (1 : Int32))), (2, .int (good ||| ((1 : Int32) <<< (i &&& 31)))), (0, .ref x), (1, .ref mo)] := hl
          refine lv_goto hx hb d_ST_goodPartials_42 (tgt := 4) (by decide) ?_
          exact ih (good ||| ((1 : Int32) <<< (i &&& 31))) (i + (1 : Int32)) r ls hr (xi_up0 h7 hmu) (lv_sub hl [0, 1, 2, 3] rfl)
set_option maxHeartbeats 4000000 in
set_option maxRecDepth 100000 in
theorem ct_ST_goodPartials (l : Launch) {G : xg_G} (hg : xg_F G) (H : Heap) (x : Nat) (mo : Nat) (k : Nat) (bu : Nat) (ma : Nat) (se : Nat) (motionCount : Int32) (sealedCount : Int32) (suspended : Int32) (sh : Nat) (ch : Nat) (dealt : Int32) (epoch : Int64) (base : Int64) (whole : Int64) (signing : Int64) (pp : Int64) (qq : Int64) (modulus : Int64) (order : Int64) (checks : Nat → Int64) (pw : Nat) (cg : Nat) (an : Nat) (standing : Int32) (block : Int64) (partials : Int32) (objections : Int32) (signature : Int64) (powers : Nat → Int64) (challenges : Nat → Int32) (answers : Nat → Int64) (hP : va_P G.2.1 cl_all [(x, .inr (3, [.ref k, .ref bu, .ref ma, .ref se, .int motionCount, .int sealedCount, .int suspended])), (k, .inr (1, [.ref sh, .ref ch, .int dealt, .long epoch, .long base, .long whole, .long signing, .long pp, .long qq, .long modulus, .long order])), (ch, .inl (G.2.2.2.1, 6, .inr (.inl checks))), (mo, .inr (2, [.ref pw, .ref cg, .ref an, .int standing, .long block, .int partials, .int objections, .long signature])), (pw, .inl (G.2.2.2.1, 6, .inr (.inl powers))), (cg, .inl (G.2.2.1, 6, .inl challenges)), (an, .inl (G.2.2.2.1, 6, .inr (.inl answers)))] H)  : xc_Met l y_ST_goodPartials (.code y_ST_goodPartials b_ST_goodPartials 4 (some .int)) ({ frames := 5, cells := 0, slots := 0, locals := 103 } : Room) (xg_Pc G [.ref x, .ref mo] H) (xc_ro (some (.int (f_ST_goodPartials powers challenges answers block partials base checks pp qq modulus order))) H) (fun _ => False) := by
  refine xc_ofW (by decide) ?_
  intro p e s m args below meth c s₁ B hml hE hv
  obtain ⟨rfl, rfl, hw⟩ := hv
  have hx := B.exec
  have hb := B.bytes
  have ht := B.returns
  have hl0 := B.notSynchronized
  have S : xc_Fix p m c b_ST_goodPartials 4 s "SealTrust" := ⟨hx, hb, hml, findClass_of_methodNamed B.named⟩
  have hl := lv_entry ([.ref x, .ref mo]) (n := 4) (Nat.le_of_ble_eq_true rfl)
  rw [lg_entry_eq]
  generalize (lg_sl ([.ref x, .ref mo]) ++ List.replicate (4 - (lg_sl ([.ref x, .ref mo])).length) Slot.unset).toArray = ls at hl ⊢
  have hl : lv_has ls 4 [(0, .ref x), (1, .ref mo)] := hl
  obtain ⟨r, hr⟩ : ∃ r, f_ST_goodPartials powers challenges answers block partials base checks pp qq modulus order = r := ⟨_, rfl⟩
  rw [hr]
  unfold f_ST_goodPartials at hr
  refine lv_iconst (v := (0 : Int32)) hx hb d_ST_goodPartials_0 (by decide) ?_
  refine lv_istore_n hx hb d_ST_goodPartials_1 rfl hl (by decide) rfl (fun ls hl => ?_)
  have hl : lv_has ls 4 [(2, .int (0 : Int32)), (0, .ref x), (1, .ref mo)] := hl
  refine lv_iconst (v := (0 : Int32)) hx hb d_ST_goodPartials_2 (by decide) ?_
  refine lv_istore_n hx hb d_ST_goodPartials_3 rfl hl (by decide) rfl (fun ls hl => ?_)
  have hl : lv_has ls 4 [(3, .int (0 : Int32)), (2, .int (0 : Int32)), (0, .ref x), (1, .ref mo)] := hl
  exact wl_ST_goodPartials_4 (x := x) (mo := mo) (k := k) (bu := bu) (ma := ma) (se := se) (motionCount := motionCount) (sealedCount := sealedCount) (suspended := suspended) (sh := sh) (ch := ch) (dealt := dealt) (epoch := epoch) (base := base) (whole := whole) (signing := signing) (pp := pp) (qq := qq) (modulus := modulus) (order := order) (checks := checks) (pw := pw) (cg := cg) (an := an) (standing := standing) (block := block) (partials := partials) (objections := objections) (signature := signature) (powers := powers) (challenges := challenges) (answers := answers) hg hw S hP hl0 ht  7 (0 : Int32) (0 : Int32) r ls hr (by decide) (lv_sub hl [0, 1, 2, 3] rfl)
