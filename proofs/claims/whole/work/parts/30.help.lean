/-! the helpers of the law -/
theorem xh_01 : vp_in (0 : Int32) 1 := vp_in_iff.mpr ⟨by decide, by decide⟩
def xt_in (L : List String) (g : Option String) : Prop := ∀ E, g = some E → E ∈ L
theorem xt_in0 {L : List String} : xt_in L none := fun _ h => nomatch h
theorem xt_inS {L : List String} {E : String} (h : E ∈ L) : xt_in L (some E) := fun _ k => Option.some.inj k ▸ h
theorem xt_inW {L M : List String} {g : Option String} (h : xt_in L g) (k : ∀ x ∈ L, x ∈ M) : xt_in M g := fun E z => k E (h E z)
theorem xt_inI {L : List String} {P : Prop} [Decidable P] {a b : Option String} (h : xt_in L a) (k : xt_in L b) : xt_in L (if P then a else b) := by
  split
  · exact h
  · exact k
theorem xt_inE {L : List String} {g k : Option String} (h : xt_in L g) (z : xt_in L k) : xt_in L (xt_el g g k) := by
  cases g with
  | none => exact z
  | some a => exact h
theorem xt_els {g k : Option String} {E : String} (h : xt_el g g k = some E) : g = some E ∨ (g = none ∧ k = some E) := by
  cases g with
  | none => exact Or.inr ⟨rfl, h⟩
  | some a => exact Or.inl h
theorem xh_e1 {E1 E2 : String} : xh_c E1 E2 (some E1) = 1 := if_pos rfl
theorem xh_e2 {E1 E2 : String} (h : ¬ E2 = E1) : xh_c E1 E2 (some E2) = 2 := by
  show (if E2 = E1 then (1 : Int32) else _) = 2
  rw [if_neg h, if_pos rfl]
theorem xh_e3 {E1 E2 E3 : String} (h : ¬ E3 = E1) (h2 : ¬ E3 = E2) : xh_c E1 E2 (some E3) = 3 := by
  show (if E3 = E1 then (1 : Int32) else _) = 3
  rw [if_neg h, if_neg h2]
theorem gi_ST_requireKey {dealt : Int32} : xt_in [xt_IS] (g_ST_requireKey dealt) := by
  unfold g_ST_requireKey
  repeat' first | exact xt_in0 | exact xt_inS (by decide) | refine xt_inI ?_ ?_ | refine xt_inE ?_ ?_
theorem gv_ST_requireKey {E : String} {dealt : Int32} (h : g_ST_requireKey dealt = some E) : E = xt_IS := List.mem_singleton.mp (gi_ST_requireKey _ h)
theorem gi_ST_motionAt {number : Int32} {motionCount : Int32} : xt_in [xt_NS] (g_ST_motionAt number motionCount) := by
  unfold g_ST_motionAt
  repeat' first | exact xt_in0 | exact xt_inS (by decide) | exact xt_inW (gi_ST_requireKey ..) (by decide) | refine xt_inI ?_ ?_ | refine xt_inE ?_ ?_
theorem gv_ST_motionAt {E : String} {number : Int32} {motionCount : Int32} (h : g_ST_motionAt number motionCount = some E) : E = xt_NS := List.mem_singleton.mp (gi_ST_motionAt _ h)
theorem gi_ST_requireTrustee {trustee : Int32} : xt_in [xt_NS] (g_ST_requireTrustee trustee) := by
  unfold g_ST_requireTrustee
  repeat' first | exact xt_in0 | exact xt_inS (by decide) | exact xt_inW (gi_ST_requireKey ..) (by decide) | exact xt_inW (gi_ST_motionAt ..) (by decide) | refine xt_inI ?_ ?_ | refine xt_inE ?_ ?_
theorem gv_ST_requireTrustee {E : String} {trustee : Int32} (h : g_ST_requireTrustee trustee = some E) : E = xt_NS := List.mem_singleton.mp (gi_ST_requireTrustee _ h)
theorem gi_ST_requireOpen {standing : Int32} : xt_in [xt_IS] (g_ST_requireOpen standing) := by
  unfold g_ST_requireOpen
  repeat' first | exact xt_in0 | exact xt_inS (by decide) | exact xt_inW (gi_ST_requireKey ..) (by decide) | exact xt_inW (gi_ST_motionAt ..) (by decide) | exact xt_inW (gi_ST_requireTrustee ..) (by decide) | refine xt_inI ?_ ?_ | refine xt_inE ?_ ?_
theorem gv_ST_requireOpen {E : String} {standing : Int32} (h : g_ST_requireOpen standing = some E) : E = xt_IS := List.mem_singleton.mp (gi_ST_requireOpen _ h)
theorem gi_ST_requireNoVoice {partials : Int32} {objections : Int32} {trustee : Int32} : xt_in [xt_IS] (g_ST_requireNoVoice partials objections trustee) := by
  unfold g_ST_requireNoVoice
  repeat' first | exact xt_in0 | exact xt_inS (by decide) | exact xt_inW (gi_ST_requireKey ..) (by decide) | exact xt_inW (gi_ST_motionAt ..) (by decide) | exact xt_inW (gi_ST_requireTrustee ..) (by decide) | exact xt_inW (gi_ST_requireOpen ..) (by decide) | refine xt_inI ?_ ?_ | refine xt_inE ?_ ?_
theorem gv_ST_requireNoVoice {E : String} {partials : Int32} {objections : Int32} {trustee : Int32} (h : g_ST_requireNoVoice partials objections trustee = some E) : E = xt_IS := List.mem_singleton.mp (gi_ST_requireNoVoice _ h)
theorem gi_ST_requireDocument {dealt : Int32} {size : Int32} : xt_in [xt_IS] (g_ST_requireDocument dealt size) := by
  unfold g_ST_requireDocument
  repeat' first | exact xt_in0 | exact xt_inS (by decide) | exact xt_inW (gi_ST_requireKey ..) (by decide) | exact xt_inW (gi_ST_motionAt ..) (by decide) | exact xt_inW (gi_ST_requireTrustee ..) (by decide) | exact xt_inW (gi_ST_requireOpen ..) (by decide) | exact xt_inW (gi_ST_requireNoVoice ..) (by decide) | refine xt_inI ?_ ?_ | refine xt_inE ?_ ?_
theorem gv_ST_requireDocument {E : String} {dealt : Int32} {size : Int32} (h : g_ST_requireDocument dealt size = some E) : E = xt_IS := List.mem_singleton.mp (gi_ST_requireDocument _ h)
theorem gi_ST_deal {p_ : Int32} {q_ : Int32} {a : Int32} {b : Int32} {root_ : Int32} : xt_in [xt_IA] (g_ST_deal p_ q_ a b root_) := by
  unfold g_ST_deal
  repeat' first | exact xt_in0 | exact xt_inS (by decide) | exact xt_inW (gi_ST_requireKey ..) (by decide) | exact xt_inW (gi_ST_motionAt ..) (by decide) | exact xt_inW (gi_ST_requireTrustee ..) (by decide) | exact xt_inW (gi_ST_requireOpen ..) (by decide) | exact xt_inW (gi_ST_requireNoVoice ..) (by decide) | exact xt_inW (gi_ST_requireDocument ..) (by decide) | refine xt_inI ?_ ?_ | refine xt_inE ?_ ?_
theorem gv_ST_deal {E : String} {p_ : Int32} {q_ : Int32} {a : Int32} {b : Int32} {root_ : Int32} (h : g_ST_deal p_ q_ a b root_ = some E) : E = xt_IA := List.mem_singleton.mp (gi_ST_deal _ h)
set_option maxHeartbeats 4000000 in
set_option maxRecDepth 100000 in
theorem ct_LW_deal (l : Launch) {G : xg_G} (hg : xg_F G) (hl9 : l.stackTraces = false) (H : Heap) (hO : xg_O G H) (x : Nat) (p_ : Int32) (q_ : Int32) (a : Int32) (b : Int32) (root_ : Int32) (k : Nat) (bu : Nat) (ma : Nat) (se : Nat) (motionCount : Int32) (sealedCount : Int32) (suspended : Int32) (sh : Nat) (ch : Nat) (dealt : Int32) (epoch : Int64) (base : Int64) (whole : Int64) (signing : Int64) (pp : Int64) (qq : Int64) (modulus : Int64) (order : Int64) (shares : Nat → Int64) (checks : Nat → Int64) (hP : va_P G.2.1 cl_all [(x, .inr (3, [.ref k, .ref bu, .ref ma, .ref se, .int motionCount, .int sealedCount, .int suspended])), (k, .inr (1, [.ref sh, .ref ch, .int dealt, .long epoch, .long base, .long whole, .long signing, .long pp, .long qq, .long modulus, .long order])), (sh, .inl (G.2.2.2.1, 6, .inr (.inl shares))), (ch, .inl (G.2.2.2.1, 6, .inr (.inl checks)))] H) (hD0 : va_D (fun _ => True) [(x, .inr (3, [.ref k, .ref bu, .ref ma, .ref se, .int motionCount, .int sealedCount, .int suspended])), (k, .inr (1, [.ref sh, .ref ch, .int dealt, .long epoch, .long base, .long whole, .long signing, .long pp, .long qq, .long modulus, .long order])), (sh, .inl (G.2.2.2.1, 6, .inr (.inl shares))), (ch, .inl (G.2.2.2.1, 6, .inr (.inl checks)))])  : xc_Met l y_LW_deal (.codeWith y_LW_deal b_LW_deal 7 (some .int) [(0, 11, 14, 13)]) ({ frames := 7, cells := 1, slots := 6, locals := 99 } : Room) (xg_Pc G [.ref x, .int p_, .int q_, .int a, .int b, .int root_] H) (xw_post G (va_A [(x, .inr (3, [.ref k, .ref bu, .ref ma, .ref se, .int motionCount, .int sealedCount, .int suspended])), (k, .inr (1, [.ref sh, .ref ch, .int dealt, .long epoch, .long base, .long whole, .long signing, .long pp, .long qq, .long modulus, .long order])), (sh, .inl (G.2.2.2.1, 6, .inr (.inl shares))), (ch, .inl (G.2.2.2.1, 6, .inr (.inl checks)))] H.size) (some (.int (xh_c xt_IA xt_IS (g_ST_deal p_ q_ a b root_)))) [(x, .inr (3, [.ref k, .ref bu, .ref ma, .ref se, .int (xt_el (g_ST_deal p_ q_ a b root_) motionCount (f_ST_deal_motionCount p_ q_ a b root_)), .int (xt_el (g_ST_deal p_ q_ a b root_) sealedCount (f_ST_deal_sealedCount p_ q_ a b root_)), .int (xt_el (g_ST_deal p_ q_ a b root_) suspended (f_ST_deal_suspended p_ q_ a b root_))])), (k, .inr (1, [.ref sh, .ref ch, .int (xt_el (g_ST_deal p_ q_ a b root_) dealt (f_ST_deal_dealt p_ q_ a b root_)), .long (xt_el (g_ST_deal p_ q_ a b root_) epoch (f_ST_deal_epoch p_ q_ a b root_)), .long (xt_el (g_ST_deal p_ q_ a b root_) base (f_ST_deal_base p_ q_ a b root_)), .long (xt_el (g_ST_deal p_ q_ a b root_) whole (f_ST_deal_whole p_ q_ a b root_)), .long (xt_el (g_ST_deal p_ q_ a b root_) signing (f_ST_deal_signing p_ q_ a b root_)), .long (xt_el (g_ST_deal p_ q_ a b root_) pp (f_ST_deal_p p_ q_ a b root_)), .long (xt_el (g_ST_deal p_ q_ a b root_) qq (f_ST_deal_q p_ q_ a b root_)), .long (xt_el (g_ST_deal p_ q_ a b root_) modulus (f_ST_deal_modulus p_ q_ a b root_)), .long (xt_el (g_ST_deal p_ q_ a b root_) order (f_ST_deal_order p_ q_ a b root_))])), (sh, .inl (G.2.2.2.1, 6, .inr (.inl (xt_el (g_ST_deal p_ q_ a b root_) shares (f_ST_deal_SH p_ q_ a b root_ shares checks))))), (ch, .inl (G.2.2.2.1, 6, .inr (.inl (xt_el (g_ST_deal p_ q_ a b root_) checks (f_ST_deal_CH p_ q_ a b root_ shares checks)))))]) (va_A [(x, .inr (3, [.ref k, .ref bu, .ref ma, .ref se, .int motionCount, .int sealedCount, .int suspended])), (k, .inr (1, [.ref sh, .ref ch, .int dealt, .long epoch, .long base, .long whole, .long signing, .long pp, .long qq, .long modulus, .long order])), (sh, .inl (G.2.2.2.1, 6, .inr (.inl shares))), (ch, .inl (G.2.2.2.1, 6, .inr (.inl checks)))] H.size) := by
  refine xc_ofWH (by decide) ?_
  intro p e s m args below meth c s₁ B hml hE hv
  obtain ⟨rfl, rfl, hw⟩ := hv
  have hx := B.exec
  have hb := B.bytes
  have ht := B.returns
  have hl0 := B.notSynchronized
  have S : xc_Fix p m c b_LW_deal 7 s "SealTrustLaw" := ⟨hx, hb, hml, findClass_of_methodNamed B.named⟩
  have hD := hD0.self (sz := s.heap.size)
  generalize hAe : va_A [(x, .inr (3, [.ref k, .ref bu, .ref ma, .ref se, .int motionCount, .int sealedCount, .int suspended])), (k, .inr (1, [.ref sh, .ref ch, .int dealt, .long epoch, .long base, .long whole, .long signing, .long pp, .long qq, .long modulus, .long order])), (sh, .inl (G.2.2.2.1, 6, .inr (.inl shares))), (ch, .inl (G.2.2.2.1, 6, .inr (.inl checks)))] s.heap.size = A at hD ⊢
  have hA : ∀ q : Nat, s.heap.size ≤ q → A q := fun q h => by rw [← hAe]; exact Or.inr h
  have hS : va_S A s.heap s.heap [] := va_S.rf
  have hl := lv_entry ([.ref x, .int p_, .int q_, .int a, .int b, .int root_]) (n := 7) (Nat.le_of_ble_eq_true rfl)
  rw [lg_entry_eq]
  generalize (lg_sl ([.ref x, .int p_, .int q_, .int a, .int b, .int root_]) ++ List.replicate (7 - (lg_sl ([.ref x, .int p_, .int q_, .int a, .int b, .int root_])).length) Slot.unset).toArray = ls at hl ⊢
  have hl : lv_has ls 7 [(0, .ref x), (1, .int p_), (2, .int q_), (3, .int a), (4, .int b), (5, .int root_)] := hl
  obtain ⟨gg, hgg⟩ : ∃ r, g_ST_deal p_ q_ a b root_ = r := ⟨_, rfl⟩
  rw [hgg]
  show W p l e ({ frames := 7, cells := 1, slots := 6, locals := 99 } : Room) s m _ below meth c s.heap [] 0 0 (xc_Z below _ _ _ s 1 6) _
  refine lv_aload_n hx hb d_LW_deal_0 rfl (lv_at hl 0 rfl) ?_
  refine lv_iload_n hx hb d_LW_deal_1 rfl (lv_at hl 1 rfl) ?_
  refine lv_iload_n hx hb d_LW_deal_2 rfl (lv_at hl 2 rfl) ?_
  refine lv_iload_n hx hb d_LW_deal_3 rfl (lv_at hl 3 rfl) ?_
  refine lv_iload hx hb d_LW_deal_4 (lv_at hl 4 rfl) ?_
  refine lv_iload hx hb d_LW_deal_6 (lv_at hl 5 rfl) ?_
  refine xh_useW (wc := [(x, .inr (3, [.ref k, .ref bu, .ref ma, .ref se, .int motionCount, .int sealedCount, .int suspended])), (k, .inr (1, [.ref sh, .ref ch, .int dealt, .long epoch, .long base, .long whole, .long signing, .long pp, .long qq, .long modulus, .long order])), (sh, .inl (G.2.2.2.1, 6, .inr (.inl shares))), (ch, .inl (G.2.2.2.1, 6, .inr (.inl checks)))]) (wr := []) (xg_runV (rest := []) (kw := 0) si_LW_7 hg hw S (va_recv (xg_k hg hw) hP (ci := 3) rfl (q0 := 0) rfl) (ct_ST_deal l hg hl9 s.heap hO x p_ q_ a b root_ k bu ma se motionCount sealedCount suspended sh ch dealt epoch base whole signing pp qq modulus order shares checks hP ((hD.sub [0, 1, 2, 3] (by decide) rfl).weaken (fun _ _ _ _ => trivial)) ) ⟨by decide, by decide, by decide, by decide⟩ rfl hl.1 rfl (Nat.le_of_ble_eq_true rfl) d_LW_deal_8) hP hD hS hA [0, 1, 2, 3] [] rfl rfl (by decide) (by decide) (fun h0 H8 L8 hP hD hS => ?_) (fun E9 q9 ce H9 L9 h0 hP hS hce hcv hcl => ?_)
  · rw [hgg] at h0
    subst h0
    have hP : va_P G.2.1 cl_all [(x, .inr (3, [.ref k, .ref bu, .ref ma, .ref se, .int (f_ST_deal_motionCount p_ q_ a b root_), .int (f_ST_deal_sealedCount p_ q_ a b root_), .int (f_ST_deal_suspended p_ q_ a b root_)])), (k, .inr (1, [.ref sh, .ref ch, .int (f_ST_deal_dealt p_ q_ a b root_), .long (f_ST_deal_epoch p_ q_ a b root_), .long (f_ST_deal_base p_ q_ a b root_), .long (f_ST_deal_whole p_ q_ a b root_), .long (f_ST_deal_signing p_ q_ a b root_), .long (f_ST_deal_p p_ q_ a b root_), .long (f_ST_deal_q p_ q_ a b root_), .long (f_ST_deal_modulus p_ q_ a b root_), .long (f_ST_deal_order p_ q_ a b root_)])), (sh, .inl (G.2.2.2.1, 6, .inr (.inl (f_ST_deal_SH p_ q_ a b root_ shares checks)))), (ch, .inl (G.2.2.2.1, 6, .inr (.inl (f_ST_deal_CH p_ q_ a b root_ shares checks))))] H8 := hP
    have hD : va_D A [(x, .inr (3, [.ref k, .ref bu, .ref ma, .ref se, .int (f_ST_deal_motionCount p_ q_ a b root_), .int (f_ST_deal_sealedCount p_ q_ a b root_), .int (f_ST_deal_suspended p_ q_ a b root_)])), (k, .inr (1, [.ref sh, .ref ch, .int (f_ST_deal_dealt p_ q_ a b root_), .long (f_ST_deal_epoch p_ q_ a b root_), .long (f_ST_deal_base p_ q_ a b root_), .long (f_ST_deal_whole p_ q_ a b root_), .long (f_ST_deal_signing p_ q_ a b root_), .long (f_ST_deal_p p_ q_ a b root_), .long (f_ST_deal_q p_ q_ a b root_), .long (f_ST_deal_modulus p_ q_ a b root_), .long (f_ST_deal_order p_ q_ a b root_)])), (sh, .inl (G.2.2.2.1, 6, .inr (.inl (f_ST_deal_SH p_ q_ a b root_ shares checks)))), (ch, .inl (G.2.2.2.1, 6, .inr (.inl (f_ST_deal_CH p_ q_ a b root_ shares checks))))] := hD
    refine lv_goto hx hb d_LW_deal_11 (tgt := 18) (by decide) ?_
    refine lv_iconst (v := (0 : Int32)) hx hb d_LW_deal_18 (by decide) ?_
    refine W.widen (k := 1) (n := 6) (Nat.le_of_ble_eq_true rfl) (Nat.le_of_ble_eq_true rfl) ?_
    exact xw_iret hx hb ht hl0 hP hD hS d_LW_deal_19
  · have h1 := gv_ST_deal h0
    rw [hgg] at h0
    subst h0
    subst h1
    refine xh_1 hE ⟨by decide, by decide⟩ (by decide) hg hw S.2.2.2 xh_k1 xh_s1 hce hcv hcl ?_
    rw [show xh_c xt_IA xt_IS (some xt_IA) = 1 from xh_e1]
    refine lv_astore hx hb d_LW_deal_14 hl (by decide) rfl (fun ls hl => ?_)
    have hl : lv_has ls 7 [(6, .ref q9), (0, .ref x), (1, .int p_), (2, .int q_), (3, .int a), (4, .int b), (5, .int root_)] := hl
    refine lv_iconst (v := (1 : Int32)) hx hb d_LW_deal_16 (by decide) ?_
    refine W.widen (k := 1) (n := 6) (Nat.le_of_ble_eq_true rfl) (Nat.le_of_ble_eq_true rfl) ?_
    exact xw_iret hx hb ht hl0 hP hD hS d_LW_deal_17
theorem gi_ST_put {n_ : Int32} {size : Int32} : xt_in [xt_IA] (g_ST_put n_ size) := by
  unfold g_ST_put
  repeat' first | exact xt_in0 | exact xt_inS (by decide) | exact xt_inW (gi_ST_requireKey ..) (by decide) | exact xt_inW (gi_ST_motionAt ..) (by decide) | exact xt_inW (gi_ST_requireTrustee ..) (by decide) | exact xt_inW (gi_ST_requireOpen ..) (by decide) | exact xt_inW (gi_ST_requireNoVoice ..) (by decide) | exact xt_inW (gi_ST_requireDocument ..) (by decide) | exact xt_inW (gi_ST_deal ..) (by decide) | refine xt_inI ?_ ?_ | refine xt_inE ?_ ?_
theorem gv_ST_put {E : String} {n_ : Int32} {size : Int32} (h : g_ST_put n_ size = some E) : E = xt_IA := List.mem_singleton.mp (gi_ST_put _ h)
set_option maxHeartbeats 4000000 in
set_option maxRecDepth 100000 in
theorem ct_LW_put (l : Launch) {G : xg_G} (hg : xg_F G) (hl9 : l.stackTraces = false) (H : Heap) (hO : xg_O G H) (x : Nat) (word : Int32) (n_ : Int32) (k : Nat) (bu : Nat) (ma : Nat) (se : Nat) (motionCount : Int32) (sealedCount : Int32) (suspended : Int32) (bys : Nat) (size : Int32) (bytes : Nat → Int32) (ou : Nat) (outf : Nat → Int64) (hP : va_P G.2.1 cl_all [(x, .inr (3, [.ref k, .ref bu, .ref ma, .ref se, .int motionCount, .int sealedCount, .int suspended])), (bu, .inr (0, [.ref bys, .int size])), (bys, .inl (G.2.2.1, 24, .inl bytes)), (ou, .inl (G.2.2.2.1, 1, .inr (.inl outf)))] H) (hD0 : va_D (fun _ => True) [(x, .inr (3, [.ref k, .ref bu, .ref ma, .ref se, .int motionCount, .int sealedCount, .int suspended])), (bu, .inr (0, [.ref bys, .int size])), (bys, .inl (G.2.2.1, 24, .inl bytes)), (ou, .inl (G.2.2.2.1, 1, .inr (.inl outf)))]) (hZ : 0 ≤ size.toInt) : xc_Met l y_LW_put (.codeWith y_LW_put b_LW_put 5 (some .int) [(0, 10, 13, 13)]) ({ frames := 7, cells := 1, slots := 6, locals := 98 } : Room) (xg_Pc G [.ref x, .int word, .int n_, .ref ou] H) (xw_post G (va_A [(x, .inr (3, [.ref k, .ref bu, .ref ma, .ref se, .int motionCount, .int sealedCount, .int suspended])), (bu, .inr (0, [.ref bys, .int size])), (bys, .inl (G.2.2.1, 24, .inl bytes)), (ou, .inl (G.2.2.2.1, 1, .inr (.inl outf)))] H.size) (some (.int (xh_c xt_IA xt_IS (g_ST_put n_ size)))) [(x, .inr (3, [.ref k, .ref bu, .ref ma, .ref se, .int motionCount, .int sealedCount, .int suspended])), (bu, .inr (0, [.ref bys, .int (xt_el (g_ST_put n_ size) size (f_ST_put_size word n_ size bytes))])), (bys, .inl (G.2.2.1, 24, .inl (xt_el (g_ST_put n_ size) bytes (f_ST_put_BY word n_ size bytes)))), (ou, .inl (G.2.2.2.1, 1, .inr (.inl (xt_el (g_ST_put n_ size) outf (vp_updL outf (0 : Int32).toNatClampNeg (f_ST_put word n_ size bytes).toInt64)))))]) (va_A [(x, .inr (3, [.ref k, .ref bu, .ref ma, .ref se, .int motionCount, .int sealedCount, .int suspended])), (bu, .inr (0, [.ref bys, .int size])), (bys, .inl (G.2.2.1, 24, .inl bytes)), (ou, .inl (G.2.2.2.1, 1, .inr (.inl outf)))] H.size) := by
  refine xc_ofWH (by decide) ?_
  intro p e s m args below meth c s₁ B hml hE hv
  obtain ⟨rfl, rfl, hw⟩ := hv
  have hx := B.exec
  have hb := B.bytes
  have ht := B.returns
  have hl0 := B.notSynchronized
  have S : xc_Fix p m c b_LW_put 5 s "SealTrustLaw" := ⟨hx, hb, hml, findClass_of_methodNamed B.named⟩
  have hD := hD0.self (sz := s.heap.size)
  generalize hAe : va_A [(x, .inr (3, [.ref k, .ref bu, .ref ma, .ref se, .int motionCount, .int sealedCount, .int suspended])), (bu, .inr (0, [.ref bys, .int size])), (bys, .inl (G.2.2.1, 24, .inl bytes)), (ou, .inl (G.2.2.2.1, 1, .inr (.inl outf)))] s.heap.size = A at hD ⊢
  have hA : ∀ q : Nat, s.heap.size ≤ q → A q := fun q h => by rw [← hAe]; exact Or.inr h
  have hS : va_S A s.heap s.heap [] := va_S.rf
  have hl := lv_entry ([.ref x, .int word, .int n_, .ref ou]) (n := 5) (Nat.le_of_ble_eq_true rfl)
  rw [lg_entry_eq]
  generalize (lg_sl ([.ref x, .int word, .int n_, .ref ou]) ++ List.replicate (5 - (lg_sl ([.ref x, .int word, .int n_, .ref ou])).length) Slot.unset).toArray = ls at hl ⊢
  have hl : lv_has ls 5 [(0, .ref x), (1, .int word), (2, .int n_), (3, .ref ou)] := hl
  obtain ⟨gg, hgg⟩ : ∃ r, g_ST_put n_ size = r := ⟨_, rfl⟩
  rw [hgg]
  show W p l e ({ frames := 7, cells := 1, slots := 6, locals := 98 } : Room) s m _ below meth c s.heap [] 0 0 (xc_Z below _ _ _ s 1 6) _
  refine lv_aload_n hx hb d_LW_put_0 rfl (lv_at hl 3 rfl) ?_
  refine lv_iconst (v := (0 : Int32)) hx hb d_LW_put_1 (by decide) ?_
  refine lv_aload_n hx hb d_LW_put_2 rfl (lv_at hl 0 rfl) ?_
  refine lv_iload_n hx hb d_LW_put_3 rfl (lv_at hl 1 rfl) ?_
  refine lv_iload_n hx hb d_LW_put_4 rfl (lv_at hl 2 rfl) ?_
  refine xh_useW (wc := [(x, .inr (3, [.ref k, .ref bu, .ref ma, .ref se, .int motionCount, .int sealedCount, .int suspended])), (bu, .inr (0, [.ref bys, .int size])), (bys, .inl (G.2.2.1, 24, .inl bytes))]) (wr := [(ou, .inl (G.2.2.2.1, 1, .inr (.inl outf)))]) (xg_runV (rest := [.int (0 : Int32), .ref ou]) (kw := 2) si_LW_15 hg hw S (va_recv (xg_k hg hw) hP (ci := 3) rfl (q0 := 0) rfl) (ct_ST_put l hg hl9 s.heap hO x word n_ k bu ma se motionCount sealedCount suspended bys size bytes (hP.sub [0, 1, 2] rfl) ((hD.sub [0, 1, 2] (by decide) rfl).weaken (fun _ _ _ _ => trivial)) hZ) ⟨by decide, by decide, by decide, by decide⟩ rfl hl.1 rfl (Nat.le_of_ble_eq_true rfl) d_LW_put_5) hP hD hS hA [0, 1, 2] [3] rfl rfl (by decide) (by decide) (fun h0 H8 L8 hP hD hS => ?_) (fun E9 q9 ce H9 L9 h0 hP hS hce hcv hcl => ?_)
  · rw [hgg] at h0
    subst h0
    have hP : va_P G.2.1 cl_all [(ou, .inl (G.2.2.2.1, 1, .inr (.inl outf))), (x, .inr (3, [.ref k, .ref bu, .ref ma, .ref se, .int motionCount, .int sealedCount, .int suspended])), (bu, .inr (0, [.ref bys, .int (f_ST_put_size word n_ size bytes)])), (bys, .inl (G.2.2.1, 24, .inl (f_ST_put_BY word n_ size bytes)))] H8 := hP
    have hD : va_D A [(ou, .inl (G.2.2.2.1, 1, .inr (.inl outf))), (x, .inr (3, [.ref k, .ref bu, .ref ma, .ref se, .int motionCount, .int sealedCount, .int suspended])), (bu, .inr (0, [.ref bys, .int (f_ST_put_size word n_ size bytes)])), (bys, .inl (G.2.2.1, 24, .inl (f_ST_put_BY word n_ size bytes)))] := hD
    refine lv_i2l hx hb d_LW_put_8 rfl ?_
    refine va_last hx hb (xg_k hg hw) hP hD hS 0 1 rfl rfl xh_01 d_LW_put_9 (fun H7 L7 hP hD hS => ?_)
    have hP : va_P G.2.1 cl_all [(ou, .inl (G.2.2.2.1, 1, .inr (.inl (vp_updL outf (0 : Int32).toNatClampNeg ((f_ST_put word n_ size bytes).toInt64))))), (x, .inr (3, [.ref k, .ref bu, .ref ma, .ref se, .int motionCount, .int sealedCount, .int suspended])), (bu, .inr (0, [.ref bys, .int (f_ST_put_size word n_ size bytes)])), (bys, .inl (G.2.2.1, 24, .inl (f_ST_put_BY word n_ size bytes)))] H7 := hP
    have hD : va_D A [(ou, .inl (G.2.2.2.1, 1, .inr (.inl (vp_updL outf (0 : Int32).toNatClampNeg ((f_ST_put word n_ size bytes).toInt64))))), (x, .inr (3, [.ref k, .ref bu, .ref ma, .ref se, .int motionCount, .int sealedCount, .int suspended])), (bu, .inr (0, [.ref bys, .int (f_ST_put_size word n_ size bytes)])), (bys, .inl (G.2.2.1, 24, .inl (f_ST_put_BY word n_ size bytes)))] := hD
    refine lv_goto hx hb d_LW_put_10 (tgt := 17) (by decide) ?_
    refine lv_iconst (v := (0 : Int32)) hx hb d_LW_put_17 (by decide) ?_
    have hP := hP.sub (ws' := [(x, .inr (3, [.ref k, .ref bu, .ref ma, .ref se, .int motionCount, .int sealedCount, .int suspended])), (bu, .inr (0, [.ref bys, .int (f_ST_put_size word n_ size bytes)])), (bys, .inl (G.2.2.1, 24, .inl (f_ST_put_BY word n_ size bytes))), (ou, .inl (G.2.2.2.1, 1, .inr (.inl (vp_updL outf (0 : Int32).toNatClampNeg ((f_ST_put word n_ size bytes).toInt64)))))]) [1, 2, 3, 0] rfl
    have hD := hD.sub (ws' := [(x, .inr (3, [.ref k, .ref bu, .ref ma, .ref se, .int motionCount, .int sealedCount, .int suspended])), (bu, .inr (0, [.ref bys, .int (f_ST_put_size word n_ size bytes)])), (bys, .inl (G.2.2.1, 24, .inl (f_ST_put_BY word n_ size bytes))), (ou, .inl (G.2.2.2.1, 1, .inr (.inl (vp_updL outf (0 : Int32).toNatClampNeg ((f_ST_put word n_ size bytes).toInt64)))))]) [1, 2, 3, 0] (by decide) rfl
    refine W.widen (k := 1) (n := 6) (Nat.le_of_ble_eq_true rfl) (Nat.le_of_ble_eq_true rfl) ?_
    exact xw_iret hx hb ht hl0 hP hD hS d_LW_put_18
  · have h1 := gv_ST_put h0
    rw [hgg] at h0
    subst h0
    subst h1
    refine xh_1 hE ⟨by decide, by decide⟩ (by decide) hg hw S.2.2.2 xh_k1 xh_s1 hce hcv hcl ?_
    rw [show xh_c xt_IA xt_IS (some xt_IA) = 1 from xh_e1]
    refine lv_astore hx hb d_LW_put_13 hl (by decide) rfl (fun ls hl => ?_)
    have hl : lv_has ls 5 [(4, .ref q9), (0, .ref x), (1, .int word), (2, .int n_), (3, .ref ou)] := hl
    refine lv_iconst (v := (1 : Int32)) hx hb d_LW_put_15 (by decide) ?_
    refine W.widen (k := 1) (n := 6) (Nat.le_of_ble_eq_true rfl) (Nat.le_of_ble_eq_true rfl) ?_
    exact xw_iret hx hb ht hl0 hP hD hS d_LW_put_16
theorem gi_ST_motion {motionCount : Int32} {dealt : Int32} {size : Int32} : xt_in [xt_IS] (g_ST_motion motionCount dealt size) := by
  unfold g_ST_motion
  repeat' first | exact xt_in0 | exact xt_inS (by decide) | exact xt_inW (gi_ST_requireKey ..) (by decide) | exact xt_inW (gi_ST_motionAt ..) (by decide) | exact xt_inW (gi_ST_requireTrustee ..) (by decide) | exact xt_inW (gi_ST_requireOpen ..) (by decide) | exact xt_inW (gi_ST_requireNoVoice ..) (by decide) | exact xt_inW (gi_ST_requireDocument ..) (by decide) | exact xt_inW (gi_ST_deal ..) (by decide) | exact xt_inW (gi_ST_put ..) (by decide) | refine xt_inI ?_ ?_ | refine xt_inE ?_ ?_
theorem gv_ST_motion {E : String} {motionCount : Int32} {dealt : Int32} {size : Int32} (h : g_ST_motion motionCount dealt size = some E) : E = xt_IS := List.mem_singleton.mp (gi_ST_motion _ h)
set_option maxHeartbeats 4000000 in
set_option maxRecDepth 100000 in
theorem ct_LW_motion (l : Launch) {G : xg_G} (hg : xg_F G) (hl9 : l.stackTraces = false) (H : Heap) (hO : xg_O G H) (x : Nat) (k : Nat) (bu : Nat) (ma : Nat) (se : Nat) (motionCount : Int32) (sealedCount : Int32) (suspended : Int32) (sh : Nat) (ch : Nat) (dealt : Int32) (epoch : Int64) (base : Int64) (whole : Int64) (signing : Int64) (pp : Int64) (qq : Int64) (modulus : Int64) (order : Int64) (bys : Nat) (size : Int32) (bytes : Nat → Int32) (mot : Nat → Option Nat) (mo : Nat) (pw : Nat) (cg : Nat) (an : Nat) (standing : Int32) (block : Int64) (partials : Int32) (objections : Int32) (signature : Int64) (ou : Nat) (outf : Nat → Int64) (hP : va_P G.2.1 cl_all [(x, .inr (3, [.ref k, .ref bu, .ref ma, .ref se, .int motionCount, .int sealedCount, .int suspended])), (k, .inr (1, [.ref sh, .ref ch, .int dealt, .long epoch, .long base, .long whole, .long signing, .long pp, .long qq, .long modulus, .long order])), (bu, .inr (0, [.ref bys, .int size])), (bys, .inl (G.2.2.1, 24, .inl bytes)), (ma, .inl (G.2.2.2.2, 12, .inr (.inr (.inr (.inr mot))))), (mo, .inr (2, [.ref pw, .ref cg, .ref an, .int standing, .long block, .int partials, .int objections, .long signature])), (ou, .inl (G.2.2.2.1, 1, .inr (.inl outf)))] H) (hD0 : va_D (fun _ => True) [(x, .inr (3, [.ref k, .ref bu, .ref ma, .ref se, .int motionCount, .int sealedCount, .int suspended])), (k, .inr (1, [.ref sh, .ref ch, .int dealt, .long epoch, .long base, .long whole, .long signing, .long pp, .long qq, .long modulus, .long order])), (bu, .inr (0, [.ref bys, .int size])), (bys, .inl (G.2.2.1, 24, .inl bytes)), (ma, .inl (G.2.2.2.2, 12, .inr (.inr (.inr (.inr mot))))), (mo, .inr (2, [.ref pw, .ref cg, .ref an, .int standing, .long block, .int partials, .int objections, .long signature])), (ou, .inl (G.2.2.2.1, 1, .inr (.inl outf)))]) (hZ : size.toInt ≤ 24) (hC0 : 0 ≤ motionCount.toInt) (hM : motionCount < 12 → mot motionCount.toNatClampNeg = some mo) : xc_Met l y_LW_motion (.codeWith y_LW_motion b_LW_motion 3 (some .int) [(0, 8, 11, 23)]) ({ frames := 9, cells := 8, slots := 48, locals := 120 } : Room) (xg_Pc G [.ref x, .ref ou] H) (xw_post G (va_A [(x, .inr (3, [.ref k, .ref bu, .ref ma, .ref se, .int motionCount, .int sealedCount, .int suspended])), (k, .inr (1, [.ref sh, .ref ch, .int dealt, .long epoch, .long base, .long whole, .long signing, .long pp, .long qq, .long modulus, .long order])), (bu, .inr (0, [.ref bys, .int size])), (bys, .inl (G.2.2.1, 24, .inl bytes)), (ma, .inl (G.2.2.2.2, 12, .inr (.inr (.inr (.inr mot))))), (mo, .inr (2, [.ref pw, .ref cg, .ref an, .int standing, .long block, .int partials, .int objections, .long signature])), (ou, .inl (G.2.2.2.1, 1, .inr (.inl outf)))] H.size) (some (.int (xh_c xt_IS xt_NS (g_ST_motion motionCount dealt size)))) [(x, .inr (3, [.ref k, .ref bu, .ref ma, .ref se, .int (xt_el (g_ST_motion motionCount dealt size) motionCount (f_ST_motion_motionCount motionCount dealt size)), .int sealedCount, .int suspended])), (k, .inr (1, [.ref sh, .ref ch, .int dealt, .long epoch, .long base, .long whole, .long signing, .long pp, .long qq, .long modulus, .long order])), (bu, .inr (0, [.ref bys, .int (xt_el (g_ST_motion motionCount dealt size) size (f_ST_motion_size motionCount dealt size))])), (bys, .inl (G.2.2.1, 24, .inl bytes)), (ma, .inl (G.2.2.2.2, 12, .inr (.inr (.inr (.inr mot))))), (mo, .inr (2, [.ref pw, .ref cg, .ref an, .int (xt_el (g_ST_motion motionCount dealt size) standing (f_ST_motion_standing motionCount dealt modulus size bytes)), .long (xt_el (g_ST_motion motionCount dealt size) block (f_ST_motion_block motionCount dealt modulus size bytes)), .int (xt_el (g_ST_motion motionCount dealt size) partials (f_ST_motion_partials motionCount dealt modulus size bytes)), .int (xt_el (g_ST_motion motionCount dealt size) objections (f_ST_motion_objections motionCount dealt modulus size bytes)), .long (xt_el (g_ST_motion motionCount dealt size) signature (f_ST_motion_signature motionCount dealt modulus size bytes))])), (ou, .inl (G.2.2.2.1, 1, .inr (.inl (xt_el (g_ST_motion motionCount dealt size) outf (vp_updL outf (0 : Int32).toNatClampNeg (f_ST_motion motionCount dealt size).toInt64)))))]) (va_A [(x, .inr (3, [.ref k, .ref bu, .ref ma, .ref se, .int motionCount, .int sealedCount, .int suspended])), (k, .inr (1, [.ref sh, .ref ch, .int dealt, .long epoch, .long base, .long whole, .long signing, .long pp, .long qq, .long modulus, .long order])), (bu, .inr (0, [.ref bys, .int size])), (bys, .inl (G.2.2.1, 24, .inl bytes)), (ma, .inl (G.2.2.2.2, 12, .inr (.inr (.inr (.inr mot))))), (mo, .inr (2, [.ref pw, .ref cg, .ref an, .int standing, .long block, .int partials, .int objections, .long signature])), (ou, .inl (G.2.2.2.1, 1, .inr (.inl outf)))] H.size) := by
  refine xc_ofWH (by decide) ?_
  intro p e s m args below meth c s₁ B hml hE hv
  obtain ⟨rfl, rfl, hw⟩ := hv
  have hx := B.exec
  have hb := B.bytes
  have ht := B.returns
  have hl0 := B.notSynchronized
  have S : xc_Fix p m c b_LW_motion 3 s "SealTrustLaw" := ⟨hx, hb, hml, findClass_of_methodNamed B.named⟩
  have hD := hD0.self (sz := s.heap.size)
  generalize hAe : va_A [(x, .inr (3, [.ref k, .ref bu, .ref ma, .ref se, .int motionCount, .int sealedCount, .int suspended])), (k, .inr (1, [.ref sh, .ref ch, .int dealt, .long epoch, .long base, .long whole, .long signing, .long pp, .long qq, .long modulus, .long order])), (bu, .inr (0, [.ref bys, .int size])), (bys, .inl (G.2.2.1, 24, .inl bytes)), (ma, .inl (G.2.2.2.2, 12, .inr (.inr (.inr (.inr mot))))), (mo, .inr (2, [.ref pw, .ref cg, .ref an, .int standing, .long block, .int partials, .int objections, .long signature])), (ou, .inl (G.2.2.2.1, 1, .inr (.inl outf)))] s.heap.size = A at hD ⊢
  have hA : ∀ q : Nat, s.heap.size ≤ q → A q := fun q h => by rw [← hAe]; exact Or.inr h
  have hS : va_S A s.heap s.heap [] := va_S.rf
  have hl := lv_entry ([.ref x, .ref ou]) (n := 3) (Nat.le_of_ble_eq_true rfl)
  rw [lg_entry_eq]
  generalize (lg_sl ([.ref x, .ref ou]) ++ List.replicate (3 - (lg_sl ([.ref x, .ref ou])).length) Slot.unset).toArray = ls at hl ⊢
  have hl : lv_has ls 3 [(0, .ref x), (1, .ref ou)] := hl
  obtain ⟨gg, hgg⟩ : ∃ r, g_ST_motion motionCount dealt size = r := ⟨_, rfl⟩
  rw [hgg]
  show W p l e ({ frames := 9, cells := 8, slots := 48, locals := 120 } : Room) s m _ below meth c s.heap [] 0 0 (xc_Z below _ _ _ s 8 48) _
  refine lv_aload_n hx hb d_LW_motion_0 rfl (lv_at hl 1 rfl) ?_
  refine lv_iconst (v := (0 : Int32)) hx hb d_LW_motion_1 (by decide) ?_
  refine lv_aload_n hx hb d_LW_motion_2 rfl (lv_at hl 0 rfl) ?_
  refine xh_useW (wc := [(x, .inr (3, [.ref k, .ref bu, .ref ma, .ref se, .int motionCount, .int sealedCount, .int suspended])), (k, .inr (1, [.ref sh, .ref ch, .int dealt, .long epoch, .long base, .long whole, .long signing, .long pp, .long qq, .long modulus, .long order])), (bu, .inr (0, [.ref bys, .int size])), (bys, .inl (G.2.2.1, 24, .inl bytes)), (ma, .inl (G.2.2.2.2, 12, .inr (.inr (.inr (.inr mot))))), (mo, .inr (2, [.ref pw, .ref cg, .ref an, .int standing, .long block, .int partials, .int objections, .long signature]))]) (wr := [(ou, .inl (G.2.2.2.1, 1, .inr (.inl outf)))]) (xg_runV (rest := [.int (0 : Int32), .ref ou]) (kw := 2) si_LW_19 hg hw S (va_recv (xg_k hg hw) hP (ci := 3) rfl (q0 := 0) rfl) (ct_ST_motion l hg hl9 s.heap hO x k bu ma se motionCount sealedCount suspended sh ch dealt epoch base whole signing pp qq modulus order bys size bytes mot mo pw cg an standing block partials objections signature (hP.sub [0, 1, 2, 3, 4, 5] rfl) ((hD.sub [0, 1, 2, 3, 4, 5] (by decide) rfl).weaken (fun _ _ _ _ => trivial)) hZ hC0 hM) ⟨by decide, by decide, by decide, by decide⟩ rfl hl.1 rfl (Nat.le_of_ble_eq_true rfl) d_LW_motion_3) hP hD hS hA [0, 1, 2, 3, 4, 5] [6] rfl rfl (by decide) (by decide) (fun h0 H8 L8 hP hD hS => ?_) (fun E9 q9 ce H9 L9 h0 hP hS hce hcv hcl => ?_)
  · rw [hgg] at h0
    subst h0
    have hP : va_P G.2.1 cl_all [(ou, .inl (G.2.2.2.1, 1, .inr (.inl outf))), (x, .inr (3, [.ref k, .ref bu, .ref ma, .ref se, .int (f_ST_motion_motionCount motionCount dealt size), .int sealedCount, .int suspended])), (k, .inr (1, [.ref sh, .ref ch, .int dealt, .long epoch, .long base, .long whole, .long signing, .long pp, .long qq, .long modulus, .long order])), (bu, .inr (0, [.ref bys, .int (f_ST_motion_size motionCount dealt size)])), (bys, .inl (G.2.2.1, 24, .inl bytes)), (ma, .inl (G.2.2.2.2, 12, .inr (.inr (.inr (.inr mot))))), (mo, .inr (2, [.ref pw, .ref cg, .ref an, .int (f_ST_motion_standing motionCount dealt modulus size bytes), .long (f_ST_motion_block motionCount dealt modulus size bytes), .int (f_ST_motion_partials motionCount dealt modulus size bytes), .int (f_ST_motion_objections motionCount dealt modulus size bytes), .long (f_ST_motion_signature motionCount dealt modulus size bytes)]))] H8 := hP
    have hD : va_D A [(ou, .inl (G.2.2.2.1, 1, .inr (.inl outf))), (x, .inr (3, [.ref k, .ref bu, .ref ma, .ref se, .int (f_ST_motion_motionCount motionCount dealt size), .int sealedCount, .int suspended])), (k, .inr (1, [.ref sh, .ref ch, .int dealt, .long epoch, .long base, .long whole, .long signing, .long pp, .long qq, .long modulus, .long order])), (bu, .inr (0, [.ref bys, .int (f_ST_motion_size motionCount dealt size)])), (bys, .inl (G.2.2.1, 24, .inl bytes)), (ma, .inl (G.2.2.2.2, 12, .inr (.inr (.inr (.inr mot))))), (mo, .inr (2, [.ref pw, .ref cg, .ref an, .int (f_ST_motion_standing motionCount dealt modulus size bytes), .long (f_ST_motion_block motionCount dealt modulus size bytes), .int (f_ST_motion_partials motionCount dealt modulus size bytes), .int (f_ST_motion_objections motionCount dealt modulus size bytes), .long (f_ST_motion_signature motionCount dealt modulus size bytes)]))] := hD
    refine lv_i2l hx hb d_LW_motion_6 rfl ?_
    refine va_last hx hb (xg_k hg hw) hP hD hS 0 1 rfl rfl xh_01 d_LW_motion_7 (fun H7 L7 hP hD hS => ?_)
    have hP : va_P G.2.1 cl_all [(ou, .inl (G.2.2.2.1, 1, .inr (.inl (vp_updL outf (0 : Int32).toNatClampNeg ((f_ST_motion motionCount dealt size).toInt64))))), (x, .inr (3, [.ref k, .ref bu, .ref ma, .ref se, .int (f_ST_motion_motionCount motionCount dealt size), .int sealedCount, .int suspended])), (k, .inr (1, [.ref sh, .ref ch, .int dealt, .long epoch, .long base, .long whole, .long signing, .long pp, .long qq, .long modulus, .long order])), (bu, .inr (0, [.ref bys, .int (f_ST_motion_size motionCount dealt size)])), (bys, .inl (G.2.2.1, 24, .inl bytes)), (ma, .inl (G.2.2.2.2, 12, .inr (.inr (.inr (.inr mot))))), (mo, .inr (2, [.ref pw, .ref cg, .ref an, .int (f_ST_motion_standing motionCount dealt modulus size bytes), .long (f_ST_motion_block motionCount dealt modulus size bytes), .int (f_ST_motion_partials motionCount dealt modulus size bytes), .int (f_ST_motion_objections motionCount dealt modulus size bytes), .long (f_ST_motion_signature motionCount dealt modulus size bytes)]))] H7 := hP
    have hD : va_D A [(ou, .inl (G.2.2.2.1, 1, .inr (.inl (vp_updL outf (0 : Int32).toNatClampNeg ((f_ST_motion motionCount dealt size).toInt64))))), (x, .inr (3, [.ref k, .ref bu, .ref ma, .ref se, .int (f_ST_motion_motionCount motionCount dealt size), .int sealedCount, .int suspended])), (k, .inr (1, [.ref sh, .ref ch, .int dealt, .long epoch, .long base, .long whole, .long signing, .long pp, .long qq, .long modulus, .long order])), (bu, .inr (0, [.ref bys, .int (f_ST_motion_size motionCount dealt size)])), (bys, .inl (G.2.2.1, 24, .inl bytes)), (ma, .inl (G.2.2.2.2, 12, .inr (.inr (.inr (.inr mot))))), (mo, .inr (2, [.ref pw, .ref cg, .ref an, .int (f_ST_motion_standing motionCount dealt modulus size bytes), .long (f_ST_motion_block motionCount dealt modulus size bytes), .int (f_ST_motion_partials motionCount dealt modulus size bytes), .int (f_ST_motion_objections motionCount dealt modulus size bytes), .long (f_ST_motion_signature motionCount dealt modulus size bytes)]))] := hD
    refine lv_goto hx hb d_LW_motion_8 (tgt := 14) (by decide) ?_
    refine lv_iconst (v := (0 : Int32)) hx hb d_LW_motion_14 (by decide) ?_
    have hP := hP.sub (ws' := [(x, .inr (3, [.ref k, .ref bu, .ref ma, .ref se, .int (f_ST_motion_motionCount motionCount dealt size), .int sealedCount, .int suspended])), (k, .inr (1, [.ref sh, .ref ch, .int dealt, .long epoch, .long base, .long whole, .long signing, .long pp, .long qq, .long modulus, .long order])), (bu, .inr (0, [.ref bys, .int (f_ST_motion_size motionCount dealt size)])), (bys, .inl (G.2.2.1, 24, .inl bytes)), (ma, .inl (G.2.2.2.2, 12, .inr (.inr (.inr (.inr mot))))), (mo, .inr (2, [.ref pw, .ref cg, .ref an, .int (f_ST_motion_standing motionCount dealt modulus size bytes), .long (f_ST_motion_block motionCount dealt modulus size bytes), .int (f_ST_motion_partials motionCount dealt modulus size bytes), .int (f_ST_motion_objections motionCount dealt modulus size bytes), .long (f_ST_motion_signature motionCount dealt modulus size bytes)])), (ou, .inl (G.2.2.2.1, 1, .inr (.inl (vp_updL outf (0 : Int32).toNatClampNeg ((f_ST_motion motionCount dealt size).toInt64)))))]) [1, 2, 3, 4, 5, 6, 0] rfl
    have hD := hD.sub (ws' := [(x, .inr (3, [.ref k, .ref bu, .ref ma, .ref se, .int (f_ST_motion_motionCount motionCount dealt size), .int sealedCount, .int suspended])), (k, .inr (1, [.ref sh, .ref ch, .int dealt, .long epoch, .long base, .long whole, .long signing, .long pp, .long qq, .long modulus, .long order])), (bu, .inr (0, [.ref bys, .int (f_ST_motion_size motionCount dealt size)])), (bys, .inl (G.2.2.1, 24, .inl bytes)), (ma, .inl (G.2.2.2.2, 12, .inr (.inr (.inr (.inr mot))))), (mo, .inr (2, [.ref pw, .ref cg, .ref an, .int (f_ST_motion_standing motionCount dealt modulus size bytes), .long (f_ST_motion_block motionCount dealt modulus size bytes), .int (f_ST_motion_partials motionCount dealt modulus size bytes), .int (f_ST_motion_objections motionCount dealt modulus size bytes), .long (f_ST_motion_signature motionCount dealt modulus size bytes)])), (ou, .inl (G.2.2.2.1, 1, .inr (.inl (vp_updL outf (0 : Int32).toNatClampNeg ((f_ST_motion motionCount dealt size).toInt64)))))]) [1, 2, 3, 4, 5, 6, 0] (by decide) rfl
    refine W.widen (k := 8) (n := 48) (Nat.le_of_ble_eq_true rfl) (Nat.le_of_ble_eq_true rfl) ?_
    exact xw_iret hx hb ht hl0 hP hD hS d_LW_motion_15
  · have h1 := gv_ST_motion h0
    rw [hgg] at h0
    subst h0
    subst h1
    refine xh_1 hE ⟨by decide, by decide⟩ (by decide) hg hw S.2.2.2 xh_k2 xh_s2 hce hcv hcl ?_
    rw [show xh_c xt_IS xt_NS (some xt_IS) = 1 from xh_e1]
    refine lv_astore_n hx hb d_LW_motion_11 rfl hl (by decide) rfl (fun ls hl => ?_)
    have hl : lv_has ls 3 [(2, .ref q9), (0, .ref x), (1, .ref ou)] := hl
    refine lv_iconst (v := (1 : Int32)) hx hb d_LW_motion_12 (by decide) ?_
    refine W.widen (k := 8) (n := 48) (Nat.le_of_ble_eq_true rfl) (Nat.le_of_ble_eq_true rfl) ?_
    exact xw_iret hx hb ht hl0 hP hD hS d_LW_motion_13
theorem gi_ST_consent {motion : Int32} {trustee : Int32} {motionCount : Int32} {suspended : Int32} {standing : Int32} {partials : Int32} {objections : Int32} : xt_in [xt_NS, xt_IS] (g_ST_consent motion trustee motionCount suspended standing partials objections) := by
  unfold g_ST_consent
  repeat' first | exact xt_in0 | exact xt_inS (by decide) | exact xt_inW (gi_ST_requireKey ..) (by decide) | exact xt_inW (gi_ST_motionAt ..) (by decide) | exact xt_inW (gi_ST_requireTrustee ..) (by decide) | exact xt_inW (gi_ST_requireOpen ..) (by decide) | exact xt_inW (gi_ST_requireNoVoice ..) (by decide) | exact xt_inW (gi_ST_requireDocument ..) (by decide) | exact xt_inW (gi_ST_deal ..) (by decide) | exact xt_inW (gi_ST_put ..) (by decide) | exact xt_inW (gi_ST_motion ..) (by decide) | refine xt_inI ?_ ?_ | refine xt_inE ?_ ?_
theorem gv_ST_consent {E : String} {motion : Int32} {trustee : Int32} {motionCount : Int32} {suspended : Int32} {standing : Int32} {partials : Int32} {objections : Int32} (h : g_ST_consent motion trustee motionCount suspended standing partials objections = some E) : E = xt_NS ∨ E = xt_IS := by
  have h1 := gi_ST_consent _ h
  simpa using h1
set_option maxHeartbeats 4000000 in
set_option maxRecDepth 100000 in
theorem ct_LW_consent (l : Launch) {G : xg_G} (hg : xg_F G) (hl9 : l.stackTraces = false) (H : Heap) (hO : xg_O G H) (x : Nat) (motion : Int32) (trustee : Int32) (k : Nat) (bu : Nat) (ma : Nat) (se : Nat) (motionCount : Int32) (sealedCount : Int32) (suspended : Int32) (sh : Nat) (ch : Nat) (dealt : Int32) (epoch : Int64) (base : Int64) (whole : Int64) (signing : Int64) (pp : Int64) (qq : Int64) (modulus : Int64) (order : Int64) (shares : Nat → Int64) (checks : Nat → Int64) (mot : Nat → Option Nat) (mo : Nat) (pw : Nat) (cg : Nat) (an : Nat) (standing : Int32) (block : Int64) (partials : Int32) (objections : Int32) (signature : Int64) (powers : Nat → Int64) (challenges : Nat → Int32) (answers : Nat → Int64) (hP : va_P G.2.1 cl_all [(x, .inr (3, [.ref k, .ref bu, .ref ma, .ref se, .int motionCount, .int sealedCount, .int suspended])), (k, .inr (1, [.ref sh, .ref ch, .int dealt, .long epoch, .long base, .long whole, .long signing, .long pp, .long qq, .long modulus, .long order])), (sh, .inl (G.2.2.2.1, 6, .inr (.inl shares))), (ch, .inl (G.2.2.2.1, 6, .inr (.inl checks))), (ma, .inl (G.2.2.2.2, 12, .inr (.inr (.inr (.inr mot))))), (mo, .inr (2, [.ref pw, .ref cg, .ref an, .int standing, .long block, .int partials, .int objections, .long signature])), (pw, .inl (G.2.2.2.1, 6, .inr (.inl powers))), (cg, .inl (G.2.2.1, 6, .inl challenges)), (an, .inl (G.2.2.2.1, 6, .inr (.inl answers)))] H) (hD0 : va_D (fun _ => True) [(x, .inr (3, [.ref k, .ref bu, .ref ma, .ref se, .int motionCount, .int sealedCount, .int suspended])), (k, .inr (1, [.ref sh, .ref ch, .int dealt, .long epoch, .long base, .long whole, .long signing, .long pp, .long qq, .long modulus, .long order])), (sh, .inl (G.2.2.2.1, 6, .inr (.inl shares))), (ch, .inl (G.2.2.2.1, 6, .inr (.inl checks))), (ma, .inl (G.2.2.2.2, 12, .inr (.inr (.inr (.inr mot))))), (mo, .inr (2, [.ref pw, .ref cg, .ref an, .int standing, .long block, .int partials, .int objections, .long signature])), (pw, .inl (G.2.2.2.1, 6, .inr (.inl powers))), (cg, .inl (G.2.2.1, 6, .inl challenges)), (an, .inl (G.2.2.2.1, 6, .inr (.inl answers)))]) (hC : motionCount.toInt ≤ 12) (hM : ¬ motion < 0 → motion < motionCount → mot motion.toNatClampNeg = some mo) : xc_Met l y_LW_consent (.codeWith y_LW_consent b_LW_consent 4 (some .int) [(0, 6, 9, 29), (0, 6, 12, 23)]) ({ frames := 8, cells := 8, slots := 48, locals := 110 } : Room) (xg_Pc G [.ref x, .int motion, .int trustee] H) (xw_post G (va_A [(x, .inr (3, [.ref k, .ref bu, .ref ma, .ref se, .int motionCount, .int sealedCount, .int suspended])), (k, .inr (1, [.ref sh, .ref ch, .int dealt, .long epoch, .long base, .long whole, .long signing, .long pp, .long qq, .long modulus, .long order])), (sh, .inl (G.2.2.2.1, 6, .inr (.inl shares))), (ch, .inl (G.2.2.2.1, 6, .inr (.inl checks))), (ma, .inl (G.2.2.2.2, 12, .inr (.inr (.inr (.inr mot))))), (mo, .inr (2, [.ref pw, .ref cg, .ref an, .int standing, .long block, .int partials, .int objections, .long signature])), (pw, .inl (G.2.2.2.1, 6, .inr (.inl powers))), (cg, .inl (G.2.2.1, 6, .inl challenges)), (an, .inl (G.2.2.2.1, 6, .inr (.inl answers)))] H.size) (some (.int (xh_c xt_NS xt_IS (g_ST_consent motion trustee motionCount suspended standing partials objections)))) [(x, .inr (3, [.ref k, .ref bu, .ref ma, .ref se, .int motionCount, .int sealedCount, .int suspended])), (k, .inr (1, [.ref sh, .ref ch, .int dealt, .long epoch, .long base, .long whole, .long signing, .long pp, .long qq, .long modulus, .long order])), (sh, .inl (G.2.2.2.1, 6, .inr (.inl shares))), (ch, .inl (G.2.2.2.1, 6, .inr (.inl checks))), (ma, .inl (G.2.2.2.2, 12, .inr (.inr (.inr (.inr mot))))), (mo, .inr (2, [.ref pw, .ref cg, .ref an, .int standing, .long block, .int (xt_el (g_ST_consent motion trustee motionCount suspended standing partials objections) partials (f_ST_consent_partials motion trustee motionCount suspended standing partials objections)), .int objections, .long signature])), (pw, .inl (G.2.2.2.1, 6, .inr (.inl (xt_el (g_ST_consent motion trustee motionCount suspended standing partials objections) powers (f_ST_consent_PW motion trustee motionCount suspended epoch base modulus shares checks standing block partials objections powers))))), (cg, .inl (G.2.2.1, 6, .inl (xt_el (g_ST_consent motion trustee motionCount suspended standing partials objections) challenges (f_ST_consent_CG motion trustee motionCount suspended epoch base modulus shares checks standing block partials objections challenges)))), (an, .inl (G.2.2.2.1, 6, .inr (.inl (xt_el (g_ST_consent motion trustee motionCount suspended standing partials objections) answers (f_ST_consent_AN motion trustee motionCount suspended epoch base modulus shares checks standing block partials objections answers)))))]) (va_A [(x, .inr (3, [.ref k, .ref bu, .ref ma, .ref se, .int motionCount, .int sealedCount, .int suspended])), (k, .inr (1, [.ref sh, .ref ch, .int dealt, .long epoch, .long base, .long whole, .long signing, .long pp, .long qq, .long modulus, .long order])), (sh, .inl (G.2.2.2.1, 6, .inr (.inl shares))), (ch, .inl (G.2.2.2.1, 6, .inr (.inl checks))), (ma, .inl (G.2.2.2.2, 12, .inr (.inr (.inr (.inr mot))))), (mo, .inr (2, [.ref pw, .ref cg, .ref an, .int standing, .long block, .int partials, .int objections, .long signature])), (pw, .inl (G.2.2.2.1, 6, .inr (.inl powers))), (cg, .inl (G.2.2.1, 6, .inl challenges)), (an, .inl (G.2.2.2.1, 6, .inr (.inl answers)))] H.size) := by
  refine xc_ofWH (by decide) ?_
  intro p e s m args below meth c s₁ B hml hE hv
  obtain ⟨rfl, rfl, hw⟩ := hv
  have hx := B.exec
  have hb := B.bytes
  have ht := B.returns
  have hl0 := B.notSynchronized
  have S : xc_Fix p m c b_LW_consent 4 s "SealTrustLaw" := ⟨hx, hb, hml, findClass_of_methodNamed B.named⟩
  have hD := hD0.self (sz := s.heap.size)
  generalize hAe : va_A [(x, .inr (3, [.ref k, .ref bu, .ref ma, .ref se, .int motionCount, .int sealedCount, .int suspended])), (k, .inr (1, [.ref sh, .ref ch, .int dealt, .long epoch, .long base, .long whole, .long signing, .long pp, .long qq, .long modulus, .long order])), (sh, .inl (G.2.2.2.1, 6, .inr (.inl shares))), (ch, .inl (G.2.2.2.1, 6, .inr (.inl checks))), (ma, .inl (G.2.2.2.2, 12, .inr (.inr (.inr (.inr mot))))), (mo, .inr (2, [.ref pw, .ref cg, .ref an, .int standing, .long block, .int partials, .int objections, .long signature])), (pw, .inl (G.2.2.2.1, 6, .inr (.inl powers))), (cg, .inl (G.2.2.1, 6, .inl challenges)), (an, .inl (G.2.2.2.1, 6, .inr (.inl answers)))] s.heap.size = A at hD ⊢
  have hA : ∀ q : Nat, s.heap.size ≤ q → A q := fun q h => by rw [← hAe]; exact Or.inr h
  have hS : va_S A s.heap s.heap [] := va_S.rf
  have hl := lv_entry ([.ref x, .int motion, .int trustee]) (n := 4) (Nat.le_of_ble_eq_true rfl)
  rw [lg_entry_eq]
  generalize (lg_sl ([.ref x, .int motion, .int trustee]) ++ List.replicate (4 - (lg_sl ([.ref x, .int motion, .int trustee])).length) Slot.unset).toArray = ls at hl ⊢
  have hl : lv_has ls 4 [(0, .ref x), (1, .int motion), (2, .int trustee)] := hl
  obtain ⟨gg, hgg⟩ : ∃ r, g_ST_consent motion trustee motionCount suspended standing partials objections = r := ⟨_, rfl⟩
  rw [hgg]
  show W p l e ({ frames := 8, cells := 8, slots := 48, locals := 110 } : Room) s m _ below meth c s.heap [] 0 0 (xc_Z below _ _ _ s 8 48) _
  refine lv_aload_n hx hb d_LW_consent_0 rfl (lv_at hl 0 rfl) ?_
  refine lv_iload_n hx hb d_LW_consent_1 rfl (lv_at hl 1 rfl) ?_
  refine lv_iload_n hx hb d_LW_consent_2 rfl (lv_at hl 2 rfl) ?_
  refine xh_useW (wc := [(x, .inr (3, [.ref k, .ref bu, .ref ma, .ref se, .int motionCount, .int sealedCount, .int suspended])), (k, .inr (1, [.ref sh, .ref ch, .int dealt, .long epoch, .long base, .long whole, .long signing, .long pp, .long qq, .long modulus, .long order])), (sh, .inl (G.2.2.2.1, 6, .inr (.inl shares))), (ch, .inl (G.2.2.2.1, 6, .inr (.inl checks))), (ma, .inl (G.2.2.2.2, 12, .inr (.inr (.inr (.inr mot))))), (mo, .inr (2, [.ref pw, .ref cg, .ref an, .int standing, .long block, .int partials, .int objections, .long signature])), (pw, .inl (G.2.2.2.1, 6, .inr (.inl powers))), (cg, .inl (G.2.2.1, 6, .inl challenges)), (an, .inl (G.2.2.2.1, 6, .inr (.inl answers)))]) (wr := []) (xg_runV (rest := []) (kw := 0) si_LW_25 hg hw S (va_recv (xg_k hg hw) hP (ci := 3) rfl (q0 := 0) rfl) (ct_ST_consent l hg hl9 s.heap hO x motion trustee k bu ma se motionCount sealedCount suspended sh ch dealt epoch base whole signing pp qq modulus order shares checks mot mo pw cg an standing block partials objections signature powers challenges answers hP ((hD.sub [0, 1, 2, 3, 4, 5, 6, 7, 8] (by decide) rfl).weaken (fun _ _ _ _ => trivial)) hC hM) ⟨by decide, by decide, by decide, by decide⟩ rfl hl.1 rfl (Nat.le_of_ble_eq_true rfl) d_LW_consent_3) hP hD hS hA [0, 1, 2, 3, 4, 5, 6, 7, 8] [] rfl rfl (by decide) (by decide) (fun h0 H8 L8 hP hD hS => ?_) (fun E9 q9 ce H9 L9 h0 hP hS hce hcv hcl => ?_)
  · rw [hgg] at h0
    subst h0
    have hP : va_P G.2.1 cl_all [(x, .inr (3, [.ref k, .ref bu, .ref ma, .ref se, .int motionCount, .int sealedCount, .int suspended])), (k, .inr (1, [.ref sh, .ref ch, .int dealt, .long epoch, .long base, .long whole, .long signing, .long pp, .long qq, .long modulus, .long order])), (sh, .inl (G.2.2.2.1, 6, .inr (.inl shares))), (ch, .inl (G.2.2.2.1, 6, .inr (.inl checks))), (ma, .inl (G.2.2.2.2, 12, .inr (.inr (.inr (.inr mot))))), (mo, .inr (2, [.ref pw, .ref cg, .ref an, .int standing, .long block, .int (f_ST_consent_partials motion trustee motionCount suspended standing partials objections), .int objections, .long signature])), (pw, .inl (G.2.2.2.1, 6, .inr (.inl (f_ST_consent_PW motion trustee motionCount suspended epoch base modulus shares checks standing block partials objections powers)))), (cg, .inl (G.2.2.1, 6, .inl (f_ST_consent_CG motion trustee motionCount suspended epoch base modulus shares checks standing block partials objections challenges))), (an, .inl (G.2.2.2.1, 6, .inr (.inl (f_ST_consent_AN motion trustee motionCount suspended epoch base modulus shares checks standing block partials objections answers))))] H8 := hP
    have hD : va_D A [(x, .inr (3, [.ref k, .ref bu, .ref ma, .ref se, .int motionCount, .int sealedCount, .int suspended])), (k, .inr (1, [.ref sh, .ref ch, .int dealt, .long epoch, .long base, .long whole, .long signing, .long pp, .long qq, .long modulus, .long order])), (sh, .inl (G.2.2.2.1, 6, .inr (.inl shares))), (ch, .inl (G.2.2.2.1, 6, .inr (.inl checks))), (ma, .inl (G.2.2.2.2, 12, .inr (.inr (.inr (.inr mot))))), (mo, .inr (2, [.ref pw, .ref cg, .ref an, .int standing, .long block, .int (f_ST_consent_partials motion trustee motionCount suspended standing partials objections), .int objections, .long signature])), (pw, .inl (G.2.2.2.1, 6, .inr (.inl (f_ST_consent_PW motion trustee motionCount suspended epoch base modulus shares checks standing block partials objections powers)))), (cg, .inl (G.2.2.1, 6, .inl (f_ST_consent_CG motion trustee motionCount suspended epoch base modulus shares checks standing block partials objections challenges))), (an, .inl (G.2.2.2.1, 6, .inr (.inl (f_ST_consent_AN motion trustee motionCount suspended epoch base modulus shares checks standing block partials objections answers))))] := hD
    refine lv_goto hx hb d_LW_consent_6 (tgt := 15) (by decide) ?_
    refine lv_iconst (v := (0 : Int32)) hx hb d_LW_consent_15 (by decide) ?_
    refine W.widen (k := 8) (n := 48) (Nat.le_of_ble_eq_true rfl) (Nat.le_of_ble_eq_true rfl) ?_
    exact xw_iret hx hb ht hl0 hP hD hS d_LW_consent_16
  · have h1 := gv_ST_consent h0
    rw [hgg] at h0
    subst h0
    rcases h1 with rfl | rfl
    · refine xh_1 hE ⟨by decide, by decide⟩ (by decide) hg hw S.2.2.2 xh_k4 xh_s4 hce hcv hcl ?_
      rw [show xh_c xt_NS xt_IS (some xt_NS) = 1 from xh_e1]
      refine lv_astore_n hx hb d_LW_consent_9 rfl hl (by decide) rfl (fun ls hl => ?_)
      have hl : lv_has ls 4 [(3, .ref q9), (0, .ref x), (1, .int motion), (2, .int trustee)] := hl
      refine lv_iconst (v := (1 : Int32)) hx hb d_LW_consent_10 (by decide) ?_
      refine W.widen (k := 8) (n := 48) (Nat.le_of_ble_eq_true rfl) (Nat.le_of_ble_eq_true rfl) ?_
      exact xw_iret hx hb ht hl0 hP hD hS d_LW_consent_11
    · refine xh_2 (E1 := xt_NS) hE ⟨by decide, by decide⟩ (by decide) (by decide) hg hw S.2.2.2 xh_k4 (by decide +kernel) xh_k2 xh_s2 hce hcv hcl ?_
      rw [show xh_c xt_NS xt_IS (some xt_IS) = 2 from (xh_e2 (by decide))]
      refine lv_astore_n hx hb d_LW_consent_12 rfl hl (by decide) rfl (fun ls hl => ?_)
      have hl : lv_has ls 4 [(3, .ref q9), (0, .ref x), (1, .int motion), (2, .int trustee)] := hl
      refine lv_iconst (v := (2 : Int32)) hx hb d_LW_consent_13 (by decide) ?_
      refine W.widen (k := 8) (n := 48) (Nat.le_of_ble_eq_true rfl) (Nat.le_of_ble_eq_true rfl) ?_
      exact xw_iret hx hb ht hl0 hP hD hS d_LW_consent_14
theorem gi_ST_object {motion : Int32} {trustee : Int32} {motionCount : Int32} {standing : Int32} {partials : Int32} {objections : Int32} : xt_in [xt_NS, xt_IS] (g_ST_object motion trustee motionCount standing partials objections) := by
  unfold g_ST_object
  repeat' first | exact xt_in0 | exact xt_inS (by decide) | exact xt_inW (gi_ST_requireKey ..) (by decide) | exact xt_inW (gi_ST_motionAt ..) (by decide) | exact xt_inW (gi_ST_requireTrustee ..) (by decide) | exact xt_inW (gi_ST_requireOpen ..) (by decide) | exact xt_inW (gi_ST_requireNoVoice ..) (by decide) | exact xt_inW (gi_ST_requireDocument ..) (by decide) | exact xt_inW (gi_ST_deal ..) (by decide) | exact xt_inW (gi_ST_put ..) (by decide) | exact xt_inW (gi_ST_motion ..) (by decide) | exact xt_inW (gi_ST_consent ..) (by decide) | refine xt_inI ?_ ?_ | refine xt_inE ?_ ?_
theorem gv_ST_object {E : String} {motion : Int32} {trustee : Int32} {motionCount : Int32} {standing : Int32} {partials : Int32} {objections : Int32} (h : g_ST_object motion trustee motionCount standing partials objections = some E) : E = xt_NS ∨ E = xt_IS := by
  have h1 := gi_ST_object _ h
  simpa using h1
set_option maxHeartbeats 4000000 in
set_option maxRecDepth 100000 in
theorem ct_LW_object (l : Launch) {G : xg_G} (hg : xg_F G) (hl9 : l.stackTraces = false) (H : Heap) (hO : xg_O G H) (x : Nat) (motion : Int32) (trustee : Int32) (k : Nat) (bu : Nat) (ma : Nat) (se : Nat) (motionCount : Int32) (sealedCount : Int32) (suspended : Int32) (mot : Nat → Option Nat) (mo : Nat) (pw : Nat) (cg : Nat) (an : Nat) (standing : Int32) (block : Int64) (partials : Int32) (objections : Int32) (signature : Int64) (hP : va_P G.2.1 cl_all [(x, .inr (3, [.ref k, .ref bu, .ref ma, .ref se, .int motionCount, .int sealedCount, .int suspended])), (ma, .inl (G.2.2.2.2, 12, .inr (.inr (.inr (.inr mot))))), (mo, .inr (2, [.ref pw, .ref cg, .ref an, .int standing, .long block, .int partials, .int objections, .long signature]))] H) (hD0 : va_D (fun _ => True) [(x, .inr (3, [.ref k, .ref bu, .ref ma, .ref se, .int motionCount, .int sealedCount, .int suspended])), (ma, .inl (G.2.2.2.2, 12, .inr (.inr (.inr (.inr mot))))), (mo, .inr (2, [.ref pw, .ref cg, .ref an, .int standing, .long block, .int partials, .int objections, .long signature]))]) (hC : motionCount.toInt ≤ 12) (hM : ¬ motion < 0 → motion < motionCount → mot motion.toNatClampNeg = some mo) : xc_Met l y_LW_object (.codeWith y_LW_object b_LW_object 4 (some .int) [(0, 6, 9, 29), (0, 6, 12, 23)]) ({ frames := 8, cells := 8, slots := 48, locals := 110 } : Room) (xg_Pc G [.ref x, .int motion, .int trustee] H) (xw_post G (va_A [(x, .inr (3, [.ref k, .ref bu, .ref ma, .ref se, .int motionCount, .int sealedCount, .int suspended])), (ma, .inl (G.2.2.2.2, 12, .inr (.inr (.inr (.inr mot))))), (mo, .inr (2, [.ref pw, .ref cg, .ref an, .int standing, .long block, .int partials, .int objections, .long signature]))] H.size) (some (.int (xh_c xt_NS xt_IS (g_ST_object motion trustee motionCount standing partials objections)))) [(x, .inr (3, [.ref k, .ref bu, .ref ma, .ref se, .int motionCount, .int sealedCount, .int suspended])), (ma, .inl (G.2.2.2.2, 12, .inr (.inr (.inr (.inr mot))))), (mo, .inr (2, [.ref pw, .ref cg, .ref an, .int (xt_el (g_ST_object motion trustee motionCount standing partials objections) standing (f_ST_object_standing motion trustee motionCount standing partials objections)), .long block, .int partials, .int (xt_el (g_ST_object motion trustee motionCount standing partials objections) objections (f_ST_object_objections motion trustee motionCount standing partials objections)), .long signature]))]) (va_A [(x, .inr (3, [.ref k, .ref bu, .ref ma, .ref se, .int motionCount, .int sealedCount, .int suspended])), (ma, .inl (G.2.2.2.2, 12, .inr (.inr (.inr (.inr mot))))), (mo, .inr (2, [.ref pw, .ref cg, .ref an, .int standing, .long block, .int partials, .int objections, .long signature]))] H.size) := by
  refine xc_ofWH (by decide) ?_
  intro p e s m args below meth c s₁ B hml hE hv
  obtain ⟨rfl, rfl, hw⟩ := hv
  have hx := B.exec
  have hb := B.bytes
  have ht := B.returns
  have hl0 := B.notSynchronized
  have S : xc_Fix p m c b_LW_object 4 s "SealTrustLaw" := ⟨hx, hb, hml, findClass_of_methodNamed B.named⟩
  have hD := hD0.self (sz := s.heap.size)
  generalize hAe : va_A [(x, .inr (3, [.ref k, .ref bu, .ref ma, .ref se, .int motionCount, .int sealedCount, .int suspended])), (ma, .inl (G.2.2.2.2, 12, .inr (.inr (.inr (.inr mot))))), (mo, .inr (2, [.ref pw, .ref cg, .ref an, .int standing, .long block, .int partials, .int objections, .long signature]))] s.heap.size = A at hD ⊢
  have hA : ∀ q : Nat, s.heap.size ≤ q → A q := fun q h => by rw [← hAe]; exact Or.inr h
  have hS : va_S A s.heap s.heap [] := va_S.rf
  have hl := lv_entry ([.ref x, .int motion, .int trustee]) (n := 4) (Nat.le_of_ble_eq_true rfl)
  rw [lg_entry_eq]
  generalize (lg_sl ([.ref x, .int motion, .int trustee]) ++ List.replicate (4 - (lg_sl ([.ref x, .int motion, .int trustee])).length) Slot.unset).toArray = ls at hl ⊢
  have hl : lv_has ls 4 [(0, .ref x), (1, .int motion), (2, .int trustee)] := hl
  obtain ⟨gg, hgg⟩ : ∃ r, g_ST_object motion trustee motionCount standing partials objections = r := ⟨_, rfl⟩
  rw [hgg]
  show W p l e ({ frames := 8, cells := 8, slots := 48, locals := 110 } : Room) s m _ below meth c s.heap [] 0 0 (xc_Z below _ _ _ s 8 48) _
  refine lv_aload_n hx hb d_LW_object_0 rfl (lv_at hl 0 rfl) ?_
  refine lv_iload_n hx hb d_LW_object_1 rfl (lv_at hl 1 rfl) ?_
  refine lv_iload_n hx hb d_LW_object_2 rfl (lv_at hl 2 rfl) ?_
  refine xh_useW (wc := [(x, .inr (3, [.ref k, .ref bu, .ref ma, .ref se, .int motionCount, .int sealedCount, .int suspended])), (ma, .inl (G.2.2.2.2, 12, .inr (.inr (.inr (.inr mot))))), (mo, .inr (2, [.ref pw, .ref cg, .ref an, .int standing, .long block, .int partials, .int objections, .long signature]))]) (wr := []) (xg_runV (rest := []) (kw := 0) si_LW_31 hg hw S (va_recv (xg_k hg hw) hP (ci := 3) rfl (q0 := 0) rfl) (ct_ST_object l hg hl9 s.heap hO x motion trustee k bu ma se motionCount sealedCount suspended mot mo pw cg an standing block partials objections signature hP ((hD.sub [0, 1, 2] (by decide) rfl).weaken (fun _ _ _ _ => trivial)) hC hM) ⟨by decide, by decide, by decide, by decide⟩ rfl hl.1 rfl (Nat.le_of_ble_eq_true rfl) d_LW_object_3) hP hD hS hA [0, 1, 2] [] rfl rfl (by decide) (by decide) (fun h0 H8 L8 hP hD hS => ?_) (fun E9 q9 ce H9 L9 h0 hP hS hce hcv hcl => ?_)
  · rw [hgg] at h0
    subst h0
    have hP : va_P G.2.1 cl_all [(x, .inr (3, [.ref k, .ref bu, .ref ma, .ref se, .int motionCount, .int sealedCount, .int suspended])), (ma, .inl (G.2.2.2.2, 12, .inr (.inr (.inr (.inr mot))))), (mo, .inr (2, [.ref pw, .ref cg, .ref an, .int (f_ST_object_standing motion trustee motionCount standing partials objections), .long block, .int partials, .int (f_ST_object_objections motion trustee motionCount standing partials objections), .long signature]))] H8 := hP
    have hD : va_D A [(x, .inr (3, [.ref k, .ref bu, .ref ma, .ref se, .int motionCount, .int sealedCount, .int suspended])), (ma, .inl (G.2.2.2.2, 12, .inr (.inr (.inr (.inr mot))))), (mo, .inr (2, [.ref pw, .ref cg, .ref an, .int (f_ST_object_standing motion trustee motionCount standing partials objections), .long block, .int partials, .int (f_ST_object_objections motion trustee motionCount standing partials objections), .long signature]))] := hD
    refine lv_goto hx hb d_LW_object_6 (tgt := 15) (by decide) ?_
    refine lv_iconst (v := (0 : Int32)) hx hb d_LW_object_15 (by decide) ?_
    refine W.widen (k := 8) (n := 48) (Nat.le_of_ble_eq_true rfl) (Nat.le_of_ble_eq_true rfl) ?_
    exact xw_iret hx hb ht hl0 hP hD hS d_LW_object_16
  · have h1 := gv_ST_object h0
    rw [hgg] at h0
    subst h0
    rcases h1 with rfl | rfl
    · refine xh_1 hE ⟨by decide, by decide⟩ (by decide) hg hw S.2.2.2 xh_k4 xh_s4 hce hcv hcl ?_
      rw [show xh_c xt_NS xt_IS (some xt_NS) = 1 from xh_e1]
      refine lv_astore_n hx hb d_LW_object_9 rfl hl (by decide) rfl (fun ls hl => ?_)
      have hl : lv_has ls 4 [(3, .ref q9), (0, .ref x), (1, .int motion), (2, .int trustee)] := hl
      refine lv_iconst (v := (1 : Int32)) hx hb d_LW_object_10 (by decide) ?_
      refine W.widen (k := 8) (n := 48) (Nat.le_of_ble_eq_true rfl) (Nat.le_of_ble_eq_true rfl) ?_
      exact xw_iret hx hb ht hl0 hP hD hS d_LW_object_11
    · refine xh_2 (E1 := xt_NS) hE ⟨by decide, by decide⟩ (by decide) (by decide) hg hw S.2.2.2 xh_k4 (by decide +kernel) xh_k2 xh_s2 hce hcv hcl ?_
      rw [show xh_c xt_NS xt_IS (some xt_IS) = 2 from (xh_e2 (by decide))]
      refine lv_astore_n hx hb d_LW_object_12 rfl hl (by decide) rfl (fun ls hl => ?_)
      have hl : lv_has ls 4 [(3, .ref q9), (0, .ref x), (1, .int motion), (2, .int trustee)] := hl
      refine lv_iconst (v := (2 : Int32)) hx hb d_LW_object_13 (by decide) ?_
      refine W.widen (k := 8) (n := 48) (Nat.le_of_ble_eq_true rfl) (Nat.le_of_ble_eq_true rfl) ?_
      exact xw_iret hx hb ht hl0 hP hD hS d_LW_object_14
theorem gi_ST_file {motion : Int32} {trustee : Int32} {motionCount : Int32} {standing : Int32} {objections : Int32} : xt_in [xt_NS, xt_IS] (g_ST_file motion trustee motionCount standing objections) := by
  unfold g_ST_file
  repeat' first | exact xt_in0 | exact xt_inS (by decide) | exact xt_inW (gi_ST_requireKey ..) (by decide) | exact xt_inW (gi_ST_motionAt ..) (by decide) | exact xt_inW (gi_ST_requireTrustee ..) (by decide) | exact xt_inW (gi_ST_requireOpen ..) (by decide) | exact xt_inW (gi_ST_requireNoVoice ..) (by decide) | exact xt_inW (gi_ST_requireDocument ..) (by decide) | exact xt_inW (gi_ST_deal ..) (by decide) | exact xt_inW (gi_ST_put ..) (by decide) | exact xt_inW (gi_ST_motion ..) (by decide) | exact xt_inW (gi_ST_consent ..) (by decide) | exact xt_inW (gi_ST_object ..) (by decide) | refine xt_inI ?_ ?_ | refine xt_inE ?_ ?_
theorem gv_ST_file {E : String} {motion : Int32} {trustee : Int32} {motionCount : Int32} {standing : Int32} {objections : Int32} (h : g_ST_file motion trustee motionCount standing objections = some E) : E = xt_NS ∨ E = xt_IS := by
  have h1 := gi_ST_file _ h
  simpa using h1
set_option maxHeartbeats 4000000 in
set_option maxRecDepth 100000 in
theorem ct_LW_file (l : Launch) {G : xg_G} (hg : xg_F G) (hl9 : l.stackTraces = false) (H : Heap) (hO : xg_O G H) (x : Nat) (motion : Int32) (trustee : Int32) (power : Int64) (cc_ : Int32) (zz_ : Int64) (k : Nat) (bu : Nat) (ma : Nat) (se : Nat) (motionCount : Int32) (sealedCount : Int32) (suspended : Int32) (mot : Nat → Option Nat) (mo : Nat) (pw : Nat) (cg : Nat) (an : Nat) (standing : Int32) (block : Int64) (partials : Int32) (objections : Int32) (signature : Int64) (powers : Nat → Int64) (challenges : Nat → Int32) (answers : Nat → Int64) (hP : va_P G.2.1 cl_all [(x, .inr (3, [.ref k, .ref bu, .ref ma, .ref se, .int motionCount, .int sealedCount, .int suspended])), (ma, .inl (G.2.2.2.2, 12, .inr (.inr (.inr (.inr mot))))), (mo, .inr (2, [.ref pw, .ref cg, .ref an, .int standing, .long block, .int partials, .int objections, .long signature])), (pw, .inl (G.2.2.2.1, 6, .inr (.inl powers))), (cg, .inl (G.2.2.1, 6, .inl challenges)), (an, .inl (G.2.2.2.1, 6, .inr (.inl answers)))] H) (hD0 : va_D (fun _ => True) [(x, .inr (3, [.ref k, .ref bu, .ref ma, .ref se, .int motionCount, .int sealedCount, .int suspended])), (ma, .inl (G.2.2.2.2, 12, .inr (.inr (.inr (.inr mot))))), (mo, .inr (2, [.ref pw, .ref cg, .ref an, .int standing, .long block, .int partials, .int objections, .long signature])), (pw, .inl (G.2.2.2.1, 6, .inr (.inl powers))), (cg, .inl (G.2.2.1, 6, .inl challenges)), (an, .inl (G.2.2.2.1, 6, .inr (.inl answers)))]) (hC : motionCount.toInt ≤ 12) (hM : ¬ motion < 0 → motion < motionCount → mot motion.toNatClampNeg = some mo) : xc_Met l y_LW_file (.codeWith y_LW_file b_LW_file 9 (some .int) [(0, 11, 14, 29), (0, 11, 18, 23)]) ({ frames := 8, cells := 8, slots := 48, locals := 115 } : Room) (xg_Pc G [.ref x, .int motion, .int trustee, .long power, .int cc_, .long zz_] H) (xw_post G (va_A [(x, .inr (3, [.ref k, .ref bu, .ref ma, .ref se, .int motionCount, .int sealedCount, .int suspended])), (ma, .inl (G.2.2.2.2, 12, .inr (.inr (.inr (.inr mot))))), (mo, .inr (2, [.ref pw, .ref cg, .ref an, .int standing, .long block, .int partials, .int objections, .long signature])), (pw, .inl (G.2.2.2.1, 6, .inr (.inl powers))), (cg, .inl (G.2.2.1, 6, .inl challenges)), (an, .inl (G.2.2.2.1, 6, .inr (.inl answers)))] H.size) (some (.int (xh_c xt_NS xt_IS (g_ST_file motion trustee motionCount standing objections)))) [(x, .inr (3, [.ref k, .ref bu, .ref ma, .ref se, .int motionCount, .int sealedCount, .int suspended])), (ma, .inl (G.2.2.2.2, 12, .inr (.inr (.inr (.inr mot))))), (mo, .inr (2, [.ref pw, .ref cg, .ref an, .int standing, .long block, .int (xt_el (g_ST_file motion trustee motionCount standing objections) partials (f_ST_file_partials motion trustee motionCount standing partials objections)), .int objections, .long signature])), (pw, .inl (G.2.2.2.1, 6, .inr (.inl (xt_el (g_ST_file motion trustee motionCount standing objections) powers (f_ST_file_PW motion trustee power motionCount standing objections powers))))), (cg, .inl (G.2.2.1, 6, .inl (xt_el (g_ST_file motion trustee motionCount standing objections) challenges (f_ST_file_CG motion trustee cc_ motionCount standing objections challenges)))), (an, .inl (G.2.2.2.1, 6, .inr (.inl (xt_el (g_ST_file motion trustee motionCount standing objections) answers (f_ST_file_AN motion trustee zz_ motionCount standing objections answers)))))]) (va_A [(x, .inr (3, [.ref k, .ref bu, .ref ma, .ref se, .int motionCount, .int sealedCount, .int suspended])), (ma, .inl (G.2.2.2.2, 12, .inr (.inr (.inr (.inr mot))))), (mo, .inr (2, [.ref pw, .ref cg, .ref an, .int standing, .long block, .int partials, .int objections, .long signature])), (pw, .inl (G.2.2.2.1, 6, .inr (.inl powers))), (cg, .inl (G.2.2.1, 6, .inl challenges)), (an, .inl (G.2.2.2.1, 6, .inr (.inl answers)))] H.size) := by
  refine xc_ofWH (by decide) ?_
  intro p e s m args below meth c s₁ B hml hE hv
  obtain ⟨rfl, rfl, hw⟩ := hv
  have hx := B.exec
  have hb := B.bytes
  have ht := B.returns
  have hl0 := B.notSynchronized
  have S : xc_Fix p m c b_LW_file 9 s "SealTrustLaw" := ⟨hx, hb, hml, findClass_of_methodNamed B.named⟩
  have hD := hD0.self (sz := s.heap.size)
  generalize hAe : va_A [(x, .inr (3, [.ref k, .ref bu, .ref ma, .ref se, .int motionCount, .int sealedCount, .int suspended])), (ma, .inl (G.2.2.2.2, 12, .inr (.inr (.inr (.inr mot))))), (mo, .inr (2, [.ref pw, .ref cg, .ref an, .int standing, .long block, .int partials, .int objections, .long signature])), (pw, .inl (G.2.2.2.1, 6, .inr (.inl powers))), (cg, .inl (G.2.2.1, 6, .inl challenges)), (an, .inl (G.2.2.2.1, 6, .inr (.inl answers)))] s.heap.size = A at hD ⊢
  have hA : ∀ q : Nat, s.heap.size ≤ q → A q := fun q h => by rw [← hAe]; exact Or.inr h
  have hS : va_S A s.heap s.heap [] := va_S.rf
  have hl := lv_entry ([.ref x, .int motion, .int trustee, .long power, .int cc_, .long zz_]) (n := 9) (Nat.le_of_ble_eq_true rfl)
  rw [lg_entry_eq]
  generalize (lg_sl ([.ref x, .int motion, .int trustee, .long power, .int cc_, .long zz_]) ++ List.replicate (9 - (lg_sl ([.ref x, .int motion, .int trustee, .long power, .int cc_, .long zz_])).length) Slot.unset).toArray = ls at hl ⊢
  have hl : lv_has ls 9 [(0, .ref x), (1, .int motion), (2, .int trustee), (3, .long power), (5, .int cc_), (6, .long zz_)] := hl
  obtain ⟨gg, hgg⟩ : ∃ r, g_ST_file motion trustee motionCount standing objections = r := ⟨_, rfl⟩
  rw [hgg]
  show W p l e ({ frames := 8, cells := 8, slots := 48, locals := 115 } : Room) s m _ below meth c s.heap [] 0 0 (xc_Z below _ _ _ s 8 48) _
  refine lv_aload_n hx hb d_LW_file_0 rfl (lv_at hl 0 rfl) ?_
  refine lv_iload_n hx hb d_LW_file_1 rfl (lv_at hl 1 rfl) ?_
  refine lv_iload_n hx hb d_LW_file_2 rfl (lv_at hl 2 rfl) ?_
  refine lv_lload_n hx hb d_LW_file_3 rfl (lv_at hl 3 rfl) ?_
  refine lv_iload hx hb d_LW_file_4 (lv_at hl 4 rfl) ?_
  refine lv_lload hx hb d_LW_file_6 (lv_at hl 5 rfl) ?_
  refine xh_useW (wc := [(x, .inr (3, [.ref k, .ref bu, .ref ma, .ref se, .int motionCount, .int sealedCount, .int suspended])), (ma, .inl (G.2.2.2.2, 12, .inr (.inr (.inr (.inr mot))))), (mo, .inr (2, [.ref pw, .ref cg, .ref an, .int standing, .long block, .int partials, .int objections, .long signature])), (pw, .inl (G.2.2.2.1, 6, .inr (.inl powers))), (cg, .inl (G.2.2.1, 6, .inl challenges)), (an, .inl (G.2.2.2.1, 6, .inr (.inl answers)))]) (wr := []) (xg_runV (rest := []) (kw := 0) si_LW_34 hg hw S (va_recv (xg_k hg hw) hP (ci := 3) rfl (q0 := 0) rfl) (ct_ST_file l hg hl9 s.heap hO x motion trustee power cc_ zz_ k bu ma se motionCount sealedCount suspended mot mo pw cg an standing block partials objections signature powers challenges answers hP ((hD.sub [0, 1, 2, 3, 4, 5] (by decide) rfl).weaken (fun _ _ _ _ => trivial)) hC hM) ⟨by decide, by decide, by decide, by decide⟩ rfl hl.1 rfl (Nat.le_of_ble_eq_true rfl) d_LW_file_8) hP hD hS hA [0, 1, 2, 3, 4, 5] [] rfl rfl (by decide) (by decide) (fun h0 H8 L8 hP hD hS => ?_) (fun E9 q9 ce H9 L9 h0 hP hS hce hcv hcl => ?_)
  · rw [hgg] at h0
    subst h0
    have hP : va_P G.2.1 cl_all [(x, .inr (3, [.ref k, .ref bu, .ref ma, .ref se, .int motionCount, .int sealedCount, .int suspended])), (ma, .inl (G.2.2.2.2, 12, .inr (.inr (.inr (.inr mot))))), (mo, .inr (2, [.ref pw, .ref cg, .ref an, .int standing, .long block, .int (f_ST_file_partials motion trustee motionCount standing partials objections), .int objections, .long signature])), (pw, .inl (G.2.2.2.1, 6, .inr (.inl (f_ST_file_PW motion trustee power motionCount standing objections powers)))), (cg, .inl (G.2.2.1, 6, .inl (f_ST_file_CG motion trustee cc_ motionCount standing objections challenges))), (an, .inl (G.2.2.2.1, 6, .inr (.inl (f_ST_file_AN motion trustee zz_ motionCount standing objections answers))))] H8 := hP
    have hD : va_D A [(x, .inr (3, [.ref k, .ref bu, .ref ma, .ref se, .int motionCount, .int sealedCount, .int suspended])), (ma, .inl (G.2.2.2.2, 12, .inr (.inr (.inr (.inr mot))))), (mo, .inr (2, [.ref pw, .ref cg, .ref an, .int standing, .long block, .int (f_ST_file_partials motion trustee motionCount standing partials objections), .int objections, .long signature])), (pw, .inl (G.2.2.2.1, 6, .inr (.inl (f_ST_file_PW motion trustee power motionCount standing objections powers)))), (cg, .inl (G.2.2.1, 6, .inl (f_ST_file_CG motion trustee cc_ motionCount standing objections challenges))), (an, .inl (G.2.2.2.1, 6, .inr (.inl (f_ST_file_AN motion trustee zz_ motionCount standing objections answers))))] := hD
    refine lv_goto hx hb d_LW_file_11 (tgt := 22) (by decide) ?_
    refine lv_iconst (v := (0 : Int32)) hx hb d_LW_file_22 (by decide) ?_
    refine W.widen (k := 8) (n := 48) (Nat.le_of_ble_eq_true rfl) (Nat.le_of_ble_eq_true rfl) ?_
    exact xw_iret hx hb ht hl0 hP hD hS d_LW_file_23
  · have h1 := gv_ST_file h0
    rw [hgg] at h0
    subst h0
    rcases h1 with rfl | rfl
    · refine xh_1 hE ⟨by decide, by decide⟩ (by decide) hg hw S.2.2.2 xh_k4 xh_s4 hce hcv hcl ?_
      rw [show xh_c xt_NS xt_IS (some xt_NS) = 1 from xh_e1]
      refine lv_astore hx hb d_LW_file_14 hl (by decide) rfl (fun ls hl => ?_)
      have hl : lv_has ls 9 [(8, .ref q9), (0, .ref x), (1, .int motion), (2, .int trustee), (3, .long power), (5, .int cc_), (6, .long zz_)] := hl
      refine lv_iconst (v := (1 : Int32)) hx hb d_LW_file_16 (by decide) ?_
      refine W.widen (k := 8) (n := 48) (Nat.le_of_ble_eq_true rfl) (Nat.le_of_ble_eq_true rfl) ?_
      exact xw_iret hx hb ht hl0 hP hD hS d_LW_file_17
    · refine xh_2 (E1 := xt_NS) hE ⟨by decide, by decide⟩ (by decide) (by decide) hg hw S.2.2.2 xh_k4 (by decide +kernel) xh_k2 xh_s2 hce hcv hcl ?_
      rw [show xh_c xt_NS xt_IS (some xt_IS) = 2 from (xh_e2 (by decide))]
      refine lv_astore hx hb d_LW_file_18 hl (by decide) rfl (fun ls hl => ?_)
      have hl : lv_has ls 9 [(8, .ref q9), (0, .ref x), (1, .int motion), (2, .int trustee), (3, .long power), (5, .int cc_), (6, .long zz_)] := hl
      refine lv_iconst (v := (2 : Int32)) hx hb d_LW_file_20 (by decide) ?_
      refine W.widen (k := 8) (n := 48) (Nat.le_of_ble_eq_true rfl) (Nat.le_of_ble_eq_true rfl) ?_
      exact xw_iret hx hb ht hl0 hP hD hS d_LW_file_21
theorem gi_ST_partial {motion : Int32} {trustee : Int32} {what : Int32} {motionCount : Int32} {partials : Int32} : xt_in [xt_NS, xt_IA] (g_ST_partial motion trustee what motionCount partials) := by
  unfold g_ST_partial
  repeat' first | exact xt_in0 | exact xt_inS (by decide) | exact xt_inW (gi_ST_requireKey ..) (by decide) | exact xt_inW (gi_ST_motionAt ..) (by decide) | exact xt_inW (gi_ST_requireTrustee ..) (by decide) | exact xt_inW (gi_ST_requireOpen ..) (by decide) | exact xt_inW (gi_ST_requireNoVoice ..) (by decide) | exact xt_inW (gi_ST_requireDocument ..) (by decide) | exact xt_inW (gi_ST_deal ..) (by decide) | exact xt_inW (gi_ST_put ..) (by decide) | exact xt_inW (gi_ST_motion ..) (by decide) | exact xt_inW (gi_ST_consent ..) (by decide) | exact xt_inW (gi_ST_object ..) (by decide) | exact xt_inW (gi_ST_file ..) (by decide) | refine xt_inI ?_ ?_ | refine xt_inE ?_ ?_
theorem gv_ST_partial {E : String} {motion : Int32} {trustee : Int32} {what : Int32} {motionCount : Int32} {partials : Int32} (h : g_ST_partial motion trustee what motionCount partials = some E) : E = xt_NS ∨ E = xt_IA := by
  have h1 := gi_ST_partial _ h
  simpa using h1
set_option maxHeartbeats 4000000 in
set_option maxRecDepth 100000 in
theorem ct_LW_partial (l : Launch) {G : xg_G} (hg : xg_F G) (hl9 : l.stackTraces = false) (H : Heap) (hO : xg_O G H) (x : Nat) (motion : Int32) (trustee : Int32) (what : Int32) (k : Nat) (bu : Nat) (ma : Nat) (se : Nat) (motionCount : Int32) (sealedCount : Int32) (suspended : Int32) (mot : Nat → Option Nat) (mo : Nat) (pw : Nat) (cg : Nat) (an : Nat) (standing : Int32) (block : Int64) (partials : Int32) (objections : Int32) (signature : Int64) (powers : Nat → Int64) (challenges : Nat → Int32) (answers : Nat → Int64) (ou : Nat) (outf : Nat → Int64) (hP : va_P G.2.1 cl_all [(x, .inr (3, [.ref k, .ref bu, .ref ma, .ref se, .int motionCount, .int sealedCount, .int suspended])), (ma, .inl (G.2.2.2.2, 12, .inr (.inr (.inr (.inr mot))))), (mo, .inr (2, [.ref pw, .ref cg, .ref an, .int standing, .long block, .int partials, .int objections, .long signature])), (pw, .inl (G.2.2.2.1, 6, .inr (.inl powers))), (cg, .inl (G.2.2.1, 6, .inl challenges)), (an, .inl (G.2.2.2.1, 6, .inr (.inl answers))), (ou, .inl (G.2.2.2.1, 1, .inr (.inl outf)))] H) (hD0 : va_D (fun _ => True) [(x, .inr (3, [.ref k, .ref bu, .ref ma, .ref se, .int motionCount, .int sealedCount, .int suspended])), (ma, .inl (G.2.2.2.2, 12, .inr (.inr (.inr (.inr mot))))), (mo, .inr (2, [.ref pw, .ref cg, .ref an, .int standing, .long block, .int partials, .int objections, .long signature])), (pw, .inl (G.2.2.2.1, 6, .inr (.inl powers))), (cg, .inl (G.2.2.1, 6, .inl challenges)), (an, .inl (G.2.2.2.1, 6, .inr (.inl answers))), (ou, .inl (G.2.2.2.1, 1, .inr (.inl outf)))]) (hC : motionCount.toInt ≤ 12) (hM : ¬ motion < 0 → motion < motionCount → mot motion.toNatClampNeg = some mo) : xc_Met l y_LW_partial (.codeWith y_LW_partial b_LW_partial 6 (some .int) [(0, 11, 14, 29), (0, 11, 18, 13)]) ({ frames := 8, cells := 8, slots := 48, locals := 113 } : Room) (xg_Pc G [.ref x, .int motion, .int trustee, .int what, .ref ou] H) (xw_post G (va_A [(x, .inr (3, [.ref k, .ref bu, .ref ma, .ref se, .int motionCount, .int sealedCount, .int suspended])), (ma, .inl (G.2.2.2.2, 12, .inr (.inr (.inr (.inr mot))))), (mo, .inr (2, [.ref pw, .ref cg, .ref an, .int standing, .long block, .int partials, .int objections, .long signature])), (pw, .inl (G.2.2.2.1, 6, .inr (.inl powers))), (cg, .inl (G.2.2.1, 6, .inl challenges)), (an, .inl (G.2.2.2.1, 6, .inr (.inl answers))), (ou, .inl (G.2.2.2.1, 1, .inr (.inl outf)))] H.size) (some (.int (xh_c xt_NS xt_IA (g_ST_partial motion trustee what motionCount partials)))) [(x, .inr (3, [.ref k, .ref bu, .ref ma, .ref se, .int motionCount, .int sealedCount, .int suspended])), (ma, .inl (G.2.2.2.2, 12, .inr (.inr (.inr (.inr mot))))), (mo, .inr (2, [.ref pw, .ref cg, .ref an, .int standing, .long block, .int partials, .int objections, .long signature])), (pw, .inl (G.2.2.2.1, 6, .inr (.inl powers))), (cg, .inl (G.2.2.1, 6, .inl challenges)), (an, .inl (G.2.2.2.1, 6, .inr (.inl answers))), (ou, .inl (G.2.2.2.1, 1, .inr (.inl (xt_el (g_ST_partial motion trustee what motionCount partials) outf (vp_updL outf (0 : Int32).toNatClampNeg (f_ST_partial motion trustee what motionCount partials powers challenges answers))))))]) (va_A [(x, .inr (3, [.ref k, .ref bu, .ref ma, .ref se, .int motionCount, .int sealedCount, .int suspended])), (ma, .inl (G.2.2.2.2, 12, .inr (.inr (.inr (.inr mot))))), (mo, .inr (2, [.ref pw, .ref cg, .ref an, .int standing, .long block, .int partials, .int objections, .long signature])), (pw, .inl (G.2.2.2.1, 6, .inr (.inl powers))), (cg, .inl (G.2.2.1, 6, .inl challenges)), (an, .inl (G.2.2.2.1, 6, .inr (.inl answers))), (ou, .inl (G.2.2.2.1, 1, .inr (.inl outf)))] H.size) := by
  refine xc_ofWH (by decide) ?_
  intro p e s m args below meth c s₁ B hml hE hv
  obtain ⟨rfl, rfl, hw⟩ := hv
  have hx := B.exec
  have hb := B.bytes
  have ht := B.returns
  have hl0 := B.notSynchronized
  have S : xc_Fix p m c b_LW_partial 6 s "SealTrustLaw" := ⟨hx, hb, hml, findClass_of_methodNamed B.named⟩
  have hD := hD0.self (sz := s.heap.size)
  generalize hAe : va_A [(x, .inr (3, [.ref k, .ref bu, .ref ma, .ref se, .int motionCount, .int sealedCount, .int suspended])), (ma, .inl (G.2.2.2.2, 12, .inr (.inr (.inr (.inr mot))))), (mo, .inr (2, [.ref pw, .ref cg, .ref an, .int standing, .long block, .int partials, .int objections, .long signature])), (pw, .inl (G.2.2.2.1, 6, .inr (.inl powers))), (cg, .inl (G.2.2.1, 6, .inl challenges)), (an, .inl (G.2.2.2.1, 6, .inr (.inl answers))), (ou, .inl (G.2.2.2.1, 1, .inr (.inl outf)))] s.heap.size = A at hD ⊢
  have hA : ∀ q : Nat, s.heap.size ≤ q → A q := fun q h => by rw [← hAe]; exact Or.inr h
  have hS : va_S A s.heap s.heap [] := va_S.rf
  have hl := lv_entry ([.ref x, .int motion, .int trustee, .int what, .ref ou]) (n := 6) (Nat.le_of_ble_eq_true rfl)
  rw [lg_entry_eq]
  generalize (lg_sl ([.ref x, .int motion, .int trustee, .int what, .ref ou]) ++ List.replicate (6 - (lg_sl ([.ref x, .int motion, .int trustee, .int what, .ref ou])).length) Slot.unset).toArray = ls at hl ⊢
  have hl : lv_has ls 6 [(0, .ref x), (1, .int motion), (2, .int trustee), (3, .int what), (4, .ref ou)] := hl
  obtain ⟨gg, hgg⟩ : ∃ r, g_ST_partial motion trustee what motionCount partials = r := ⟨_, rfl⟩
  rw [hgg]
  show W p l e ({ frames := 8, cells := 8, slots := 48, locals := 113 } : Room) s m _ below meth c s.heap [] 0 0 (xc_Z below _ _ _ s 8 48) _
  refine lv_aload hx hb d_LW_partial_0 (lv_at hl 4 rfl) ?_
  refine lv_iconst (v := (0 : Int32)) hx hb d_LW_partial_2 (by decide) ?_
  refine lv_aload_n hx hb d_LW_partial_3 rfl (lv_at hl 0 rfl) ?_
  refine lv_iload_n hx hb d_LW_partial_4 rfl (lv_at hl 1 rfl) ?_
  refine lv_iload_n hx hb d_LW_partial_5 rfl (lv_at hl 2 rfl) ?_
  refine lv_iload_n hx hb d_LW_partial_6 rfl (lv_at hl 3 rfl) ?_
  refine xh_useR (xg_runV (rest := [.int (0 : Int32), .ref ou]) (kw := 2) si_LW_38 hg hw S (va_recv (xg_k hg hw) hP (ci := 3) rfl (q0 := 0) rfl) (ct_ST_partial l hg hl9 s.heap hO x motion trustee what k bu ma se motionCount sealedCount suspended mot mo pw cg an standing block partials objections signature powers challenges answers (hP.sub [0, 1, 2, 3, 4, 5] rfl) hC hM) ⟨by decide, by decide, by decide, by decide⟩ rfl hl.1 rfl (Nat.le_of_ble_eq_true rfl) d_LW_partial_7) hP hS (fun h0 => ?_) (fun E9 q9 ce H9 L9 h0 hP hS hce hcv hcl => ?_)
  · rw [hgg] at h0
    subst h0
    refine va_last hx hb (xg_k hg hw) hP hD hS 6 1 rfl rfl xh_01 d_LW_partial_10 (fun H7 L7 hP hD hS => ?_)
    have hP : va_P G.2.1 cl_all [(x, .inr (3, [.ref k, .ref bu, .ref ma, .ref se, .int motionCount, .int sealedCount, .int suspended])), (ma, .inl (G.2.2.2.2, 12, .inr (.inr (.inr (.inr mot))))), (mo, .inr (2, [.ref pw, .ref cg, .ref an, .int standing, .long block, .int partials, .int objections, .long signature])), (pw, .inl (G.2.2.2.1, 6, .inr (.inl powers))), (cg, .inl (G.2.2.1, 6, .inl challenges)), (an, .inl (G.2.2.2.1, 6, .inr (.inl answers))), (ou, .inl (G.2.2.2.1, 1, .inr (.inl (vp_updL outf (0 : Int32).toNatClampNeg (f_ST_partial motion trustee what motionCount partials powers challenges answers)))))] H7 := hP
    have hD : va_D A [(x, .inr (3, [.ref k, .ref bu, .ref ma, .ref se, .int motionCount, .int sealedCount, .int suspended])), (ma, .inl (G.2.2.2.2, 12, .inr (.inr (.inr (.inr mot))))), (mo, .inr (2, [.ref pw, .ref cg, .ref an, .int standing, .long block, .int partials, .int objections, .long signature])), (pw, .inl (G.2.2.2.1, 6, .inr (.inl powers))), (cg, .inl (G.2.2.1, 6, .inl challenges)), (an, .inl (G.2.2.2.1, 6, .inr (.inl answers))), (ou, .inl (G.2.2.2.1, 1, .inr (.inl (vp_updL outf (0 : Int32).toNatClampNeg (f_ST_partial motion trustee what motionCount partials powers challenges answers)))))] := hD
    refine lv_goto hx hb d_LW_partial_11 (tgt := 22) (by decide) ?_
    refine lv_iconst (v := (0 : Int32)) hx hb d_LW_partial_22 (by decide) ?_
    refine W.widen (k := 8) (n := 48) (Nat.le_of_ble_eq_true rfl) (Nat.le_of_ble_eq_true rfl) ?_
    exact xw_iret hx hb ht hl0 hP hD hS d_LW_partial_23
  · have h1 := gv_ST_partial h0
    rw [hgg] at h0
    subst h0
    rcases h1 with rfl | rfl
    · refine xh_1 hE ⟨by decide, by decide⟩ (by decide) hg hw S.2.2.2 xh_k4 xh_s4 hce hcv hcl ?_
      rw [show xh_c xt_NS xt_IA (some xt_NS) = 1 from xh_e1]
      refine lv_astore hx hb d_LW_partial_14 hl (by decide) rfl (fun ls hl => ?_)
      have hl : lv_has ls 6 [(5, .ref q9), (0, .ref x), (1, .int motion), (2, .int trustee), (3, .int what), (4, .ref ou)] := hl
      refine lv_iconst (v := (1 : Int32)) hx hb d_LW_partial_16 (by decide) ?_
      refine W.widen (k := 8) (n := 48) (Nat.le_of_ble_eq_true rfl) (Nat.le_of_ble_eq_true rfl) ?_
      exact xw_iret hx hb ht hl0 hP hD hS d_LW_partial_17
    · refine xh_2 (E1 := xt_NS) hE ⟨by decide, by decide⟩ (by decide) (by decide) hg hw S.2.2.2 xh_k4 (by decide +kernel) xh_k1 xh_s1 hce hcv hcl ?_
      rw [show xh_c xt_NS xt_IA (some xt_IA) = 2 from (xh_e2 (by decide))]
      refine lv_astore hx hb d_LW_partial_18 hl (by decide) rfl (fun ls hl => ?_)
      have hl : lv_has ls 6 [(5, .ref q9), (0, .ref x), (1, .int motion), (2, .int trustee), (3, .int what), (4, .ref ou)] := hl
      refine lv_iconst (v := (2 : Int32)) hx hb d_LW_partial_20 (by decide) ?_
      refine W.widen (k := 8) (n := 48) (Nat.le_of_ble_eq_true rfl) (Nat.le_of_ble_eq_true rfl) ?_
      exact xw_iret hx hb ht hl0 hP hD hS d_LW_partial_21
theorem gi_ST_bad {motion : Int32} {motionCount : Int32} : xt_in [xt_NS] (g_ST_bad motion motionCount) := by
  unfold g_ST_bad
  repeat' first | exact xt_in0 | exact xt_inS (by decide) | exact xt_inW (gi_ST_requireKey ..) (by decide) | exact xt_inW (gi_ST_motionAt ..) (by decide) | exact xt_inW (gi_ST_requireTrustee ..) (by decide) | exact xt_inW (gi_ST_requireOpen ..) (by decide) | exact xt_inW (gi_ST_requireNoVoice ..) (by decide) | exact xt_inW (gi_ST_requireDocument ..) (by decide) | exact xt_inW (gi_ST_deal ..) (by decide) | exact xt_inW (gi_ST_put ..) (by decide) | exact xt_inW (gi_ST_motion ..) (by decide) | exact xt_inW (gi_ST_consent ..) (by decide) | exact xt_inW (gi_ST_object ..) (by decide) | exact xt_inW (gi_ST_file ..) (by decide) | exact xt_inW (gi_ST_partial ..) (by decide) | refine xt_inI ?_ ?_ | refine xt_inE ?_ ?_
theorem gv_ST_bad {E : String} {motion : Int32} {motionCount : Int32} (h : g_ST_bad motion motionCount = some E) : E = xt_NS := List.mem_singleton.mp (gi_ST_bad _ h)
set_option maxHeartbeats 4000000 in
set_option maxRecDepth 100000 in
theorem ct_LW_bad (l : Launch) {G : xg_G} (hg : xg_F G) (hl9 : l.stackTraces = false) (H : Heap) (hO : xg_O G H) (x : Nat) (motion : Int32) (k : Nat) (bu : Nat) (ma : Nat) (se : Nat) (motionCount : Int32) (sealedCount : Int32) (suspended : Int32) (sh : Nat) (ch : Nat) (dealt : Int32) (epoch : Int64) (base : Int64) (whole : Int64) (signing : Int64) (pp : Int64) (qq : Int64) (modulus : Int64) (order : Int64) (checks : Nat → Int64) (mot : Nat → Option Nat) (mo : Nat) (pw : Nat) (cg : Nat) (an : Nat) (standing : Int32) (block : Int64) (partials : Int32) (objections : Int32) (signature : Int64) (powers : Nat → Int64) (challenges : Nat → Int32) (answers : Nat → Int64) (ou : Nat) (outf : Nat → Int64) (hP : va_P G.2.1 cl_all [(x, .inr (3, [.ref k, .ref bu, .ref ma, .ref se, .int motionCount, .int sealedCount, .int suspended])), (k, .inr (1, [.ref sh, .ref ch, .int dealt, .long epoch, .long base, .long whole, .long signing, .long pp, .long qq, .long modulus, .long order])), (ch, .inl (G.2.2.2.1, 6, .inr (.inl checks))), (ma, .inl (G.2.2.2.2, 12, .inr (.inr (.inr (.inr mot))))), (mo, .inr (2, [.ref pw, .ref cg, .ref an, .int standing, .long block, .int partials, .int objections, .long signature])), (pw, .inl (G.2.2.2.1, 6, .inr (.inl powers))), (cg, .inl (G.2.2.1, 6, .inl challenges)), (an, .inl (G.2.2.2.1, 6, .inr (.inl answers))), (ou, .inl (G.2.2.2.1, 1, .inr (.inl outf)))] H) (hD0 : va_D (fun _ => True) [(x, .inr (3, [.ref k, .ref bu, .ref ma, .ref se, .int motionCount, .int sealedCount, .int suspended])), (k, .inr (1, [.ref sh, .ref ch, .int dealt, .long epoch, .long base, .long whole, .long signing, .long pp, .long qq, .long modulus, .long order])), (ch, .inl (G.2.2.2.1, 6, .inr (.inl checks))), (ma, .inl (G.2.2.2.2, 12, .inr (.inr (.inr (.inr mot))))), (mo, .inr (2, [.ref pw, .ref cg, .ref an, .int standing, .long block, .int partials, .int objections, .long signature])), (pw, .inl (G.2.2.2.1, 6, .inr (.inl powers))), (cg, .inl (G.2.2.1, 6, .inl challenges)), (an, .inl (G.2.2.2.1, 6, .inr (.inl answers))), (ou, .inl (G.2.2.2.1, 1, .inr (.inl outf)))]) (hC : motionCount.toInt ≤ 12) (hM : ¬ motion < 0 → motion < motionCount → mot motion.toNatClampNeg = some mo) : xc_Met l y_LW_bad (.codeWith y_LW_bad b_LW_bad 4 (some .int) [(0, 9, 12, 29)]) ({ frames := 8, cells := 8, slots := 48, locals := 135 } : Room) (xg_Pc G [.ref x, .int motion, .ref ou] H) (xw_post G (va_A [(x, .inr (3, [.ref k, .ref bu, .ref ma, .ref se, .int motionCount, .int sealedCount, .int suspended])), (k, .inr (1, [.ref sh, .ref ch, .int dealt, .long epoch, .long base, .long whole, .long signing, .long pp, .long qq, .long modulus, .long order])), (ch, .inl (G.2.2.2.1, 6, .inr (.inl checks))), (ma, .inl (G.2.2.2.2, 12, .inr (.inr (.inr (.inr mot))))), (mo, .inr (2, [.ref pw, .ref cg, .ref an, .int standing, .long block, .int partials, .int objections, .long signature])), (pw, .inl (G.2.2.2.1, 6, .inr (.inl powers))), (cg, .inl (G.2.2.1, 6, .inl challenges)), (an, .inl (G.2.2.2.1, 6, .inr (.inl answers))), (ou, .inl (G.2.2.2.1, 1, .inr (.inl outf)))] H.size) (some (.int (xh_c xt_NS xt_IS (g_ST_bad motion motionCount)))) [(x, .inr (3, [.ref k, .ref bu, .ref ma, .ref se, .int motionCount, .int sealedCount, .int suspended])), (k, .inr (1, [.ref sh, .ref ch, .int dealt, .long epoch, .long base, .long whole, .long signing, .long pp, .long qq, .long modulus, .long order])), (ch, .inl (G.2.2.2.1, 6, .inr (.inl checks))), (ma, .inl (G.2.2.2.2, 12, .inr (.inr (.inr (.inr mot))))), (mo, .inr (2, [.ref pw, .ref cg, .ref an, .int standing, .long block, .int partials, .int objections, .long signature])), (pw, .inl (G.2.2.2.1, 6, .inr (.inl powers))), (cg, .inl (G.2.2.1, 6, .inl challenges)), (an, .inl (G.2.2.2.1, 6, .inr (.inl answers))), (ou, .inl (G.2.2.2.1, 1, .inr (.inl (xt_el (g_ST_bad motion motionCount) outf (vp_updL outf (0 : Int32).toNatClampNeg (f_ST_bad motion motionCount base pp qq modulus order checks block partials powers challenges answers).toInt64)))))]) (va_A [(x, .inr (3, [.ref k, .ref bu, .ref ma, .ref se, .int motionCount, .int sealedCount, .int suspended])), (k, .inr (1, [.ref sh, .ref ch, .int dealt, .long epoch, .long base, .long whole, .long signing, .long pp, .long qq, .long modulus, .long order])), (ch, .inl (G.2.2.2.1, 6, .inr (.inl checks))), (ma, .inl (G.2.2.2.2, 12, .inr (.inr (.inr (.inr mot))))), (mo, .inr (2, [.ref pw, .ref cg, .ref an, .int standing, .long block, .int partials, .int objections, .long signature])), (pw, .inl (G.2.2.2.1, 6, .inr (.inl powers))), (cg, .inl (G.2.2.1, 6, .inl challenges)), (an, .inl (G.2.2.2.1, 6, .inr (.inl answers))), (ou, .inl (G.2.2.2.1, 1, .inr (.inl outf)))] H.size) := by
  refine xc_ofWH (by decide) ?_
  intro p e s m args below meth c s₁ B hml hE hv
  obtain ⟨rfl, rfl, hw⟩ := hv
  have hx := B.exec
  have hb := B.bytes
  have ht := B.returns
  have hl0 := B.notSynchronized
  have S : xc_Fix p m c b_LW_bad 4 s "SealTrustLaw" := ⟨hx, hb, hml, findClass_of_methodNamed B.named⟩
  have hD := hD0.self (sz := s.heap.size)
  generalize hAe : va_A [(x, .inr (3, [.ref k, .ref bu, .ref ma, .ref se, .int motionCount, .int sealedCount, .int suspended])), (k, .inr (1, [.ref sh, .ref ch, .int dealt, .long epoch, .long base, .long whole, .long signing, .long pp, .long qq, .long modulus, .long order])), (ch, .inl (G.2.2.2.1, 6, .inr (.inl checks))), (ma, .inl (G.2.2.2.2, 12, .inr (.inr (.inr (.inr mot))))), (mo, .inr (2, [.ref pw, .ref cg, .ref an, .int standing, .long block, .int partials, .int objections, .long signature])), (pw, .inl (G.2.2.2.1, 6, .inr (.inl powers))), (cg, .inl (G.2.2.1, 6, .inl challenges)), (an, .inl (G.2.2.2.1, 6, .inr (.inl answers))), (ou, .inl (G.2.2.2.1, 1, .inr (.inl outf)))] s.heap.size = A at hD ⊢
  have hA : ∀ q : Nat, s.heap.size ≤ q → A q := fun q h => by rw [← hAe]; exact Or.inr h
  have hS : va_S A s.heap s.heap [] := va_S.rf
  have hl := lv_entry ([.ref x, .int motion, .ref ou]) (n := 4) (Nat.le_of_ble_eq_true rfl)
  rw [lg_entry_eq]
  generalize (lg_sl ([.ref x, .int motion, .ref ou]) ++ List.replicate (4 - (lg_sl ([.ref x, .int motion, .ref ou])).length) Slot.unset).toArray = ls at hl ⊢
  have hl : lv_has ls 4 [(0, .ref x), (1, .int motion), (2, .ref ou)] := hl
  obtain ⟨gg, hgg⟩ : ∃ r, g_ST_bad motion motionCount = r := ⟨_, rfl⟩
  rw [hgg]
  show W p l e ({ frames := 8, cells := 8, slots := 48, locals := 135 } : Room) s m _ below meth c s.heap [] 0 0 (xc_Z below _ _ _ s 8 48) _
  refine lv_aload_n hx hb d_LW_bad_0 rfl (lv_at hl 2 rfl) ?_
  refine lv_iconst (v := (0 : Int32)) hx hb d_LW_bad_1 (by decide) ?_
  refine lv_aload_n hx hb d_LW_bad_2 rfl (lv_at hl 0 rfl) ?_
  refine lv_iload_n hx hb d_LW_bad_3 rfl (lv_at hl 1 rfl) ?_
  refine xh_useR (xg_runV (rest := [.int (0 : Int32), .ref ou]) (kw := 2) si_LW_42 hg hw S (va_recv (xg_k hg hw) hP (ci := 3) rfl (q0 := 0) rfl) (ct_ST_bad l hg hl9 s.heap hO x motion k bu ma se motionCount sealedCount suspended sh ch dealt epoch base whole signing pp qq modulus order checks mot mo pw cg an standing block partials objections signature powers challenges answers (hP.sub [0, 1, 2, 3, 4, 5, 6, 7] rfl) hC hM) ⟨by decide, by decide, by decide, by decide⟩ rfl hl.1 rfl (Nat.le_of_ble_eq_true rfl) d_LW_bad_4) hP hS (fun h0 => ?_) (fun E9 q9 ce H9 L9 h0 hP hS hce hcv hcl => ?_)
  · rw [hgg] at h0
    subst h0
    refine lv_i2l hx hb d_LW_bad_7 rfl ?_
    refine va_last hx hb (xg_k hg hw) hP hD hS 8 1 rfl rfl xh_01 d_LW_bad_8 (fun H7 L7 hP hD hS => ?_)
    have hP : va_P G.2.1 cl_all [(x, .inr (3, [.ref k, .ref bu, .ref ma, .ref se, .int motionCount, .int sealedCount, .int suspended])), (k, .inr (1, [.ref sh, .ref ch, .int dealt, .long epoch, .long base, .long whole, .long signing, .long pp, .long qq, .long modulus, .long order])), (ch, .inl (G.2.2.2.1, 6, .inr (.inl checks))), (ma, .inl (G.2.2.2.2, 12, .inr (.inr (.inr (.inr mot))))), (mo, .inr (2, [.ref pw, .ref cg, .ref an, .int standing, .long block, .int partials, .int objections, .long signature])), (pw, .inl (G.2.2.2.1, 6, .inr (.inl powers))), (cg, .inl (G.2.2.1, 6, .inl challenges)), (an, .inl (G.2.2.2.1, 6, .inr (.inl answers))), (ou, .inl (G.2.2.2.1, 1, .inr (.inl (vp_updL outf (0 : Int32).toNatClampNeg ((f_ST_bad motion motionCount base pp qq modulus order checks block partials powers challenges answers).toInt64)))))] H7 := hP
    have hD : va_D A [(x, .inr (3, [.ref k, .ref bu, .ref ma, .ref se, .int motionCount, .int sealedCount, .int suspended])), (k, .inr (1, [.ref sh, .ref ch, .int dealt, .long epoch, .long base, .long whole, .long signing, .long pp, .long qq, .long modulus, .long order])), (ch, .inl (G.2.2.2.1, 6, .inr (.inl checks))), (ma, .inl (G.2.2.2.2, 12, .inr (.inr (.inr (.inr mot))))), (mo, .inr (2, [.ref pw, .ref cg, .ref an, .int standing, .long block, .int partials, .int objections, .long signature])), (pw, .inl (G.2.2.2.1, 6, .inr (.inl powers))), (cg, .inl (G.2.2.1, 6, .inl challenges)), (an, .inl (G.2.2.2.1, 6, .inr (.inl answers))), (ou, .inl (G.2.2.2.1, 1, .inr (.inl (vp_updL outf (0 : Int32).toNatClampNeg ((f_ST_bad motion motionCount base pp qq modulus order checks block partials powers challenges answers).toInt64)))))] := hD
    refine lv_goto hx hb d_LW_bad_9 (tgt := 15) (by decide) ?_
    refine lv_iconst (v := (0 : Int32)) hx hb d_LW_bad_15 (by decide) ?_
    refine W.widen (k := 8) (n := 48) (Nat.le_of_ble_eq_true rfl) (Nat.le_of_ble_eq_true rfl) ?_
    exact xw_iret hx hb ht hl0 hP hD hS d_LW_bad_16
  · have h1 := gv_ST_bad h0
    rw [hgg] at h0
    subst h0
    subst h1
    refine xh_1 hE ⟨by decide, by decide⟩ (by decide) hg hw S.2.2.2 xh_k4 xh_s4 hce hcv hcl ?_
    rw [show xh_c xt_NS xt_IS (some xt_NS) = 1 from xh_e1]
    refine lv_astore_n hx hb d_LW_bad_12 rfl hl (by decide) rfl (fun ls hl => ?_)
    have hl : lv_has ls 4 [(3, .ref q9), (0, .ref x), (1, .int motion), (2, .ref ou)] := hl
    refine lv_iconst (v := (1 : Int32)) hx hb d_LW_bad_13 (by decide) ?_
    refine W.widen (k := 8) (n := 48) (Nat.le_of_ble_eq_true rfl) (Nat.le_of_ble_eq_true rfl) ?_
    exact xw_iret hx hb ht hl0 hP hD hS d_LW_bad_14
theorem gi_ST_join {motion : Int32} {motionCount : Int32} {base : Int64} {pp : Int64} {qq : Int64} {modulus : Int64} {order : Int64} {checks : Nat → Int64} {standing : Int32} {block : Int64} {partials : Int32} {powers : Nat → Int64} {challenges : Nat → Int32} {answers : Nat → Int64} : xt_in [xt_NS, xt_IS, xt_AR] (g_ST_join motion motionCount base pp qq modulus order checks standing block partials powers challenges answers) := by
  unfold g_ST_join
  repeat' first | exact xt_in0 | exact xt_inS (by decide) | exact xt_inW (gi_ST_requireKey ..) (by decide) | exact xt_inW (gi_ST_motionAt ..) (by decide) | exact xt_inW (gi_ST_requireTrustee ..) (by decide) | exact xt_inW (gi_ST_requireOpen ..) (by decide) | exact xt_inW (gi_ST_requireNoVoice ..) (by decide) | exact xt_inW (gi_ST_requireDocument ..) (by decide) | exact xt_inW (gi_ST_deal ..) (by decide) | exact xt_inW (gi_ST_put ..) (by decide) | exact xt_inW (gi_ST_motion ..) (by decide) | exact xt_inW (gi_ST_consent ..) (by decide) | exact xt_inW (gi_ST_object ..) (by decide) | exact xt_inW (gi_ST_file ..) (by decide) | exact xt_inW (gi_ST_partial ..) (by decide) | exact xt_inW (gi_ST_bad ..) (by decide) | refine xt_inI ?_ ?_ | refine xt_inE ?_ ?_
theorem gv_ST_join {E : String} {motion : Int32} {motionCount : Int32} {base : Int64} {pp : Int64} {qq : Int64} {modulus : Int64} {order : Int64} {checks : Nat → Int64} {standing : Int32} {block : Int64} {partials : Int32} {powers : Nat → Int64} {challenges : Nat → Int32} {answers : Nat → Int64} (h : g_ST_join motion motionCount base pp qq modulus order checks standing block partials powers challenges answers = some E) : E = xt_NS ∨ E = xt_IS ∨ E = xt_AR := by
  have h1 := gi_ST_join _ h
  simpa using h1
set_option maxHeartbeats 4000000 in
set_option maxRecDepth 100000 in
theorem ct_LW_join (l : Launch) {G : xg_G} (hg : xg_F G) (hl9 : l.stackTraces = false) (H : Heap) (hO : xg_O G H) (x : Nat) (motion : Int32) (k : Nat) (bu : Nat) (ma : Nat) (se : Nat) (motionCount : Int32) (sealedCount : Int32) (suspended : Int32) (sh : Nat) (ch : Nat) (dealt : Int32) (epoch : Int64) (base : Int64) (whole : Int64) (signing : Int64) (pp : Int64) (qq : Int64) (modulus : Int64) (order : Int64) (checks : Nat → Int64) (mot : Nat → Option Nat) (sealed : Nat → Int32) (mo : Nat) (pw : Nat) (cg : Nat) (an : Nat) (standing : Int32) (block : Int64) (partials : Int32) (objections : Int32) (signature : Int64) (powers : Nat → Int64) (challenges : Nat → Int32) (answers : Nat → Int64) (ou : Nat) (outf : Nat → Int64) (hP : va_P G.2.1 cl_all [(x, .inr (3, [.ref k, .ref bu, .ref ma, .ref se, .int motionCount, .int sealedCount, .int suspended])), (k, .inr (1, [.ref sh, .ref ch, .int dealt, .long epoch, .long base, .long whole, .long signing, .long pp, .long qq, .long modulus, .long order])), (ch, .inl (G.2.2.2.1, 6, .inr (.inl checks))), (ma, .inl (G.2.2.2.2, 12, .inr (.inr (.inr (.inr mot))))), (se, .inl (G.2.2.1, 12, .inl sealed)), (mo, .inr (2, [.ref pw, .ref cg, .ref an, .int standing, .long block, .int partials, .int objections, .long signature])), (pw, .inl (G.2.2.2.1, 6, .inr (.inl powers))), (cg, .inl (G.2.2.1, 6, .inl challenges)), (an, .inl (G.2.2.2.1, 6, .inr (.inl answers))), (ou, .inl (G.2.2.2.1, 1, .inr (.inl outf)))] H) (hD0 : va_D (fun _ => True) [(x, .inr (3, [.ref k, .ref bu, .ref ma, .ref se, .int motionCount, .int sealedCount, .int suspended])), (k, .inr (1, [.ref sh, .ref ch, .int dealt, .long epoch, .long base, .long whole, .long signing, .long pp, .long qq, .long modulus, .long order])), (ch, .inl (G.2.2.2.1, 6, .inr (.inl checks))), (ma, .inl (G.2.2.2.2, 12, .inr (.inr (.inr (.inr mot))))), (se, .inl (G.2.2.1, 12, .inl sealed)), (mo, .inr (2, [.ref pw, .ref cg, .ref an, .int standing, .long block, .int partials, .int objections, .long signature])), (pw, .inl (G.2.2.2.1, 6, .inr (.inl powers))), (cg, .inl (G.2.2.1, 6, .inl challenges)), (an, .inl (G.2.2.2.1, 6, .inr (.inl answers))), (ou, .inl (G.2.2.2.1, 1, .inr (.inl outf)))]) (hC : motionCount.toInt ≤ 12) (hM : ¬ motion < 0 → motion < motionCount → mot motion.toNatClampNeg = some mo) (hC0 : 0 ≤ sealedCount.toInt) : xc_Met l y_LW_join (.codeWith y_LW_join b_LW_join 4 (some .int) [(0, 8, 11, 29), (0, 8, 14, 23), (0, 8, 17, 50)]) ({ frames := 8, cells := 8, slots := 48, locals := 134 } : Room) (xg_Pc G [.ref x, .int motion, .ref ou] H) (xw_post G (va_A [(x, .inr (3, [.ref k, .ref bu, .ref ma, .ref se, .int motionCount, .int sealedCount, .int suspended])), (k, .inr (1, [.ref sh, .ref ch, .int dealt, .long epoch, .long base, .long whole, .long signing, .long pp, .long qq, .long modulus, .long order])), (ch, .inl (G.2.2.2.1, 6, .inr (.inl checks))), (ma, .inl (G.2.2.2.2, 12, .inr (.inr (.inr (.inr mot))))), (se, .inl (G.2.2.1, 12, .inl sealed)), (mo, .inr (2, [.ref pw, .ref cg, .ref an, .int standing, .long block, .int partials, .int objections, .long signature])), (pw, .inl (G.2.2.2.1, 6, .inr (.inl powers))), (cg, .inl (G.2.2.1, 6, .inl challenges)), (an, .inl (G.2.2.2.1, 6, .inr (.inl answers))), (ou, .inl (G.2.2.2.1, 1, .inr (.inl outf)))] H.size) (some (.int (xh_c xt_NS xt_IS (g_ST_join motion motionCount base pp qq modulus order checks standing block partials powers challenges answers)))) [(x, .inr (3, [.ref k, .ref bu, .ref ma, .ref se, .int motionCount, .int (xt_el (g_ST_join motion motionCount base pp qq modulus order checks standing block partials powers challenges answers) sealedCount (f_ST_join_sealedCount motion motionCount sealedCount base pp qq modulus order checks sealed standing block partials powers challenges answers)), .int suspended])), (k, .inr (1, [.ref sh, .ref ch, .int dealt, .long epoch, .long base, .long whole, .long signing, .long pp, .long qq, .long modulus, .long order])), (ch, .inl (G.2.2.2.1, 6, .inr (.inl checks))), (ma, .inl (G.2.2.2.2, 12, .inr (.inr (.inr (.inr mot))))), (se, .inl (G.2.2.1, 12, .inl (xt_el (g_ST_join motion motionCount base pp qq modulus order checks standing block partials powers challenges answers) sealed (f_ST_join_SE motion motionCount sealedCount base pp qq modulus order checks sealed standing block partials powers challenges answers)))), (mo, .inr (2, [.ref pw, .ref cg, .ref an, .int (xt_el (g_ST_join motion motionCount base pp qq modulus order checks standing block partials powers challenges answers) standing (f_ST_join_standing motion motionCount base signing pp qq modulus order checks standing block partials powers challenges answers)), .long block, .int partials, .int objections, .long (xt_el (g_ST_join motion motionCount base pp qq modulus order checks standing block partials powers challenges answers) signature (f_ST_join_signature motion motionCount base signing pp qq modulus order checks standing block partials powers challenges answers))])), (pw, .inl (G.2.2.2.1, 6, .inr (.inl powers))), (cg, .inl (G.2.2.1, 6, .inl challenges)), (an, .inl (G.2.2.2.1, 6, .inr (.inl answers))), (ou, .inl (G.2.2.2.1, 1, .inr (.inl (xt_el (g_ST_join motion motionCount base pp qq modulus order checks standing block partials powers challenges answers) outf (vp_updL outf (0 : Int32).toNatClampNeg (f_ST_join motion motionCount base signing pp qq modulus order checks standing block partials powers challenges answers))))))]) (va_A [(x, .inr (3, [.ref k, .ref bu, .ref ma, .ref se, .int motionCount, .int sealedCount, .int suspended])), (k, .inr (1, [.ref sh, .ref ch, .int dealt, .long epoch, .long base, .long whole, .long signing, .long pp, .long qq, .long modulus, .long order])), (ch, .inl (G.2.2.2.1, 6, .inr (.inl checks))), (ma, .inl (G.2.2.2.2, 12, .inr (.inr (.inr (.inr mot))))), (se, .inl (G.2.2.1, 12, .inl sealed)), (mo, .inr (2, [.ref pw, .ref cg, .ref an, .int standing, .long block, .int partials, .int objections, .long signature])), (pw, .inl (G.2.2.2.1, 6, .inr (.inl powers))), (cg, .inl (G.2.2.1, 6, .inl challenges)), (an, .inl (G.2.2.2.1, 6, .inr (.inl answers))), (ou, .inl (G.2.2.2.1, 1, .inr (.inl outf)))] H.size) := by
  refine xc_ofWH (by decide) ?_
  intro p e s m args below meth c s₁ B hml hE hv
  obtain ⟨rfl, rfl, hw⟩ := hv
  have hx := B.exec
  have hb := B.bytes
  have ht := B.returns
  have hl0 := B.notSynchronized
  have S : xc_Fix p m c b_LW_join 4 s "SealTrustLaw" := ⟨hx, hb, hml, findClass_of_methodNamed B.named⟩
  have hD := hD0.self (sz := s.heap.size)
  generalize hAe : va_A [(x, .inr (3, [.ref k, .ref bu, .ref ma, .ref se, .int motionCount, .int sealedCount, .int suspended])), (k, .inr (1, [.ref sh, .ref ch, .int dealt, .long epoch, .long base, .long whole, .long signing, .long pp, .long qq, .long modulus, .long order])), (ch, .inl (G.2.2.2.1, 6, .inr (.inl checks))), (ma, .inl (G.2.2.2.2, 12, .inr (.inr (.inr (.inr mot))))), (se, .inl (G.2.2.1, 12, .inl sealed)), (mo, .inr (2, [.ref pw, .ref cg, .ref an, .int standing, .long block, .int partials, .int objections, .long signature])), (pw, .inl (G.2.2.2.1, 6, .inr (.inl powers))), (cg, .inl (G.2.2.1, 6, .inl challenges)), (an, .inl (G.2.2.2.1, 6, .inr (.inl answers))), (ou, .inl (G.2.2.2.1, 1, .inr (.inl outf)))] s.heap.size = A at hD ⊢
  have hA : ∀ q : Nat, s.heap.size ≤ q → A q := fun q h => by rw [← hAe]; exact Or.inr h
  have hS : va_S A s.heap s.heap [] := va_S.rf
  have hl := lv_entry ([.ref x, .int motion, .ref ou]) (n := 4) (Nat.le_of_ble_eq_true rfl)
  rw [lg_entry_eq]
  generalize (lg_sl ([.ref x, .int motion, .ref ou]) ++ List.replicate (4 - (lg_sl ([.ref x, .int motion, .ref ou])).length) Slot.unset).toArray = ls at hl ⊢
  have hl : lv_has ls 4 [(0, .ref x), (1, .int motion), (2, .ref ou)] := hl
  obtain ⟨gg, hgg⟩ : ∃ r, g_ST_join motion motionCount base pp qq modulus order checks standing block partials powers challenges answers = r := ⟨_, rfl⟩
  rw [hgg]
  show W p l e ({ frames := 8, cells := 8, slots := 48, locals := 134 } : Room) s m _ below meth c s.heap [] 0 0 (xc_Z below _ _ _ s 8 48) _
  refine lv_aload_n hx hb d_LW_join_0 rfl (lv_at hl 2 rfl) ?_
  refine lv_iconst (v := (0 : Int32)) hx hb d_LW_join_1 (by decide) ?_
  refine lv_aload_n hx hb d_LW_join_2 rfl (lv_at hl 0 rfl) ?_
  refine lv_iload_n hx hb d_LW_join_3 rfl (lv_at hl 1 rfl) ?_
  refine xh_useW (wc := [(x, .inr (3, [.ref k, .ref bu, .ref ma, .ref se, .int motionCount, .int sealedCount, .int suspended])), (k, .inr (1, [.ref sh, .ref ch, .int dealt, .long epoch, .long base, .long whole, .long signing, .long pp, .long qq, .long modulus, .long order])), (ch, .inl (G.2.2.2.1, 6, .inr (.inl checks))), (ma, .inl (G.2.2.2.2, 12, .inr (.inr (.inr (.inr mot))))), (se, .inl (G.2.2.1, 12, .inl sealed)), (mo, .inr (2, [.ref pw, .ref cg, .ref an, .int standing, .long block, .int partials, .int objections, .long signature])), (pw, .inl (G.2.2.2.1, 6, .inr (.inl powers))), (cg, .inl (G.2.2.1, 6, .inl challenges)), (an, .inl (G.2.2.2.1, 6, .inr (.inl answers)))]) (wr := [(ou, .inl (G.2.2.2.1, 1, .inr (.inl outf)))]) (xg_runV (rest := [.int (0 : Int32), .ref ou]) (kw := 2) si_LW_46 hg hw S (va_recv (xg_k hg hw) hP (ci := 3) rfl (q0 := 0) rfl) (ct_ST_join l hg hl9 s.heap hO x motion k bu ma se motionCount sealedCount suspended sh ch dealt epoch base whole signing pp qq modulus order checks mot sealed mo pw cg an standing block partials objections signature powers challenges answers (hP.sub [0, 1, 2, 3, 4, 5, 6, 7, 8] rfl) ((hD.sub [0, 1, 2, 3, 4, 5, 6, 7, 8] (by decide) rfl).weaken (fun _ _ _ _ => trivial)) hC hM hC0) ⟨by decide, by decide, by decide, by decide⟩ rfl hl.1 rfl (Nat.le_of_ble_eq_true rfl) d_LW_join_4) hP hD hS hA [0, 1, 2, 3, 4, 5, 6, 7, 8] [9] rfl rfl (by decide) (by decide) (fun h0 H8 L8 hP hD hS => ?_) (fun E9 q9 ce H9 L9 h0 hP hS hce hcv hcl => ?_)
  · rw [hgg] at h0
    subst h0
    have hP : va_P G.2.1 cl_all [(ou, .inl (G.2.2.2.1, 1, .inr (.inl outf))), (x, .inr (3, [.ref k, .ref bu, .ref ma, .ref se, .int motionCount, .int (f_ST_join_sealedCount motion motionCount sealedCount base pp qq modulus order checks sealed standing block partials powers challenges answers), .int suspended])), (k, .inr (1, [.ref sh, .ref ch, .int dealt, .long epoch, .long base, .long whole, .long signing, .long pp, .long qq, .long modulus, .long order])), (ch, .inl (G.2.2.2.1, 6, .inr (.inl checks))), (ma, .inl (G.2.2.2.2, 12, .inr (.inr (.inr (.inr mot))))), (se, .inl (G.2.2.1, 12, .inl (f_ST_join_SE motion motionCount sealedCount base pp qq modulus order checks sealed standing block partials powers challenges answers))), (mo, .inr (2, [.ref pw, .ref cg, .ref an, .int (f_ST_join_standing motion motionCount base signing pp qq modulus order checks standing block partials powers challenges answers), .long block, .int partials, .int objections, .long (f_ST_join_signature motion motionCount base signing pp qq modulus order checks standing block partials powers challenges answers)])), (pw, .inl (G.2.2.2.1, 6, .inr (.inl powers))), (cg, .inl (G.2.2.1, 6, .inl challenges)), (an, .inl (G.2.2.2.1, 6, .inr (.inl answers)))] H8 := hP
    have hD : va_D A [(ou, .inl (G.2.2.2.1, 1, .inr (.inl outf))), (x, .inr (3, [.ref k, .ref bu, .ref ma, .ref se, .int motionCount, .int (f_ST_join_sealedCount motion motionCount sealedCount base pp qq modulus order checks sealed standing block partials powers challenges answers), .int suspended])), (k, .inr (1, [.ref sh, .ref ch, .int dealt, .long epoch, .long base, .long whole, .long signing, .long pp, .long qq, .long modulus, .long order])), (ch, .inl (G.2.2.2.1, 6, .inr (.inl checks))), (ma, .inl (G.2.2.2.2, 12, .inr (.inr (.inr (.inr mot))))), (se, .inl (G.2.2.1, 12, .inl (f_ST_join_SE motion motionCount sealedCount base pp qq modulus order checks sealed standing block partials powers challenges answers))), (mo, .inr (2, [.ref pw, .ref cg, .ref an, .int (f_ST_join_standing motion motionCount base signing pp qq modulus order checks standing block partials powers challenges answers), .long block, .int partials, .int objections, .long (f_ST_join_signature motion motionCount base signing pp qq modulus order checks standing block partials powers challenges answers)])), (pw, .inl (G.2.2.2.1, 6, .inr (.inl powers))), (cg, .inl (G.2.2.1, 6, .inl challenges)), (an, .inl (G.2.2.2.1, 6, .inr (.inl answers)))] := hD
    refine va_last hx hb (xg_k hg hw) hP hD hS 0 1 rfl rfl xh_01 d_LW_join_7 (fun H7 L7 hP hD hS => ?_)
    have hP : va_P G.2.1 cl_all [(ou, .inl (G.2.2.2.1, 1, .inr (.inl (vp_updL outf (0 : Int32).toNatClampNeg (f_ST_join motion motionCount base signing pp qq modulus order checks standing block partials powers challenges answers))))), (x, .inr (3, [.ref k, .ref bu, .ref ma, .ref se, .int motionCount, .int (f_ST_join_sealedCount motion motionCount sealedCount base pp qq modulus order checks sealed standing block partials powers challenges answers), .int suspended])), (k, .inr (1, [.ref sh, .ref ch, .int dealt, .long epoch, .long base, .long whole, .long signing, .long pp, .long qq, .long modulus, .long order])), (ch, .inl (G.2.2.2.1, 6, .inr (.inl checks))), (ma, .inl (G.2.2.2.2, 12, .inr (.inr (.inr (.inr mot))))), (se, .inl (G.2.2.1, 12, .inl (f_ST_join_SE motion motionCount sealedCount base pp qq modulus order checks sealed standing block partials powers challenges answers))), (mo, .inr (2, [.ref pw, .ref cg, .ref an, .int (f_ST_join_standing motion motionCount base signing pp qq modulus order checks standing block partials powers challenges answers), .long block, .int partials, .int objections, .long (f_ST_join_signature motion motionCount base signing pp qq modulus order checks standing block partials powers challenges answers)])), (pw, .inl (G.2.2.2.1, 6, .inr (.inl powers))), (cg, .inl (G.2.2.1, 6, .inl challenges)), (an, .inl (G.2.2.2.1, 6, .inr (.inl answers)))] H7 := hP
    have hD : va_D A [(ou, .inl (G.2.2.2.1, 1, .inr (.inl (vp_updL outf (0 : Int32).toNatClampNeg (f_ST_join motion motionCount base signing pp qq modulus order checks standing block partials powers challenges answers))))), (x, .inr (3, [.ref k, .ref bu, .ref ma, .ref se, .int motionCount, .int (f_ST_join_sealedCount motion motionCount sealedCount base pp qq modulus order checks sealed standing block partials powers challenges answers), .int suspended])), (k, .inr (1, [.ref sh, .ref ch, .int dealt, .long epoch, .long base, .long whole, .long signing, .long pp, .long qq, .long modulus, .long order])), (ch, .inl (G.2.2.2.1, 6, .inr (.inl checks))), (ma, .inl (G.2.2.2.2, 12, .inr (.inr (.inr (.inr mot))))), (se, .inl (G.2.2.1, 12, .inl (f_ST_join_SE motion motionCount sealedCount base pp qq modulus order checks sealed standing block partials powers challenges answers))), (mo, .inr (2, [.ref pw, .ref cg, .ref an, .int (f_ST_join_standing motion motionCount base signing pp qq modulus order checks standing block partials powers challenges answers), .long block, .int partials, .int objections, .long (f_ST_join_signature motion motionCount base signing pp qq modulus order checks standing block partials powers challenges answers)])), (pw, .inl (G.2.2.2.1, 6, .inr (.inl powers))), (cg, .inl (G.2.2.1, 6, .inl challenges)), (an, .inl (G.2.2.2.1, 6, .inr (.inl answers)))] := hD
    refine lv_goto hx hb d_LW_join_8 (tgt := 20) (by decide) ?_
    refine lv_iconst (v := (0 : Int32)) hx hb d_LW_join_20 (by decide) ?_
    have hP := hP.sub (ws' := [(x, .inr (3, [.ref k, .ref bu, .ref ma, .ref se, .int motionCount, .int (f_ST_join_sealedCount motion motionCount sealedCount base pp qq modulus order checks sealed standing block partials powers challenges answers), .int suspended])), (k, .inr (1, [.ref sh, .ref ch, .int dealt, .long epoch, .long base, .long whole, .long signing, .long pp, .long qq, .long modulus, .long order])), (ch, .inl (G.2.2.2.1, 6, .inr (.inl checks))), (ma, .inl (G.2.2.2.2, 12, .inr (.inr (.inr (.inr mot))))), (se, .inl (G.2.2.1, 12, .inl (f_ST_join_SE motion motionCount sealedCount base pp qq modulus order checks sealed standing block partials powers challenges answers))), (mo, .inr (2, [.ref pw, .ref cg, .ref an, .int (f_ST_join_standing motion motionCount base signing pp qq modulus order checks standing block partials powers challenges answers), .long block, .int partials, .int objections, .long (f_ST_join_signature motion motionCount base signing pp qq modulus order checks standing block partials powers challenges answers)])), (pw, .inl (G.2.2.2.1, 6, .inr (.inl powers))), (cg, .inl (G.2.2.1, 6, .inl challenges)), (an, .inl (G.2.2.2.1, 6, .inr (.inl answers))), (ou, .inl (G.2.2.2.1, 1, .inr (.inl (vp_updL outf (0 : Int32).toNatClampNeg (f_ST_join motion motionCount base signing pp qq modulus order checks standing block partials powers challenges answers)))))]) [1, 2, 3, 4, 5, 6, 7, 8, 9, 0] rfl
    have hD := hD.sub (ws' := [(x, .inr (3, [.ref k, .ref bu, .ref ma, .ref se, .int motionCount, .int (f_ST_join_sealedCount motion motionCount sealedCount base pp qq modulus order checks sealed standing block partials powers challenges answers), .int suspended])), (k, .inr (1, [.ref sh, .ref ch, .int dealt, .long epoch, .long base, .long whole, .long signing, .long pp, .long qq, .long modulus, .long order])), (ch, .inl (G.2.2.2.1, 6, .inr (.inl checks))), (ma, .inl (G.2.2.2.2, 12, .inr (.inr (.inr (.inr mot))))), (se, .inl (G.2.2.1, 12, .inl (f_ST_join_SE motion motionCount sealedCount base pp qq modulus order checks sealed standing block partials powers challenges answers))), (mo, .inr (2, [.ref pw, .ref cg, .ref an, .int (f_ST_join_standing motion motionCount base signing pp qq modulus order checks standing block partials powers challenges answers), .long block, .int partials, .int objections, .long (f_ST_join_signature motion motionCount base signing pp qq modulus order checks standing block partials powers challenges answers)])), (pw, .inl (G.2.2.2.1, 6, .inr (.inl powers))), (cg, .inl (G.2.2.1, 6, .inl challenges)), (an, .inl (G.2.2.2.1, 6, .inr (.inl answers))), (ou, .inl (G.2.2.2.1, 1, .inr (.inl (vp_updL outf (0 : Int32).toNatClampNeg (f_ST_join motion motionCount base signing pp qq modulus order checks standing block partials powers challenges answers)))))]) [1, 2, 3, 4, 5, 6, 7, 8, 9, 0] (by decide) rfl
    refine W.widen (k := 8) (n := 48) (Nat.le_of_ble_eq_true rfl) (Nat.le_of_ble_eq_true rfl) ?_
    exact xw_iret hx hb ht hl0 hP hD hS d_LW_join_21
  · have h1 := gv_ST_join h0
    rw [hgg] at h0
    subst h0
    rcases h1 with rfl | rfl | rfl
    · refine xh_1 hE ⟨by decide, by decide⟩ (by decide) hg hw S.2.2.2 xh_k4 xh_s4 hce hcv hcl ?_
      rw [show xh_c xt_NS xt_IS (some xt_NS) = 1 from xh_e1]
      refine lv_astore_n hx hb d_LW_join_11 rfl hl (by decide) rfl (fun ls hl => ?_)
      have hl : lv_has ls 4 [(3, .ref q9), (0, .ref x), (1, .int motion), (2, .ref ou)] := hl
      refine lv_iconst (v := (1 : Int32)) hx hb d_LW_join_12 (by decide) ?_
      refine W.widen (k := 8) (n := 48) (Nat.le_of_ble_eq_true rfl) (Nat.le_of_ble_eq_true rfl) ?_
      exact xw_iret hx hb ht hl0 hP hD hS d_LW_join_13
    · refine xh_2 (E1 := xt_NS) hE ⟨by decide, by decide⟩ (by decide) (by decide) hg hw S.2.2.2 xh_k4 (by decide +kernel) xh_k2 xh_s2 hce hcv hcl ?_
      rw [show xh_c xt_NS xt_IS (some xt_IS) = 2 from (xh_e2 (by decide))]
      refine lv_astore_n hx hb d_LW_join_14 rfl hl (by decide) rfl (fun ls hl => ?_)
      have hl : lv_has ls 4 [(3, .ref q9), (0, .ref x), (1, .int motion), (2, .ref ou)] := hl
      refine lv_iconst (v := (2 : Int32)) hx hb d_LW_join_15 (by decide) ?_
      refine W.widen (k := 8) (n := 48) (Nat.le_of_ble_eq_true rfl) (Nat.le_of_ble_eq_true rfl) ?_
      exact xw_iret hx hb ht hl0 hP hD hS d_LW_join_16
    · refine xh_3 (E1 := xt_NS) (E2 := xt_IS) hE ⟨by decide, by decide⟩ (by decide) (by decide) (by decide) hg hw S.2.2.2 xh_k4 (by decide +kernel) xh_k2 (by decide +kernel) xh_k3 xh_s3 hce hcv hcl ?_
      rw [show xh_c xt_NS xt_IS (some xt_AR) = 3 from (xh_e3 (by decide) (by decide))]
      refine lv_astore_n hx hb d_LW_join_17 rfl hl (by decide) rfl (fun ls hl => ?_)
      have hl : lv_has ls 4 [(3, .ref q9), (0, .ref x), (1, .int motion), (2, .ref ou)] := hl
      refine lv_iconst (v := (3 : Int32)) hx hb d_LW_join_18 (by decide) ?_
      refine W.widen (k := 8) (n := 48) (Nat.le_of_ble_eq_true rfl) (Nat.le_of_ble_eq_true rfl) ?_
      exact xw_iret hx hb ht hl0 hP hD hS d_LW_join_19
theorem gi_ST_verify {dealt : Int32} {size : Int32} : xt_in [xt_IS] (g_ST_verify dealt size) := by
  unfold g_ST_verify
  repeat' first | exact xt_in0 | exact xt_inS (by decide) | exact xt_inW (gi_ST_requireKey ..) (by decide) | exact xt_inW (gi_ST_motionAt ..) (by decide) | exact xt_inW (gi_ST_requireTrustee ..) (by decide) | exact xt_inW (gi_ST_requireOpen ..) (by decide) | exact xt_inW (gi_ST_requireNoVoice ..) (by decide) | exact xt_inW (gi_ST_requireDocument ..) (by decide) | exact xt_inW (gi_ST_deal ..) (by decide) | exact xt_inW (gi_ST_put ..) (by decide) | exact xt_inW (gi_ST_motion ..) (by decide) | exact xt_inW (gi_ST_consent ..) (by decide) | exact xt_inW (gi_ST_object ..) (by decide) | exact xt_inW (gi_ST_file ..) (by decide) | exact xt_inW (gi_ST_partial ..) (by decide) | exact xt_inW (gi_ST_bad ..) (by decide) | exact xt_inW (gi_ST_join ..) (by decide) | refine xt_inI ?_ ?_ | refine xt_inE ?_ ?_
theorem gv_ST_verify {E : String} {dealt : Int32} {size : Int32} (h : g_ST_verify dealt size = some E) : E = xt_IS := List.mem_singleton.mp (gi_ST_verify _ h)
set_option maxHeartbeats 4000000 in
set_option maxRecDepth 100000 in
theorem ct_LW_verify (l : Launch) {G : xg_G} (hg : xg_F G) (hl9 : l.stackTraces = false) (H : Heap) (hO : xg_O G H) (x : Nat) (sig_ : Int64) (k : Nat) (bu : Nat) (ma : Nat) (se : Nat) (motionCount : Int32) (sealedCount : Int32) (suspended : Int32) (sh : Nat) (ch : Nat) (dealt : Int32) (epoch : Int64) (base : Int64) (whole : Int64) (signing : Int64) (pp : Int64) (qq : Int64) (modulus : Int64) (order : Int64) (bys : Nat) (size : Int32) (bytes : Nat → Int32) (ou : Nat) (outf : Nat → Int64) (hP : va_P G.2.1 cl_all [(x, .inr (3, [.ref k, .ref bu, .ref ma, .ref se, .int motionCount, .int sealedCount, .int suspended])), (k, .inr (1, [.ref sh, .ref ch, .int dealt, .long epoch, .long base, .long whole, .long signing, .long pp, .long qq, .long modulus, .long order])), (bu, .inr (0, [.ref bys, .int size])), (bys, .inl (G.2.2.1, 24, .inl bytes)), (ou, .inl (G.2.2.2.1, 1, .inr (.inl outf)))] H) (hD0 : va_D (fun _ => True) [(x, .inr (3, [.ref k, .ref bu, .ref ma, .ref se, .int motionCount, .int sealedCount, .int suspended])), (k, .inr (1, [.ref sh, .ref ch, .int dealt, .long epoch, .long base, .long whole, .long signing, .long pp, .long qq, .long modulus, .long order])), (bu, .inr (0, [.ref bys, .int size])), (bys, .inl (G.2.2.1, 24, .inl bytes)), (ou, .inl (G.2.2.2.1, 1, .inr (.inl outf)))]) (hZ : size.toInt ≤ 24) : xc_Met l y_LW_verify (.codeWith y_LW_verify b_LW_verify 5 (some .int) [(0, 16, 19, 23)]) ({ frames := 9, cells := 8, slots := 48, locals := 122 } : Room) (xg_Pc G [.ref x, .long sig_, .ref ou] H) (xw_post G (va_A [(x, .inr (3, [.ref k, .ref bu, .ref ma, .ref se, .int motionCount, .int sealedCount, .int suspended])), (k, .inr (1, [.ref sh, .ref ch, .int dealt, .long epoch, .long base, .long whole, .long signing, .long pp, .long qq, .long modulus, .long order])), (bu, .inr (0, [.ref bys, .int size])), (bys, .inl (G.2.2.1, 24, .inl bytes)), (ou, .inl (G.2.2.2.1, 1, .inr (.inl outf)))] H.size) (some (.int (xh_c xt_IS xt_NS (g_ST_verify dealt size)))) [(x, .inr (3, [.ref k, .ref bu, .ref ma, .ref se, .int motionCount, .int sealedCount, .int suspended])), (k, .inr (1, [.ref sh, .ref ch, .int dealt, .long epoch, .long base, .long whole, .long signing, .long pp, .long qq, .long modulus, .long order])), (bu, .inr (0, [.ref bys, .int size])), (bys, .inl (G.2.2.1, 24, .inl bytes)), (ou, .inl (G.2.2.2.1, 1, .inr (.inl (xt_el (g_ST_verify dealt size) outf (vp_updL outf (0 : Int32).toNatClampNeg (if f_ST_verify sig_ dealt modulus size bytes = 0 then (0 : Int64) else (1 : Int64)))))))]) (va_A [(x, .inr (3, [.ref k, .ref bu, .ref ma, .ref se, .int motionCount, .int sealedCount, .int suspended])), (k, .inr (1, [.ref sh, .ref ch, .int dealt, .long epoch, .long base, .long whole, .long signing, .long pp, .long qq, .long modulus, .long order])), (bu, .inr (0, [.ref bys, .int size])), (bys, .inl (G.2.2.1, 24, .inl bytes)), (ou, .inl (G.2.2.2.1, 1, .inr (.inl outf)))] H.size) := by
  refine xc_ofWH (by decide) ?_
  intro p e s m args below meth c s₁ B hml hE hv
  obtain ⟨rfl, rfl, hw⟩ := hv
  have hx := B.exec
  have hb := B.bytes
  have ht := B.returns
  have hl0 := B.notSynchronized
  have S : xc_Fix p m c b_LW_verify 5 s "SealTrustLaw" := ⟨hx, hb, hml, findClass_of_methodNamed B.named⟩
  have hD := hD0.self (sz := s.heap.size)
  generalize hAe : va_A [(x, .inr (3, [.ref k, .ref bu, .ref ma, .ref se, .int motionCount, .int sealedCount, .int suspended])), (k, .inr (1, [.ref sh, .ref ch, .int dealt, .long epoch, .long base, .long whole, .long signing, .long pp, .long qq, .long modulus, .long order])), (bu, .inr (0, [.ref bys, .int size])), (bys, .inl (G.2.2.1, 24, .inl bytes)), (ou, .inl (G.2.2.2.1, 1, .inr (.inl outf)))] s.heap.size = A at hD ⊢
  have hA : ∀ q : Nat, s.heap.size ≤ q → A q := fun q h => by rw [← hAe]; exact Or.inr h
  have hS : va_S A s.heap s.heap [] := va_S.rf
  have hl := lv_entry ([.ref x, .long sig_, .ref ou]) (n := 5) (Nat.le_of_ble_eq_true rfl)
  rw [lg_entry_eq]
  generalize (lg_sl ([.ref x, .long sig_, .ref ou]) ++ List.replicate (5 - (lg_sl ([.ref x, .long sig_, .ref ou])).length) Slot.unset).toArray = ls at hl ⊢
  have hl : lv_has ls 5 [(0, .ref x), (1, .long sig_), (3, .ref ou)] := hl
  obtain ⟨ov, hov⟩ : ∃ r, (if f_ST_verify sig_ dealt modulus size bytes = 0 then (0 : Int64) else (1 : Int64)) = r := ⟨_, rfl⟩
  rw [hov]
  obtain ⟨gg, hgg⟩ : ∃ r, g_ST_verify dealt size = r := ⟨_, rfl⟩
  rw [hgg]
  show W p l e ({ frames := 9, cells := 8, slots := 48, locals := 122 } : Room) s m _ below meth c s.heap [] 0 0 (xc_Z below _ _ _ s 8 48) _
  refine lv_aload_n hx hb d_LW_verify_0 rfl (lv_at hl 2 rfl) ?_
  refine lv_iconst (v := (0 : Int32)) hx hb d_LW_verify_1 (by decide) ?_
  refine lv_aload_n hx hb d_LW_verify_2 rfl (lv_at hl 0 rfl) ?_
  refine lv_lload_n hx hb d_LW_verify_3 rfl (lv_at hl 1 rfl) ?_
  refine xh_useR (xg_runV (rest := [.int (0 : Int32), .ref ou]) (kw := 2) si_LW_52 hg hw S (va_recv (xg_k hg hw) hP (ci := 3) rfl (q0 := 0) rfl) (ct_ST_verify l hg hl9 s.heap hO x sig_ k bu ma se motionCount sealedCount suspended sh ch dealt epoch base whole signing pp qq modulus order bys size bytes (hP.sub [0, 1, 2, 3] rfl) hZ) ⟨by decide, by decide, by decide, by decide⟩ rfl hl.1 rfl (Nat.le_of_ble_eq_true rfl) d_LW_verify_4) hP hS (fun h0 => ?_) (fun E9 q9 ce H9 L9 h0 hP hS hce hcv hcl => ?_)
  · rw [hgg] at h0
    subst h0
    refine lv_if_eq hx hb d_LW_verify_7 (tgt := 14) (by decide) (fun h7 => ?_) (fun h7 => ?_)
    · rw [if_pos h7] at hov
      subst hov
      refine lv_lconst (v := (0 : Int64)) hx hb d_LW_verify_14 (by decide) ?_
      refine va_last hx hb (xg_k hg hw) hP hD hS 4 1 rfl rfl xh_01 d_LW_verify_15 (fun H7 L7 hP hD hS => ?_)
      have hP : va_P G.2.1 cl_all [(x, .inr (3, [.ref k, .ref bu, .ref ma, .ref se, .int motionCount, .int sealedCount, .int suspended])), (k, .inr (1, [.ref sh, .ref ch, .int dealt, .long epoch, .long base, .long whole, .long signing, .long pp, .long qq, .long modulus, .long order])), (bu, .inr (0, [.ref bys, .int size])), (bys, .inl (G.2.2.1, 24, .inl bytes)), (ou, .inl (G.2.2.2.1, 1, .inr (.inl (vp_updL outf (0 : Int32).toNatClampNeg (0 : Int64)))))] H7 := hP
      have hD : va_D A [(x, .inr (3, [.ref k, .ref bu, .ref ma, .ref se, .int motionCount, .int sealedCount, .int suspended])), (k, .inr (1, [.ref sh, .ref ch, .int dealt, .long epoch, .long base, .long whole, .long signing, .long pp, .long qq, .long modulus, .long order])), (bu, .inr (0, [.ref bys, .int size])), (bys, .inl (G.2.2.1, 24, .inl bytes)), (ou, .inl (G.2.2.2.1, 1, .inr (.inl (vp_updL outf (0 : Int32).toNatClampNeg (0 : Int64)))))] := hD
      refine lv_goto hx hb d_LW_verify_16 (tgt := 23) (by decide) ?_
      refine lv_iconst (v := (0 : Int32)) hx hb d_LW_verify_23 (by decide) ?_
      refine W.widen (k := 8) (n := 48) (Nat.le_of_ble_eq_true rfl) (Nat.le_of_ble_eq_true rfl) ?_
      exact xw_iret hx hb ht hl0 hP hD hS d_LW_verify_24
    · rw [if_neg h7] at hov
      subst hov
      refine lv_lconst (v := (1 : Int64)) hx hb d_LW_verify_10 (by decide) ?_
      refine lv_goto hx hb d_LW_verify_11 (tgt := 15) (by decide) ?_
      refine va_last hx hb (xg_k hg hw) hP hD hS 4 1 rfl rfl xh_01 d_LW_verify_15 (fun H7 L7 hP hD hS => ?_)
      have hP : va_P G.2.1 cl_all [(x, .inr (3, [.ref k, .ref bu, .ref ma, .ref se, .int motionCount, .int sealedCount, .int suspended])), (k, .inr (1, [.ref sh, .ref ch, .int dealt, .long epoch, .long base, .long whole, .long signing, .long pp, .long qq, .long modulus, .long order])), (bu, .inr (0, [.ref bys, .int size])), (bys, .inl (G.2.2.1, 24, .inl bytes)), (ou, .inl (G.2.2.2.1, 1, .inr (.inl (vp_updL outf (0 : Int32).toNatClampNeg (1 : Int64)))))] H7 := hP
      have hD : va_D A [(x, .inr (3, [.ref k, .ref bu, .ref ma, .ref se, .int motionCount, .int sealedCount, .int suspended])), (k, .inr (1, [.ref sh, .ref ch, .int dealt, .long epoch, .long base, .long whole, .long signing, .long pp, .long qq, .long modulus, .long order])), (bu, .inr (0, [.ref bys, .int size])), (bys, .inl (G.2.2.1, 24, .inl bytes)), (ou, .inl (G.2.2.2.1, 1, .inr (.inl (vp_updL outf (0 : Int32).toNatClampNeg (1 : Int64)))))] := hD
      refine lv_goto hx hb d_LW_verify_16 (tgt := 23) (by decide) ?_
      refine lv_iconst (v := (0 : Int32)) hx hb d_LW_verify_23 (by decide) ?_
      refine W.widen (k := 8) (n := 48) (Nat.le_of_ble_eq_true rfl) (Nat.le_of_ble_eq_true rfl) ?_
      exact xw_iret hx hb ht hl0 hP hD hS d_LW_verify_24
  · have h1 := gv_ST_verify h0
    rw [hgg] at h0
    subst h0
    subst h1
    refine xh_1 hE ⟨by decide, by decide⟩ (by decide) hg hw S.2.2.2 xh_k2 xh_s2 hce hcv hcl ?_
    rw [show xh_c xt_IS xt_NS (some xt_IS) = 1 from xh_e1]
    refine lv_astore hx hb d_LW_verify_19 hl (by decide) rfl (fun ls hl => ?_)
    have hl : lv_has ls 5 [(4, .ref q9), (0, .ref x), (1, .long sig_), (3, .ref ou)] := hl
    refine lv_iconst (v := (1 : Int32)) hx hb d_LW_verify_21 (by decide) ?_
    refine W.widen (k := 8) (n := 48) (Nat.le_of_ble_eq_true rfl) (Nat.le_of_ble_eq_true rfl) ?_
    exact xw_iret hx hb ht hl0 hP hD hS d_LW_verify_22
theorem gi_ST_suspend {trustee : Int32} {on_ : Int32} {suspended : Int32} {dealt : Int32} : xt_in [xt_NS, xt_IS] (g_ST_suspend trustee on_ suspended dealt) := by
  unfold g_ST_suspend
  repeat' first | exact xt_in0 | exact xt_inS (by decide) | exact xt_inW (gi_ST_requireKey ..) (by decide) | exact xt_inW (gi_ST_motionAt ..) (by decide) | exact xt_inW (gi_ST_requireTrustee ..) (by decide) | exact xt_inW (gi_ST_requireOpen ..) (by decide) | exact xt_inW (gi_ST_requireNoVoice ..) (by decide) | exact xt_inW (gi_ST_requireDocument ..) (by decide) | exact xt_inW (gi_ST_deal ..) (by decide) | exact xt_inW (gi_ST_put ..) (by decide) | exact xt_inW (gi_ST_motion ..) (by decide) | exact xt_inW (gi_ST_consent ..) (by decide) | exact xt_inW (gi_ST_object ..) (by decide) | exact xt_inW (gi_ST_file ..) (by decide) | exact xt_inW (gi_ST_partial ..) (by decide) | exact xt_inW (gi_ST_bad ..) (by decide) | exact xt_inW (gi_ST_join ..) (by decide) | exact xt_inW (gi_ST_verify ..) (by decide) | refine xt_inI ?_ ?_ | refine xt_inE ?_ ?_
theorem gv_ST_suspend {E : String} {trustee : Int32} {on_ : Int32} {suspended : Int32} {dealt : Int32} (h : g_ST_suspend trustee on_ suspended dealt = some E) : E = xt_NS ∨ E = xt_IS := by
  have h1 := gi_ST_suspend _ h
  simpa using h1
set_option maxHeartbeats 4000000 in
set_option maxRecDepth 100000 in
theorem ct_LW_suspend (l : Launch) {G : xg_G} (hg : xg_F G) (hl9 : l.stackTraces = false) (H : Heap) (hO : xg_O G H) (x : Nat) (trustee : Int32) (on_ : Int32) (k : Nat) (bu : Nat) (ma : Nat) (se : Nat) (motionCount : Int32) (sealedCount : Int32) (suspended : Int32) (sh : Nat) (ch : Nat) (dealt : Int32) (epoch : Int64) (base : Int64) (whole : Int64) (signing : Int64) (pp : Int64) (qq : Int64) (modulus : Int64) (order : Int64) (ou : Nat) (outf : Nat → Int64) (hP : va_P G.2.1 cl_all [(x, .inr (3, [.ref k, .ref bu, .ref ma, .ref se, .int motionCount, .int sealedCount, .int suspended])), (k, .inr (1, [.ref sh, .ref ch, .int dealt, .long epoch, .long base, .long whole, .long signing, .long pp, .long qq, .long modulus, .long order])), (ou, .inl (G.2.2.2.1, 1, .inr (.inl outf)))] H) (hD0 : va_D (fun _ => True) [(x, .inr (3, [.ref k, .ref bu, .ref ma, .ref se, .int motionCount, .int sealedCount, .int suspended])), (k, .inr (1, [.ref sh, .ref ch, .int dealt, .long epoch, .long base, .long whole, .long signing, .long pp, .long qq, .long modulus, .long order])), (ou, .inl (G.2.2.2.1, 1, .inr (.inl outf)))])  : xc_Met l y_LW_suspend (.codeWith y_LW_suspend b_LW_suspend 5 (some .int) [(0, 17, 20, 29), (0, 17, 24, 23)]) ({ frames := 8, cells := 8, slots := 48, locals := 110 } : Room) (xg_Pc G [.ref x, .int trustee, .int on_, .ref ou] H) (xw_post G (va_A [(x, .inr (3, [.ref k, .ref bu, .ref ma, .ref se, .int motionCount, .int sealedCount, .int suspended])), (k, .inr (1, [.ref sh, .ref ch, .int dealt, .long epoch, .long base, .long whole, .long signing, .long pp, .long qq, .long modulus, .long order])), (ou, .inl (G.2.2.2.1, 1, .inr (.inl outf)))] H.size) (some (.int (xh_c xt_NS xt_IS (g_ST_suspend trustee on_ suspended dealt)))) [(x, .inr (3, [.ref k, .ref bu, .ref ma, .ref se, .int motionCount, .int sealedCount, .int (xt_el (g_ST_suspend trustee on_ suspended dealt) suspended (f_ST_suspend_suspended trustee on_ suspended dealt))])), (k, .inr (1, [.ref sh, .ref ch, .int dealt, .long epoch, .long base, .long whole, .long signing, .long pp, .long qq, .long modulus, .long order])), (ou, .inl (G.2.2.2.1, 1, .inr (.inl (xt_el (g_ST_suspend trustee on_ suspended dealt) outf (vp_updL outf (0 : Int32).toNatClampNeg (if f_ST_suspend trustee on_ suspended dealt = 0 then (0 : Int64) else (1 : Int64)))))))]) (va_A [(x, .inr (3, [.ref k, .ref bu, .ref ma, .ref se, .int motionCount, .int sealedCount, .int suspended])), (k, .inr (1, [.ref sh, .ref ch, .int dealt, .long epoch, .long base, .long whole, .long signing, .long pp, .long qq, .long modulus, .long order])), (ou, .inl (G.2.2.2.1, 1, .inr (.inl outf)))] H.size) := by
  refine xc_ofWH (by decide) ?_
  intro p e s m args below meth c s₁ B hml hE hv
  obtain ⟨rfl, rfl, hw⟩ := hv
  have hx := B.exec
  have hb := B.bytes
  have ht := B.returns
  have hl0 := B.notSynchronized
  have S : xc_Fix p m c b_LW_suspend 5 s "SealTrustLaw" := ⟨hx, hb, hml, findClass_of_methodNamed B.named⟩
  have hD := hD0.self (sz := s.heap.size)
  generalize hAe : va_A [(x, .inr (3, [.ref k, .ref bu, .ref ma, .ref se, .int motionCount, .int sealedCount, .int suspended])), (k, .inr (1, [.ref sh, .ref ch, .int dealt, .long epoch, .long base, .long whole, .long signing, .long pp, .long qq, .long modulus, .long order])), (ou, .inl (G.2.2.2.1, 1, .inr (.inl outf)))] s.heap.size = A at hD ⊢
  have hA : ∀ q : Nat, s.heap.size ≤ q → A q := fun q h => by rw [← hAe]; exact Or.inr h
  have hS : va_S A s.heap s.heap [] := va_S.rf
  have hl := lv_entry ([.ref x, .int trustee, .int on_, .ref ou]) (n := 5) (Nat.le_of_ble_eq_true rfl)
  rw [lg_entry_eq]
  generalize (lg_sl ([.ref x, .int trustee, .int on_, .ref ou]) ++ List.replicate (5 - (lg_sl ([.ref x, .int trustee, .int on_, .ref ou])).length) Slot.unset).toArray = ls at hl ⊢
  have hl : lv_has ls 5 [(0, .ref x), (1, .int trustee), (2, .int on_), (3, .ref ou)] := hl
  obtain ⟨ov, hov⟩ : ∃ r, (if f_ST_suspend trustee on_ suspended dealt = 0 then (0 : Int64) else (1 : Int64)) = r := ⟨_, rfl⟩
  rw [hov]
  obtain ⟨gg, hgg⟩ : ∃ r, g_ST_suspend trustee on_ suspended dealt = r := ⟨_, rfl⟩
  rw [hgg]
  show W p l e ({ frames := 8, cells := 8, slots := 48, locals := 110 } : Room) s m _ below meth c s.heap [] 0 0 (xc_Z below _ _ _ s 8 48) _
  refine lv_aload_n hx hb d_LW_suspend_0 rfl (lv_at hl 3 rfl) ?_
  refine lv_iconst (v := (0 : Int32)) hx hb d_LW_suspend_1 (by decide) ?_
  refine lv_aload_n hx hb d_LW_suspend_2 rfl (lv_at hl 0 rfl) ?_
  refine lv_iload_n hx hb d_LW_suspend_3 rfl (lv_at hl 1 rfl) ?_
  refine lv_iload_n hx hb d_LW_suspend_4 rfl (lv_at hl 2 rfl) ?_
  refine xh_useW (wc := [(x, .inr (3, [.ref k, .ref bu, .ref ma, .ref se, .int motionCount, .int sealedCount, .int suspended])), (k, .inr (1, [.ref sh, .ref ch, .int dealt, .long epoch, .long base, .long whole, .long signing, .long pp, .long qq, .long modulus, .long order]))]) (wr := [(ou, .inl (G.2.2.2.1, 1, .inr (.inl outf)))]) (xg_runV (rest := [.int (0 : Int32), .ref ou]) (kw := 2) si_LW_59 hg hw S (va_recv (xg_k hg hw) hP (ci := 3) rfl (q0 := 0) rfl) (ct_ST_suspend l hg hl9 s.heap hO x trustee on_ k bu ma se motionCount sealedCount suspended sh ch dealt epoch base whole signing pp qq modulus order (hP.sub [0, 1] rfl) ((hD.sub [0, 1] (by decide) rfl).weaken (fun _ _ _ _ => trivial)) ) ⟨by decide, by decide, by decide, by decide⟩ rfl hl.1 rfl (Nat.le_of_ble_eq_true rfl) d_LW_suspend_5) hP hD hS hA [0, 1] [2] rfl rfl (by decide) (by decide) (fun h0 H8 L8 hP hD hS => ?_) (fun E9 q9 ce H9 L9 h0 hP hS hce hcv hcl => ?_)
  · rw [hgg] at h0
    subst h0
    have hP : va_P G.2.1 cl_all [(ou, .inl (G.2.2.2.1, 1, .inr (.inl outf))), (x, .inr (3, [.ref k, .ref bu, .ref ma, .ref se, .int motionCount, .int sealedCount, .int (f_ST_suspend_suspended trustee on_ suspended dealt)])), (k, .inr (1, [.ref sh, .ref ch, .int dealt, .long epoch, .long base, .long whole, .long signing, .long pp, .long qq, .long modulus, .long order]))] H8 := hP
    have hD : va_D A [(ou, .inl (G.2.2.2.1, 1, .inr (.inl outf))), (x, .inr (3, [.ref k, .ref bu, .ref ma, .ref se, .int motionCount, .int sealedCount, .int (f_ST_suspend_suspended trustee on_ suspended dealt)])), (k, .inr (1, [.ref sh, .ref ch, .int dealt, .long epoch, .long base, .long whole, .long signing, .long pp, .long qq, .long modulus, .long order]))] := hD
    refine lv_if_eq hx hb d_LW_suspend_8 (tgt := 15) (by decide) (fun h8 => ?_) (fun h8 => ?_)
    · rw [if_pos h8] at hov
      subst hov
      refine lv_lconst (v := (0 : Int64)) hx hb d_LW_suspend_15 (by decide) ?_
      refine va_last hx hb (xg_k hg hw) hP hD hS 0 1 rfl rfl xh_01 d_LW_suspend_16 (fun H7 L7 hP hD hS => ?_)
      have hP : va_P G.2.1 cl_all [(ou, .inl (G.2.2.2.1, 1, .inr (.inl (vp_updL outf (0 : Int32).toNatClampNeg (0 : Int64))))), (x, .inr (3, [.ref k, .ref bu, .ref ma, .ref se, .int motionCount, .int sealedCount, .int (f_ST_suspend_suspended trustee on_ suspended dealt)])), (k, .inr (1, [.ref sh, .ref ch, .int dealt, .long epoch, .long base, .long whole, .long signing, .long pp, .long qq, .long modulus, .long order]))] H7 := hP
      have hD : va_D A [(ou, .inl (G.2.2.2.1, 1, .inr (.inl (vp_updL outf (0 : Int32).toNatClampNeg (0 : Int64))))), (x, .inr (3, [.ref k, .ref bu, .ref ma, .ref se, .int motionCount, .int sealedCount, .int (f_ST_suspend_suspended trustee on_ suspended dealt)])), (k, .inr (1, [.ref sh, .ref ch, .int dealt, .long epoch, .long base, .long whole, .long signing, .long pp, .long qq, .long modulus, .long order]))] := hD
      refine lv_goto hx hb d_LW_suspend_17 (tgt := 28) (by decide) ?_
      refine lv_iconst (v := (0 : Int32)) hx hb d_LW_suspend_28 (by decide) ?_
      have hP := hP.sub (ws' := [(x, .inr (3, [.ref k, .ref bu, .ref ma, .ref se, .int motionCount, .int sealedCount, .int (f_ST_suspend_suspended trustee on_ suspended dealt)])), (k, .inr (1, [.ref sh, .ref ch, .int dealt, .long epoch, .long base, .long whole, .long signing, .long pp, .long qq, .long modulus, .long order])), (ou, .inl (G.2.2.2.1, 1, .inr (.inl (vp_updL outf (0 : Int32).toNatClampNeg (0 : Int64)))))]) [1, 2, 0] rfl
      have hD := hD.sub (ws' := [(x, .inr (3, [.ref k, .ref bu, .ref ma, .ref se, .int motionCount, .int sealedCount, .int (f_ST_suspend_suspended trustee on_ suspended dealt)])), (k, .inr (1, [.ref sh, .ref ch, .int dealt, .long epoch, .long base, .long whole, .long signing, .long pp, .long qq, .long modulus, .long order])), (ou, .inl (G.2.2.2.1, 1, .inr (.inl (vp_updL outf (0 : Int32).toNatClampNeg (0 : Int64)))))]) [1, 2, 0] (by decide) rfl
      refine W.widen (k := 8) (n := 48) (Nat.le_of_ble_eq_true rfl) (Nat.le_of_ble_eq_true rfl) ?_
      exact xw_iret hx hb ht hl0 hP hD hS d_LW_suspend_29
    · rw [if_neg h8] at hov
      subst hov
      refine lv_lconst (v := (1 : Int64)) hx hb d_LW_suspend_11 (by decide) ?_
      refine lv_goto hx hb d_LW_suspend_12 (tgt := 16) (by decide) ?_
      refine va_last hx hb (xg_k hg hw) hP hD hS 0 1 rfl rfl xh_01 d_LW_suspend_16 (fun H7 L7 hP hD hS => ?_)
      have hP : va_P G.2.1 cl_all [(ou, .inl (G.2.2.2.1, 1, .inr (.inl (vp_updL outf (0 : Int32).toNatClampNeg (1 : Int64))))), (x, .inr (3, [.ref k, .ref bu, .ref ma, .ref se, .int motionCount, .int sealedCount, .int (f_ST_suspend_suspended trustee on_ suspended dealt)])), (k, .inr (1, [.ref sh, .ref ch, .int dealt, .long epoch, .long base, .long whole, .long signing, .long pp, .long qq, .long modulus, .long order]))] H7 := hP
      have hD : va_D A [(ou, .inl (G.2.2.2.1, 1, .inr (.inl (vp_updL outf (0 : Int32).toNatClampNeg (1 : Int64))))), (x, .inr (3, [.ref k, .ref bu, .ref ma, .ref se, .int motionCount, .int sealedCount, .int (f_ST_suspend_suspended trustee on_ suspended dealt)])), (k, .inr (1, [.ref sh, .ref ch, .int dealt, .long epoch, .long base, .long whole, .long signing, .long pp, .long qq, .long modulus, .long order]))] := hD
      refine lv_goto hx hb d_LW_suspend_17 (tgt := 28) (by decide) ?_
      refine lv_iconst (v := (0 : Int32)) hx hb d_LW_suspend_28 (by decide) ?_
      have hP := hP.sub (ws' := [(x, .inr (3, [.ref k, .ref bu, .ref ma, .ref se, .int motionCount, .int sealedCount, .int (f_ST_suspend_suspended trustee on_ suspended dealt)])), (k, .inr (1, [.ref sh, .ref ch, .int dealt, .long epoch, .long base, .long whole, .long signing, .long pp, .long qq, .long modulus, .long order])), (ou, .inl (G.2.2.2.1, 1, .inr (.inl (vp_updL outf (0 : Int32).toNatClampNeg (1 : Int64)))))]) [1, 2, 0] rfl
      have hD := hD.sub (ws' := [(x, .inr (3, [.ref k, .ref bu, .ref ma, .ref se, .int motionCount, .int sealedCount, .int (f_ST_suspend_suspended trustee on_ suspended dealt)])), (k, .inr (1, [.ref sh, .ref ch, .int dealt, .long epoch, .long base, .long whole, .long signing, .long pp, .long qq, .long modulus, .long order])), (ou, .inl (G.2.2.2.1, 1, .inr (.inl (vp_updL outf (0 : Int32).toNatClampNeg (1 : Int64)))))]) [1, 2, 0] (by decide) rfl
      refine W.widen (k := 8) (n := 48) (Nat.le_of_ble_eq_true rfl) (Nat.le_of_ble_eq_true rfl) ?_
      exact xw_iret hx hb ht hl0 hP hD hS d_LW_suspend_29
  · have h1 := gv_ST_suspend h0
    rw [hgg] at h0
    subst h0
    rcases h1 with rfl | rfl
    · refine xh_1 hE ⟨by decide, by decide⟩ (by decide) hg hw S.2.2.2 xh_k4 xh_s4 hce hcv hcl ?_
      rw [show xh_c xt_NS xt_IS (some xt_NS) = 1 from xh_e1]
      refine lv_astore hx hb d_LW_suspend_20 hl (by decide) rfl (fun ls hl => ?_)
      have hl : lv_has ls 5 [(4, .ref q9), (0, .ref x), (1, .int trustee), (2, .int on_), (3, .ref ou)] := hl
      refine lv_iconst (v := (1 : Int32)) hx hb d_LW_suspend_22 (by decide) ?_
      refine W.widen (k := 8) (n := 48) (Nat.le_of_ble_eq_true rfl) (Nat.le_of_ble_eq_true rfl) ?_
      exact xw_iret hx hb ht hl0 hP hD hS d_LW_suspend_23
    · refine xh_2 (E1 := xt_NS) hE ⟨by decide, by decide⟩ (by decide) (by decide) hg hw S.2.2.2 xh_k4 (by decide +kernel) xh_k2 xh_s2 hce hcv hcl ?_
      rw [show xh_c xt_NS xt_IS (some xt_IS) = 2 from (xh_e2 (by decide))]
      refine lv_astore hx hb d_LW_suspend_24 hl (by decide) rfl (fun ls hl => ?_)
      have hl : lv_has ls 5 [(4, .ref q9), (0, .ref x), (1, .int trustee), (2, .int on_), (3, .ref ou)] := hl
      refine lv_iconst (v := (2 : Int32)) hx hb d_LW_suspend_26 (by decide) ?_
      refine W.widen (k := 8) (n := 48) (Nat.le_of_ble_eq_true rfl) (Nat.le_of_ble_eq_true rfl) ?_
      exact xw_iret hx hb ht hl0 hP hD hS d_LW_suspend_27
theorem gi_ST_parts {mask : Int32} {dealt : Int32} : xt_in [xt_IA, xt_IS] (g_ST_parts mask dealt) := by
  unfold g_ST_parts
  repeat' first | exact xt_in0 | exact xt_inS (by decide) | exact xt_inW (gi_ST_requireKey ..) (by decide) | exact xt_inW (gi_ST_motionAt ..) (by decide) | exact xt_inW (gi_ST_requireTrustee ..) (by decide) | exact xt_inW (gi_ST_requireOpen ..) (by decide) | exact xt_inW (gi_ST_requireNoVoice ..) (by decide) | exact xt_inW (gi_ST_requireDocument ..) (by decide) | exact xt_inW (gi_ST_deal ..) (by decide) | exact xt_inW (gi_ST_put ..) (by decide) | exact xt_inW (gi_ST_motion ..) (by decide) | exact xt_inW (gi_ST_consent ..) (by decide) | exact xt_inW (gi_ST_object ..) (by decide) | exact xt_inW (gi_ST_file ..) (by decide) | exact xt_inW (gi_ST_partial ..) (by decide) | exact xt_inW (gi_ST_bad ..) (by decide) | exact xt_inW (gi_ST_join ..) (by decide) | exact xt_inW (gi_ST_verify ..) (by decide) | exact xt_inW (gi_ST_suspend ..) (by decide) | refine xt_inI ?_ ?_ | refine xt_inE ?_ ?_
theorem gv_ST_parts {E : String} {mask : Int32} {dealt : Int32} (h : g_ST_parts mask dealt = some E) : E = xt_IA ∨ E = xt_IS := by
  have h1 := gi_ST_parts _ h
  simpa using h1
set_option maxHeartbeats 4000000 in
set_option maxRecDepth 100000 in
theorem ct_LW_parts (l : Launch) {G : xg_G} (hg : xg_F G) (hl9 : l.stackTraces = false) (H : Heap) (hO : xg_O G H) (x : Nat) (mask : Int32) (k : Nat) (bu : Nat) (ma : Nat) (se : Nat) (motionCount : Int32) (sealedCount : Int32) (suspended : Int32) (sh : Nat) (ch : Nat) (dealt : Int32) (epoch : Int64) (base : Int64) (whole : Int64) (signing : Int64) (pp : Int64) (qq : Int64) (modulus : Int64) (order : Int64) (shares : Nat → Int64) (ou : Nat) (outf : Nat → Int64) (hP : va_P G.2.1 cl_all [(x, .inr (3, [.ref k, .ref bu, .ref ma, .ref se, .int motionCount, .int sealedCount, .int suspended])), (k, .inr (1, [.ref sh, .ref ch, .int dealt, .long epoch, .long base, .long whole, .long signing, .long pp, .long qq, .long modulus, .long order])), (sh, .inl (G.2.2.2.1, 6, .inr (.inl shares))), (ou, .inl (G.2.2.2.1, 1, .inr (.inl outf)))] H) (hD0 : va_D (fun _ => True) [(x, .inr (3, [.ref k, .ref bu, .ref ma, .ref se, .int motionCount, .int sealedCount, .int suspended])), (k, .inr (1, [.ref sh, .ref ch, .int dealt, .long epoch, .long base, .long whole, .long signing, .long pp, .long qq, .long modulus, .long order])), (sh, .inl (G.2.2.2.1, 6, .inr (.inl shares))), (ou, .inl (G.2.2.2.1, 1, .inr (.inl outf)))])  : xc_Met l y_LW_parts (.codeWith y_LW_parts b_LW_parts 4 (some .int) [(0, 16, 19, 13), (0, 16, 22, 23)]) ({ frames := 8, cells := 8, slots := 48, locals := 109 } : Room) (xg_Pc G [.ref x, .int mask, .ref ou] H) (xw_post G (va_A [(x, .inr (3, [.ref k, .ref bu, .ref ma, .ref se, .int motionCount, .int sealedCount, .int suspended])), (k, .inr (1, [.ref sh, .ref ch, .int dealt, .long epoch, .long base, .long whole, .long signing, .long pp, .long qq, .long modulus, .long order])), (sh, .inl (G.2.2.2.1, 6, .inr (.inl shares))), (ou, .inl (G.2.2.2.1, 1, .inr (.inl outf)))] H.size) (some (.int (xh_c xt_IA xt_IS (g_ST_parts mask dealt)))) [(x, .inr (3, [.ref k, .ref bu, .ref ma, .ref se, .int motionCount, .int sealedCount, .int suspended])), (k, .inr (1, [.ref sh, .ref ch, .int dealt, .long epoch, .long base, .long whole, .long signing, .long pp, .long qq, .long modulus, .long order])), (sh, .inl (G.2.2.2.1, 6, .inr (.inl shares))), (ou, .inl (G.2.2.2.1, 1, .inr (.inl (xt_el (g_ST_parts mask dealt) outf (vp_updL outf (0 : Int32).toNatClampNeg (if f_ST_parts mask dealt whole order shares = 0 then (0 : Int64) else (1 : Int64)))))))]) (va_A [(x, .inr (3, [.ref k, .ref bu, .ref ma, .ref se, .int motionCount, .int sealedCount, .int suspended])), (k, .inr (1, [.ref sh, .ref ch, .int dealt, .long epoch, .long base, .long whole, .long signing, .long pp, .long qq, .long modulus, .long order])), (sh, .inl (G.2.2.2.1, 6, .inr (.inl shares))), (ou, .inl (G.2.2.2.1, 1, .inr (.inl outf)))] H.size) := by
  refine xc_ofWH (by decide) ?_
  intro p e s m args below meth c s₁ B hml hE hv
  obtain ⟨rfl, rfl, hw⟩ := hv
  have hx := B.exec
  have hb := B.bytes
  have ht := B.returns
  have hl0 := B.notSynchronized
  have S : xc_Fix p m c b_LW_parts 4 s "SealTrustLaw" := ⟨hx, hb, hml, findClass_of_methodNamed B.named⟩
  have hD := hD0.self (sz := s.heap.size)
  generalize hAe : va_A [(x, .inr (3, [.ref k, .ref bu, .ref ma, .ref se, .int motionCount, .int sealedCount, .int suspended])), (k, .inr (1, [.ref sh, .ref ch, .int dealt, .long epoch, .long base, .long whole, .long signing, .long pp, .long qq, .long modulus, .long order])), (sh, .inl (G.2.2.2.1, 6, .inr (.inl shares))), (ou, .inl (G.2.2.2.1, 1, .inr (.inl outf)))] s.heap.size = A at hD ⊢
  have hA : ∀ q : Nat, s.heap.size ≤ q → A q := fun q h => by rw [← hAe]; exact Or.inr h
  have hS : va_S A s.heap s.heap [] := va_S.rf
  have hl := lv_entry ([.ref x, .int mask, .ref ou]) (n := 4) (Nat.le_of_ble_eq_true rfl)
  rw [lg_entry_eq]
  generalize (lg_sl ([.ref x, .int mask, .ref ou]) ++ List.replicate (4 - (lg_sl ([.ref x, .int mask, .ref ou])).length) Slot.unset).toArray = ls at hl ⊢
  have hl : lv_has ls 4 [(0, .ref x), (1, .int mask), (2, .ref ou)] := hl
  obtain ⟨ov, hov⟩ : ∃ r, (if f_ST_parts mask dealt whole order shares = 0 then (0 : Int64) else (1 : Int64)) = r := ⟨_, rfl⟩
  rw [hov]
  obtain ⟨gg, hgg⟩ : ∃ r, g_ST_parts mask dealt = r := ⟨_, rfl⟩
  rw [hgg]
  show W p l e ({ frames := 8, cells := 8, slots := 48, locals := 109 } : Room) s m _ below meth c s.heap [] 0 0 (xc_Z below _ _ _ s 8 48) _
  refine lv_aload_n hx hb d_LW_parts_0 rfl (lv_at hl 2 rfl) ?_
  refine lv_iconst (v := (0 : Int32)) hx hb d_LW_parts_1 (by decide) ?_
  refine lv_aload_n hx hb d_LW_parts_2 rfl (lv_at hl 0 rfl) ?_
  refine lv_iload_n hx hb d_LW_parts_3 rfl (lv_at hl 1 rfl) ?_
  refine xh_useR (xg_runV (rest := [.int (0 : Int32), .ref ou]) (kw := 2) si_LW_63 hg hw S (va_recv (xg_k hg hw) hP (ci := 3) rfl (q0 := 0) rfl) (ct_ST_parts l hg hl9 s.heap hO x mask k bu ma se motionCount sealedCount suspended sh ch dealt epoch base whole signing pp qq modulus order shares (hP.sub [0, 1, 2] rfl) ) ⟨by decide, by decide, by decide, by decide⟩ rfl hl.1 rfl (Nat.le_of_ble_eq_true rfl) d_LW_parts_4) hP hS (fun h0 => ?_) (fun E9 q9 ce H9 L9 h0 hP hS hce hcv hcl => ?_)
  · rw [hgg] at h0
    subst h0
    refine lv_if_eq hx hb d_LW_parts_7 (tgt := 14) (by decide) (fun h7 => ?_) (fun h7 => ?_)
    · rw [if_pos h7] at hov
      subst hov
      refine lv_lconst (v := (0 : Int64)) hx hb d_LW_parts_14 (by decide) ?_
      refine va_last hx hb (xg_k hg hw) hP hD hS 3 1 rfl rfl xh_01 d_LW_parts_15 (fun H7 L7 hP hD hS => ?_)
      have hP : va_P G.2.1 cl_all [(x, .inr (3, [.ref k, .ref bu, .ref ma, .ref se, .int motionCount, .int sealedCount, .int suspended])), (k, .inr (1, [.ref sh, .ref ch, .int dealt, .long epoch, .long base, .long whole, .long signing, .long pp, .long qq, .long modulus, .long order])), (sh, .inl (G.2.2.2.1, 6, .inr (.inl shares))), (ou, .inl (G.2.2.2.1, 1, .inr (.inl (vp_updL outf (0 : Int32).toNatClampNeg (0 : Int64)))))] H7 := hP
      have hD : va_D A [(x, .inr (3, [.ref k, .ref bu, .ref ma, .ref se, .int motionCount, .int sealedCount, .int suspended])), (k, .inr (1, [.ref sh, .ref ch, .int dealt, .long epoch, .long base, .long whole, .long signing, .long pp, .long qq, .long modulus, .long order])), (sh, .inl (G.2.2.2.1, 6, .inr (.inl shares))), (ou, .inl (G.2.2.2.1, 1, .inr (.inl (vp_updL outf (0 : Int32).toNatClampNeg (0 : Int64)))))] := hD
      refine lv_goto hx hb d_LW_parts_16 (tgt := 25) (by decide) ?_
      refine lv_iconst (v := (0 : Int32)) hx hb d_LW_parts_25 (by decide) ?_
      refine W.widen (k := 8) (n := 48) (Nat.le_of_ble_eq_true rfl) (Nat.le_of_ble_eq_true rfl) ?_
      exact xw_iret hx hb ht hl0 hP hD hS d_LW_parts_26
    · rw [if_neg h7] at hov
      subst hov
      refine lv_lconst (v := (1 : Int64)) hx hb d_LW_parts_10 (by decide) ?_
      refine lv_goto hx hb d_LW_parts_11 (tgt := 15) (by decide) ?_
      refine va_last hx hb (xg_k hg hw) hP hD hS 3 1 rfl rfl xh_01 d_LW_parts_15 (fun H7 L7 hP hD hS => ?_)
      have hP : va_P G.2.1 cl_all [(x, .inr (3, [.ref k, .ref bu, .ref ma, .ref se, .int motionCount, .int sealedCount, .int suspended])), (k, .inr (1, [.ref sh, .ref ch, .int dealt, .long epoch, .long base, .long whole, .long signing, .long pp, .long qq, .long modulus, .long order])), (sh, .inl (G.2.2.2.1, 6, .inr (.inl shares))), (ou, .inl (G.2.2.2.1, 1, .inr (.inl (vp_updL outf (0 : Int32).toNatClampNeg (1 : Int64)))))] H7 := hP
      have hD : va_D A [(x, .inr (3, [.ref k, .ref bu, .ref ma, .ref se, .int motionCount, .int sealedCount, .int suspended])), (k, .inr (1, [.ref sh, .ref ch, .int dealt, .long epoch, .long base, .long whole, .long signing, .long pp, .long qq, .long modulus, .long order])), (sh, .inl (G.2.2.2.1, 6, .inr (.inl shares))), (ou, .inl (G.2.2.2.1, 1, .inr (.inl (vp_updL outf (0 : Int32).toNatClampNeg (1 : Int64)))))] := hD
      refine lv_goto hx hb d_LW_parts_16 (tgt := 25) (by decide) ?_
      refine lv_iconst (v := (0 : Int32)) hx hb d_LW_parts_25 (by decide) ?_
      refine W.widen (k := 8) (n := 48) (Nat.le_of_ble_eq_true rfl) (Nat.le_of_ble_eq_true rfl) ?_
      exact xw_iret hx hb ht hl0 hP hD hS d_LW_parts_26
  · have h1 := gv_ST_parts h0
    rw [hgg] at h0
    subst h0
    rcases h1 with rfl | rfl
    · refine xh_1 hE ⟨by decide, by decide⟩ (by decide) hg hw S.2.2.2 xh_k1 xh_s1 hce hcv hcl ?_
      rw [show xh_c xt_IA xt_IS (some xt_IA) = 1 from xh_e1]
      refine lv_astore_n hx hb d_LW_parts_19 rfl hl (by decide) rfl (fun ls hl => ?_)
      have hl : lv_has ls 4 [(3, .ref q9), (0, .ref x), (1, .int mask), (2, .ref ou)] := hl
      refine lv_iconst (v := (1 : Int32)) hx hb d_LW_parts_20 (by decide) ?_
      refine W.widen (k := 8) (n := 48) (Nat.le_of_ble_eq_true rfl) (Nat.le_of_ble_eq_true rfl) ?_
      exact xw_iret hx hb ht hl0 hP hD hS d_LW_parts_21
    · refine xh_2 (E1 := xt_IA) hE ⟨by decide, by decide⟩ (by decide) (by decide) hg hw S.2.2.2 xh_k1 (by decide +kernel) xh_k2 xh_s2 hce hcv hcl ?_
      rw [show xh_c xt_IA xt_IS (some xt_IS) = 2 from (xh_e2 (by decide))]
      refine lv_astore_n hx hb d_LW_parts_22 rfl hl (by decide) rfl (fun ls hl => ?_)
      have hl : lv_has ls 4 [(3, .ref q9), (0, .ref x), (1, .int mask), (2, .ref ou)] := hl
      refine lv_iconst (v := (2 : Int32)) hx hb d_LW_parts_23 (by decide) ?_
      refine W.widen (k := 8) (n := 48) (Nat.le_of_ble_eq_true rfl) (Nat.le_of_ble_eq_true rfl) ?_
      exact xw_iret hx hb ht hl0 hP hD hS d_LW_parts_24
theorem gi_ST_told {motion : Int32} {what : Int32} {motionCount : Int32} : xt_in [xt_NS, xt_IA] (g_ST_told motion what motionCount) := by
  unfold g_ST_told
  repeat' first | exact xt_in0 | exact xt_inS (by decide) | exact xt_inW (gi_ST_requireKey ..) (by decide) | exact xt_inW (gi_ST_motionAt ..) (by decide) | exact xt_inW (gi_ST_requireTrustee ..) (by decide) | exact xt_inW (gi_ST_requireOpen ..) (by decide) | exact xt_inW (gi_ST_requireNoVoice ..) (by decide) | exact xt_inW (gi_ST_requireDocument ..) (by decide) | exact xt_inW (gi_ST_deal ..) (by decide) | exact xt_inW (gi_ST_put ..) (by decide) | exact xt_inW (gi_ST_motion ..) (by decide) | exact xt_inW (gi_ST_consent ..) (by decide) | exact xt_inW (gi_ST_object ..) (by decide) | exact xt_inW (gi_ST_file ..) (by decide) | exact xt_inW (gi_ST_partial ..) (by decide) | exact xt_inW (gi_ST_bad ..) (by decide) | exact xt_inW (gi_ST_join ..) (by decide) | exact xt_inW (gi_ST_verify ..) (by decide) | exact xt_inW (gi_ST_suspend ..) (by decide) | exact xt_inW (gi_ST_parts ..) (by decide) | refine xt_inI ?_ ?_ | refine xt_inE ?_ ?_
theorem gv_ST_told {E : String} {motion : Int32} {what : Int32} {motionCount : Int32} (h : g_ST_told motion what motionCount = some E) : E = xt_NS ∨ E = xt_IA := by
  have h1 := gi_ST_told _ h
  simpa using h1
set_option maxHeartbeats 4000000 in
set_option maxRecDepth 100000 in
theorem ct_LW_told (l : Launch) {G : xg_G} (hg : xg_F G) (hl9 : l.stackTraces = false) (H : Heap) (hO : xg_O G H) (x : Nat) (motion : Int32) (what : Int32) (k : Nat) (bu : Nat) (ma : Nat) (se : Nat) (motionCount : Int32) (sealedCount : Int32) (suspended : Int32) (mot : Nat → Option Nat) (mo : Nat) (pw : Nat) (cg : Nat) (an : Nat) (standing : Int32) (block : Int64) (partials : Int32) (objections : Int32) (signature : Int64) (ou : Nat) (outf : Nat → Int64) (hP : va_P G.2.1 cl_all [(x, .inr (3, [.ref k, .ref bu, .ref ma, .ref se, .int motionCount, .int sealedCount, .int suspended])), (ma, .inl (G.2.2.2.2, 12, .inr (.inr (.inr (.inr mot))))), (mo, .inr (2, [.ref pw, .ref cg, .ref an, .int standing, .long block, .int partials, .int objections, .long signature])), (ou, .inl (G.2.2.2.1, 1, .inr (.inl outf)))] H) (hD0 : va_D (fun _ => True) [(x, .inr (3, [.ref k, .ref bu, .ref ma, .ref se, .int motionCount, .int sealedCount, .int suspended])), (ma, .inl (G.2.2.2.2, 12, .inr (.inr (.inr (.inr mot))))), (mo, .inr (2, [.ref pw, .ref cg, .ref an, .int standing, .long block, .int partials, .int objections, .long signature])), (ou, .inl (G.2.2.2.1, 1, .inr (.inl outf)))]) (hC : motionCount.toInt ≤ 12) (hM : ¬ motion < 0 → motion < motionCount → mot motion.toNatClampNeg = some mo) : xc_Met l y_LW_told (.codeWith y_LW_told b_LW_told 5 (some .int) [(0, 9, 12, 29), (0, 9, 16, 13)]) ({ frames := 8, cells := 8, slots := 48, locals := 112 } : Room) (xg_Pc G [.ref x, .int motion, .int what, .ref ou] H) (xw_post G (va_A [(x, .inr (3, [.ref k, .ref bu, .ref ma, .ref se, .int motionCount, .int sealedCount, .int suspended])), (ma, .inl (G.2.2.2.2, 12, .inr (.inr (.inr (.inr mot))))), (mo, .inr (2, [.ref pw, .ref cg, .ref an, .int standing, .long block, .int partials, .int objections, .long signature])), (ou, .inl (G.2.2.2.1, 1, .inr (.inl outf)))] H.size) (some (.int (xh_c xt_NS xt_IA (g_ST_told motion what motionCount)))) [(x, .inr (3, [.ref k, .ref bu, .ref ma, .ref se, .int motionCount, .int sealedCount, .int suspended])), (ma, .inl (G.2.2.2.2, 12, .inr (.inr (.inr (.inr mot))))), (mo, .inr (2, [.ref pw, .ref cg, .ref an, .int standing, .long block, .int partials, .int objections, .long signature])), (ou, .inl (G.2.2.2.1, 1, .inr (.inl (xt_el (g_ST_told motion what motionCount) outf (vp_updL outf (0 : Int32).toNatClampNeg (f_ST_told motion what motionCount standing block partials objections signature))))))]) (va_A [(x, .inr (3, [.ref k, .ref bu, .ref ma, .ref se, .int motionCount, .int sealedCount, .int suspended])), (ma, .inl (G.2.2.2.2, 12, .inr (.inr (.inr (.inr mot))))), (mo, .inr (2, [.ref pw, .ref cg, .ref an, .int standing, .long block, .int partials, .int objections, .long signature])), (ou, .inl (G.2.2.2.1, 1, .inr (.inl outf)))] H.size) := by
  refine xc_ofWH (by decide) ?_
  intro p e s m args below meth c s₁ B hml hE hv
  obtain ⟨rfl, rfl, hw⟩ := hv
  have hx := B.exec
  have hb := B.bytes
  have ht := B.returns
  have hl0 := B.notSynchronized
  have S : xc_Fix p m c b_LW_told 5 s "SealTrustLaw" := ⟨hx, hb, hml, findClass_of_methodNamed B.named⟩
  have hD := hD0.self (sz := s.heap.size)
  generalize hAe : va_A [(x, .inr (3, [.ref k, .ref bu, .ref ma, .ref se, .int motionCount, .int sealedCount, .int suspended])), (ma, .inl (G.2.2.2.2, 12, .inr (.inr (.inr (.inr mot))))), (mo, .inr (2, [.ref pw, .ref cg, .ref an, .int standing, .long block, .int partials, .int objections, .long signature])), (ou, .inl (G.2.2.2.1, 1, .inr (.inl outf)))] s.heap.size = A at hD ⊢
  have hA : ∀ q : Nat, s.heap.size ≤ q → A q := fun q h => by rw [← hAe]; exact Or.inr h
  have hS : va_S A s.heap s.heap [] := va_S.rf
  have hl := lv_entry ([.ref x, .int motion, .int what, .ref ou]) (n := 5) (Nat.le_of_ble_eq_true rfl)
  rw [lg_entry_eq]
  generalize (lg_sl ([.ref x, .int motion, .int what, .ref ou]) ++ List.replicate (5 - (lg_sl ([.ref x, .int motion, .int what, .ref ou])).length) Slot.unset).toArray = ls at hl ⊢
  have hl : lv_has ls 5 [(0, .ref x), (1, .int motion), (2, .int what), (3, .ref ou)] := hl
  obtain ⟨gg, hgg⟩ : ∃ r, g_ST_told motion what motionCount = r := ⟨_, rfl⟩
  rw [hgg]
  show W p l e ({ frames := 8, cells := 8, slots := 48, locals := 112 } : Room) s m _ below meth c s.heap [] 0 0 (xc_Z below _ _ _ s 8 48) _
  refine lv_aload_n hx hb d_LW_told_0 rfl (lv_at hl 3 rfl) ?_
  refine lv_iconst (v := (0 : Int32)) hx hb d_LW_told_1 (by decide) ?_
  refine lv_aload_n hx hb d_LW_told_2 rfl (lv_at hl 0 rfl) ?_
  refine lv_iload_n hx hb d_LW_told_3 rfl (lv_at hl 1 rfl) ?_
  refine lv_iload_n hx hb d_LW_told_4 rfl (lv_at hl 2 rfl) ?_
  refine xh_useR (xg_runV (rest := [.int (0 : Int32), .ref ou]) (kw := 2) si_LW_67 hg hw S (va_recv (xg_k hg hw) hP (ci := 3) rfl (q0 := 0) rfl) (ct_ST_told l hg hl9 s.heap hO x motion what k bu ma se motionCount sealedCount suspended mot mo pw cg an standing block partials objections signature (hP.sub [0, 1, 2] rfl) hC hM) ⟨by decide, by decide, by decide, by decide⟩ rfl hl.1 rfl (Nat.le_of_ble_eq_true rfl) d_LW_told_5) hP hS (fun h0 => ?_) (fun E9 q9 ce H9 L9 h0 hP hS hce hcv hcl => ?_)
  · rw [hgg] at h0
    subst h0
    refine va_last hx hb (xg_k hg hw) hP hD hS 3 1 rfl rfl xh_01 d_LW_told_8 (fun H7 L7 hP hD hS => ?_)
    have hP : va_P G.2.1 cl_all [(x, .inr (3, [.ref k, .ref bu, .ref ma, .ref se, .int motionCount, .int sealedCount, .int suspended])), (ma, .inl (G.2.2.2.2, 12, .inr (.inr (.inr (.inr mot))))), (mo, .inr (2, [.ref pw, .ref cg, .ref an, .int standing, .long block, .int partials, .int objections, .long signature])), (ou, .inl (G.2.2.2.1, 1, .inr (.inl (vp_updL outf (0 : Int32).toNatClampNeg (f_ST_told motion what motionCount standing block partials objections signature)))))] H7 := hP
    have hD : va_D A [(x, .inr (3, [.ref k, .ref bu, .ref ma, .ref se, .int motionCount, .int sealedCount, .int suspended])), (ma, .inl (G.2.2.2.2, 12, .inr (.inr (.inr (.inr mot))))), (mo, .inr (2, [.ref pw, .ref cg, .ref an, .int standing, .long block, .int partials, .int objections, .long signature])), (ou, .inl (G.2.2.2.1, 1, .inr (.inl (vp_updL outf (0 : Int32).toNatClampNeg (f_ST_told motion what motionCount standing block partials objections signature)))))] := hD
    refine lv_goto hx hb d_LW_told_9 (tgt := 20) (by decide) ?_
    refine lv_iconst (v := (0 : Int32)) hx hb d_LW_told_20 (by decide) ?_
    refine W.widen (k := 8) (n := 48) (Nat.le_of_ble_eq_true rfl) (Nat.le_of_ble_eq_true rfl) ?_
    exact xw_iret hx hb ht hl0 hP hD hS d_LW_told_21
  · have h1 := gv_ST_told h0
    rw [hgg] at h0
    subst h0
    rcases h1 with rfl | rfl
    · refine xh_1 hE ⟨by decide, by decide⟩ (by decide) hg hw S.2.2.2 xh_k4 xh_s4 hce hcv hcl ?_
      rw [show xh_c xt_NS xt_IA (some xt_NS) = 1 from xh_e1]
      refine lv_astore hx hb d_LW_told_12 hl (by decide) rfl (fun ls hl => ?_)
      have hl : lv_has ls 5 [(4, .ref q9), (0, .ref x), (1, .int motion), (2, .int what), (3, .ref ou)] := hl
      refine lv_iconst (v := (1 : Int32)) hx hb d_LW_told_14 (by decide) ?_
      refine W.widen (k := 8) (n := 48) (Nat.le_of_ble_eq_true rfl) (Nat.le_of_ble_eq_true rfl) ?_
      exact xw_iret hx hb ht hl0 hP hD hS d_LW_told_15
    · refine xh_2 (E1 := xt_NS) hE ⟨by decide, by decide⟩ (by decide) (by decide) hg hw S.2.2.2 xh_k4 (by decide +kernel) xh_k1 xh_s1 hce hcv hcl ?_
      rw [show xh_c xt_NS xt_IA (some xt_IA) = 2 from (xh_e2 (by decide))]
      refine lv_astore hx hb d_LW_told_16 hl (by decide) rfl (fun ls hl => ?_)
      have hl : lv_has ls 5 [(4, .ref q9), (0, .ref x), (1, .int motion), (2, .int what), (3, .ref ou)] := hl
      refine lv_iconst (v := (2 : Int32)) hx hb d_LW_told_18 (by decide) ?_
      refine W.widen (k := 8) (n := 48) (Nat.le_of_ble_eq_true rfl) (Nat.le_of_ble_eq_true rfl) ?_
      exact xw_iret hx hb ht hl0 hP hD hS d_LW_told_19
theorem gi_ST_book {n_ : Int32} {sealedCount : Int32} : xt_in [xt_IA] (g_ST_book n_ sealedCount) := by
  unfold g_ST_book
  repeat' first | exact xt_in0 | exact xt_inS (by decide) | exact xt_inW (gi_ST_requireKey ..) (by decide) | exact xt_inW (gi_ST_motionAt ..) (by decide) | exact xt_inW (gi_ST_requireTrustee ..) (by decide) | exact xt_inW (gi_ST_requireOpen ..) (by decide) | exact xt_inW (gi_ST_requireNoVoice ..) (by decide) | exact xt_inW (gi_ST_requireDocument ..) (by decide) | exact xt_inW (gi_ST_deal ..) (by decide) | exact xt_inW (gi_ST_put ..) (by decide) | exact xt_inW (gi_ST_motion ..) (by decide) | exact xt_inW (gi_ST_consent ..) (by decide) | exact xt_inW (gi_ST_object ..) (by decide) | exact xt_inW (gi_ST_file ..) (by decide) | exact xt_inW (gi_ST_partial ..) (by decide) | exact xt_inW (gi_ST_bad ..) (by decide) | exact xt_inW (gi_ST_join ..) (by decide) | exact xt_inW (gi_ST_verify ..) (by decide) | exact xt_inW (gi_ST_suspend ..) (by decide) | exact xt_inW (gi_ST_parts ..) (by decide) | exact xt_inW (gi_ST_told ..) (by decide) | refine xt_inI ?_ ?_ | refine xt_inE ?_ ?_
theorem gv_ST_book {E : String} {n_ : Int32} {sealedCount : Int32} (h : g_ST_book n_ sealedCount = some E) : E = xt_IA := List.mem_singleton.mp (gi_ST_book _ h)
set_option maxHeartbeats 4000000 in
set_option maxRecDepth 100000 in
theorem ct_LW_book (l : Launch) {G : xg_G} (hg : xg_F G) (hl9 : l.stackTraces = false) (H : Heap) (hO : xg_O G H) (x : Nat) (n_ : Int32) (k : Nat) (bu : Nat) (ma : Nat) (se : Nat) (motionCount : Int32) (sealedCount : Int32) (suspended : Int32) (sealed : Nat → Int32) (ou : Nat) (outf : Nat → Int64) (hP : va_P G.2.1 cl_all [(x, .inr (3, [.ref k, .ref bu, .ref ma, .ref se, .int motionCount, .int sealedCount, .int suspended])), (se, .inl (G.2.2.1, 12, .inl sealed)), (ou, .inl (G.2.2.2.1, 1, .inr (.inl outf)))] H) (hD0 : va_D (fun _ => True) [(x, .inr (3, [.ref k, .ref bu, .ref ma, .ref se, .int motionCount, .int sealedCount, .int suspended])), (se, .inl (G.2.2.1, 12, .inl sealed)), (ou, .inl (G.2.2.2.1, 1, .inr (.inl outf)))]) (hC : sealedCount.toInt ≤ 12) : xc_Met l y_LW_book (.codeWith y_LW_book b_LW_book 4 (some .int) [(0, 9, 12, 13)]) ({ frames := 7, cells := 1, slots := 6, locals := 97 } : Room) (xg_Pc G [.ref x, .int n_, .ref ou] H) (xw_post G (va_A [(x, .inr (3, [.ref k, .ref bu, .ref ma, .ref se, .int motionCount, .int sealedCount, .int suspended])), (se, .inl (G.2.2.1, 12, .inl sealed)), (ou, .inl (G.2.2.2.1, 1, .inr (.inl outf)))] H.size) (some (.int (xh_c xt_IA xt_IS (g_ST_book n_ sealedCount)))) [(x, .inr (3, [.ref k, .ref bu, .ref ma, .ref se, .int motionCount, .int sealedCount, .int suspended])), (se, .inl (G.2.2.1, 12, .inl sealed)), (ou, .inl (G.2.2.2.1, 1, .inr (.inl (xt_el (g_ST_book n_ sealedCount) outf (vp_updL outf (0 : Int32).toNatClampNeg (f_ST_book n_ sealedCount sealed).toInt64)))))]) (va_A [(x, .inr (3, [.ref k, .ref bu, .ref ma, .ref se, .int motionCount, .int sealedCount, .int suspended])), (se, .inl (G.2.2.1, 12, .inl sealed)), (ou, .inl (G.2.2.2.1, 1, .inr (.inl outf)))] H.size) := by
  refine xc_ofWH (by decide) ?_
  intro p e s m args below meth c s₁ B hml hE hv
  obtain ⟨rfl, rfl, hw⟩ := hv
  have hx := B.exec
  have hb := B.bytes
  have ht := B.returns
  have hl0 := B.notSynchronized
  have S : xc_Fix p m c b_LW_book 4 s "SealTrustLaw" := ⟨hx, hb, hml, findClass_of_methodNamed B.named⟩
  have hD := hD0.self (sz := s.heap.size)
  generalize hAe : va_A [(x, .inr (3, [.ref k, .ref bu, .ref ma, .ref se, .int motionCount, .int sealedCount, .int suspended])), (se, .inl (G.2.2.1, 12, .inl sealed)), (ou, .inl (G.2.2.2.1, 1, .inr (.inl outf)))] s.heap.size = A at hD ⊢
  have hA : ∀ q : Nat, s.heap.size ≤ q → A q := fun q h => by rw [← hAe]; exact Or.inr h
  have hS : va_S A s.heap s.heap [] := va_S.rf
  have hl := lv_entry ([.ref x, .int n_, .ref ou]) (n := 4) (Nat.le_of_ble_eq_true rfl)
  rw [lg_entry_eq]
  generalize (lg_sl ([.ref x, .int n_, .ref ou]) ++ List.replicate (4 - (lg_sl ([.ref x, .int n_, .ref ou])).length) Slot.unset).toArray = ls at hl ⊢
  have hl : lv_has ls 4 [(0, .ref x), (1, .int n_), (2, .ref ou)] := hl
  obtain ⟨gg, hgg⟩ : ∃ r, g_ST_book n_ sealedCount = r := ⟨_, rfl⟩
  rw [hgg]
  show W p l e ({ frames := 7, cells := 1, slots := 6, locals := 97 } : Room) s m _ below meth c s.heap [] 0 0 (xc_Z below _ _ _ s 1 6) _
  refine lv_aload_n hx hb d_LW_book_0 rfl (lv_at hl 2 rfl) ?_
  refine lv_iconst (v := (0 : Int32)) hx hb d_LW_book_1 (by decide) ?_
  refine lv_aload_n hx hb d_LW_book_2 rfl (lv_at hl 0 rfl) ?_
  refine lv_iload_n hx hb d_LW_book_3 rfl (lv_at hl 1 rfl) ?_
  refine xh_useR (xg_runV (rest := [.int (0 : Int32), .ref ou]) (kw := 2) si_LW_71 hg hw S (va_recv (xg_k hg hw) hP (ci := 3) rfl (q0 := 0) rfl) (ct_ST_book l hg hl9 s.heap hO x n_ k bu ma se motionCount sealedCount suspended sealed (hP.sub [0, 1] rfl) hC) ⟨by decide, by decide, by decide, by decide⟩ rfl hl.1 rfl (Nat.le_of_ble_eq_true rfl) d_LW_book_4) hP hS (fun h0 => ?_) (fun E9 q9 ce H9 L9 h0 hP hS hce hcv hcl => ?_)
  · rw [hgg] at h0
    subst h0
    refine lv_i2l hx hb d_LW_book_7 rfl ?_
    refine va_last hx hb (xg_k hg hw) hP hD hS 2 1 rfl rfl xh_01 d_LW_book_8 (fun H7 L7 hP hD hS => ?_)
    have hP : va_P G.2.1 cl_all [(x, .inr (3, [.ref k, .ref bu, .ref ma, .ref se, .int motionCount, .int sealedCount, .int suspended])), (se, .inl (G.2.2.1, 12, .inl sealed)), (ou, .inl (G.2.2.2.1, 1, .inr (.inl (vp_updL outf (0 : Int32).toNatClampNeg ((f_ST_book n_ sealedCount sealed).toInt64)))))] H7 := hP
    have hD : va_D A [(x, .inr (3, [.ref k, .ref bu, .ref ma, .ref se, .int motionCount, .int sealedCount, .int suspended])), (se, .inl (G.2.2.1, 12, .inl sealed)), (ou, .inl (G.2.2.2.1, 1, .inr (.inl (vp_updL outf (0 : Int32).toNatClampNeg ((f_ST_book n_ sealedCount sealed).toInt64)))))] := hD
    refine lv_goto hx hb d_LW_book_9 (tgt := 15) (by decide) ?_
    refine lv_iconst (v := (0 : Int32)) hx hb d_LW_book_15 (by decide) ?_
    refine W.widen (k := 1) (n := 6) (Nat.le_of_ble_eq_true rfl) (Nat.le_of_ble_eq_true rfl) ?_
    exact xw_iret hx hb ht hl0 hP hD hS d_LW_book_16
  · have h1 := gv_ST_book h0
    rw [hgg] at h0
    subst h0
    subst h1
    refine xh_1 hE ⟨by decide, by decide⟩ (by decide) hg hw S.2.2.2 xh_k1 xh_s1 hce hcv hcl ?_
    rw [show xh_c xt_IA xt_IS (some xt_IA) = 1 from xh_e1]
    refine lv_astore_n hx hb d_LW_book_12 rfl hl (by decide) rfl (fun ls hl => ?_)
    have hl : lv_has ls 4 [(3, .ref q9), (0, .ref x), (1, .int n_), (2, .ref ou)] := hl
    refine lv_iconst (v := (1 : Int32)) hx hb d_LW_book_13 (by decide) ?_
    refine W.widen (k := 1) (n := 6) (Nat.le_of_ble_eq_true rfl) (Nat.le_of_ble_eq_true rfl) ?_
    exact xw_iret hx hb ht hl0 hP hD hS d_LW_book_14
theorem gi_ST_state {what : Int32} {dealt : Int32} : xt_in [xt_IA] (g_ST_state what dealt) := by
  unfold g_ST_state
  repeat' first | exact xt_in0 | exact xt_inS (by decide) | exact xt_inW (gi_ST_requireKey ..) (by decide) | exact xt_inW (gi_ST_motionAt ..) (by decide) | exact xt_inW (gi_ST_requireTrustee ..) (by decide) | exact xt_inW (gi_ST_requireOpen ..) (by decide) | exact xt_inW (gi_ST_requireNoVoice ..) (by decide) | exact xt_inW (gi_ST_requireDocument ..) (by decide) | exact xt_inW (gi_ST_deal ..) (by decide) | exact xt_inW (gi_ST_put ..) (by decide) | exact xt_inW (gi_ST_motion ..) (by decide) | exact xt_inW (gi_ST_consent ..) (by decide) | exact xt_inW (gi_ST_object ..) (by decide) | exact xt_inW (gi_ST_file ..) (by decide) | exact xt_inW (gi_ST_partial ..) (by decide) | exact xt_inW (gi_ST_bad ..) (by decide) | exact xt_inW (gi_ST_join ..) (by decide) | exact xt_inW (gi_ST_verify ..) (by decide) | exact xt_inW (gi_ST_suspend ..) (by decide) | exact xt_inW (gi_ST_parts ..) (by decide) | exact xt_inW (gi_ST_told ..) (by decide) | exact xt_inW (gi_ST_book ..) (by decide) | refine xt_inI ?_ ?_ | refine xt_inE ?_ ?_
theorem gv_ST_state {E : String} {what : Int32} {dealt : Int32} (h : g_ST_state what dealt = some E) : E = xt_IA := List.mem_singleton.mp (gi_ST_state _ h)
set_option maxHeartbeats 4000000 in
set_option maxRecDepth 100000 in
theorem ct_LW_state (l : Launch) {G : xg_G} (hg : xg_F G) (hl9 : l.stackTraces = false) (H : Heap) (hO : xg_O G H) (x : Nat) (what : Int32) (k : Nat) (bu : Nat) (ma : Nat) (se : Nat) (motionCount : Int32) (sealedCount : Int32) (suspended : Int32) (sh : Nat) (ch : Nat) (dealt : Int32) (epoch : Int64) (base : Int64) (whole : Int64) (signing : Int64) (pp : Int64) (qq : Int64) (modulus : Int64) (order : Int64) (checks : Nat → Int64) (bys : Nat) (size : Int32) (ou : Nat) (outf : Nat → Int64) (hP : va_P G.2.1 cl_all [(x, .inr (3, [.ref k, .ref bu, .ref ma, .ref se, .int motionCount, .int sealedCount, .int suspended])), (k, .inr (1, [.ref sh, .ref ch, .int dealt, .long epoch, .long base, .long whole, .long signing, .long pp, .long qq, .long modulus, .long order])), (ch, .inl (G.2.2.2.1, 6, .inr (.inl checks))), (bu, .inr (0, [.ref bys, .int size])), (ou, .inl (G.2.2.2.1, 1, .inr (.inl outf)))] H) (hD0 : va_D (fun _ => True) [(x, .inr (3, [.ref k, .ref bu, .ref ma, .ref se, .int motionCount, .int sealedCount, .int suspended])), (k, .inr (1, [.ref sh, .ref ch, .int dealt, .long epoch, .long base, .long whole, .long signing, .long pp, .long qq, .long modulus, .long order])), (ch, .inl (G.2.2.2.1, 6, .inr (.inl checks))), (bu, .inr (0, [.ref bys, .int size])), (ou, .inl (G.2.2.2.1, 1, .inr (.inl outf)))])  : xc_Met l y_LW_state (.codeWith y_LW_state b_LW_state 4 (some .int) [(0, 8, 11, 13)]) ({ frames := 7, cells := 1, slots := 6, locals := 97 } : Room) (xg_Pc G [.ref x, .int what, .ref ou] H) (xw_post G (va_A [(x, .inr (3, [.ref k, .ref bu, .ref ma, .ref se, .int motionCount, .int sealedCount, .int suspended])), (k, .inr (1, [.ref sh, .ref ch, .int dealt, .long epoch, .long base, .long whole, .long signing, .long pp, .long qq, .long modulus, .long order])), (ch, .inl (G.2.2.2.1, 6, .inr (.inl checks))), (bu, .inr (0, [.ref bys, .int size])), (ou, .inl (G.2.2.2.1, 1, .inr (.inl outf)))] H.size) (some (.int (xh_c xt_IA xt_IS (g_ST_state what dealt)))) [(x, .inr (3, [.ref k, .ref bu, .ref ma, .ref se, .int motionCount, .int sealedCount, .int suspended])), (k, .inr (1, [.ref sh, .ref ch, .int dealt, .long epoch, .long base, .long whole, .long signing, .long pp, .long qq, .long modulus, .long order])), (ch, .inl (G.2.2.2.1, 6, .inr (.inl checks))), (bu, .inr (0, [.ref bys, .int size])), (ou, .inl (G.2.2.2.1, 1, .inr (.inl (xt_el (g_ST_state what dealt) outf (vp_updL outf (0 : Int32).toNatClampNeg (f_ST_state what motionCount suspended dealt epoch modulus checks size))))))]) (va_A [(x, .inr (3, [.ref k, .ref bu, .ref ma, .ref se, .int motionCount, .int sealedCount, .int suspended])), (k, .inr (1, [.ref sh, .ref ch, .int dealt, .long epoch, .long base, .long whole, .long signing, .long pp, .long qq, .long modulus, .long order])), (ch, .inl (G.2.2.2.1, 6, .inr (.inl checks))), (bu, .inr (0, [.ref bys, .int size])), (ou, .inl (G.2.2.2.1, 1, .inr (.inl outf)))] H.size) := by
  refine xc_ofWH (by decide) ?_
  intro p e s m args below meth c s₁ B hml hE hv
  obtain ⟨rfl, rfl, hw⟩ := hv
  have hx := B.exec
  have hb := B.bytes
  have ht := B.returns
  have hl0 := B.notSynchronized
  have S : xc_Fix p m c b_LW_state 4 s "SealTrustLaw" := ⟨hx, hb, hml, findClass_of_methodNamed B.named⟩
  have hD := hD0.self (sz := s.heap.size)
  generalize hAe : va_A [(x, .inr (3, [.ref k, .ref bu, .ref ma, .ref se, .int motionCount, .int sealedCount, .int suspended])), (k, .inr (1, [.ref sh, .ref ch, .int dealt, .long epoch, .long base, .long whole, .long signing, .long pp, .long qq, .long modulus, .long order])), (ch, .inl (G.2.2.2.1, 6, .inr (.inl checks))), (bu, .inr (0, [.ref bys, .int size])), (ou, .inl (G.2.2.2.1, 1, .inr (.inl outf)))] s.heap.size = A at hD ⊢
  have hA : ∀ q : Nat, s.heap.size ≤ q → A q := fun q h => by rw [← hAe]; exact Or.inr h
  have hS : va_S A s.heap s.heap [] := va_S.rf
  have hl := lv_entry ([.ref x, .int what, .ref ou]) (n := 4) (Nat.le_of_ble_eq_true rfl)
  rw [lg_entry_eq]
  generalize (lg_sl ([.ref x, .int what, .ref ou]) ++ List.replicate (4 - (lg_sl ([.ref x, .int what, .ref ou])).length) Slot.unset).toArray = ls at hl ⊢
  have hl : lv_has ls 4 [(0, .ref x), (1, .int what), (2, .ref ou)] := hl
  obtain ⟨gg, hgg⟩ : ∃ r, g_ST_state what dealt = r := ⟨_, rfl⟩
  rw [hgg]
  show W p l e ({ frames := 7, cells := 1, slots := 6, locals := 97 } : Room) s m _ below meth c s.heap [] 0 0 (xc_Z below _ _ _ s 1 6) _
  refine lv_aload_n hx hb d_LW_state_0 rfl (lv_at hl 2 rfl) ?_
  refine lv_iconst (v := (0 : Int32)) hx hb d_LW_state_1 (by decide) ?_
  refine lv_aload_n hx hb d_LW_state_2 rfl (lv_at hl 0 rfl) ?_
  refine lv_iload_n hx hb d_LW_state_3 rfl (lv_at hl 1 rfl) ?_
  refine xh_useR (xg_runV (rest := [.int (0 : Int32), .ref ou]) (kw := 2) si_LW_74 hg hw S (va_recv (xg_k hg hw) hP (ci := 3) rfl (q0 := 0) rfl) (ct_ST_state l hg hl9 s.heap hO x what k bu ma se motionCount sealedCount suspended sh ch dealt epoch base whole signing pp qq modulus order checks bys size (hP.sub [0, 1, 2, 3] rfl) ) ⟨by decide, by decide, by decide, by decide⟩ rfl hl.1 rfl (Nat.le_of_ble_eq_true rfl) d_LW_state_4) hP hS (fun h0 => ?_) (fun E9 q9 ce H9 L9 h0 hP hS hce hcv hcl => ?_)
  · rw [hgg] at h0
    subst h0
    refine va_last hx hb (xg_k hg hw) hP hD hS 4 1 rfl rfl xh_01 d_LW_state_7 (fun H7 L7 hP hD hS => ?_)
    have hP : va_P G.2.1 cl_all [(x, .inr (3, [.ref k, .ref bu, .ref ma, .ref se, .int motionCount, .int sealedCount, .int suspended])), (k, .inr (1, [.ref sh, .ref ch, .int dealt, .long epoch, .long base, .long whole, .long signing, .long pp, .long qq, .long modulus, .long order])), (ch, .inl (G.2.2.2.1, 6, .inr (.inl checks))), (bu, .inr (0, [.ref bys, .int size])), (ou, .inl (G.2.2.2.1, 1, .inr (.inl (vp_updL outf (0 : Int32).toNatClampNeg (f_ST_state what motionCount suspended dealt epoch modulus checks size)))))] H7 := hP
    have hD : va_D A [(x, .inr (3, [.ref k, .ref bu, .ref ma, .ref se, .int motionCount, .int sealedCount, .int suspended])), (k, .inr (1, [.ref sh, .ref ch, .int dealt, .long epoch, .long base, .long whole, .long signing, .long pp, .long qq, .long modulus, .long order])), (ch, .inl (G.2.2.2.1, 6, .inr (.inl checks))), (bu, .inr (0, [.ref bys, .int size])), (ou, .inl (G.2.2.2.1, 1, .inr (.inl (vp_updL outf (0 : Int32).toNatClampNeg (f_ST_state what motionCount suspended dealt epoch modulus checks size)))))] := hD
    refine lv_goto hx hb d_LW_state_8 (tgt := 14) (by decide) ?_
    refine lv_iconst (v := (0 : Int32)) hx hb d_LW_state_14 (by decide) ?_
    refine W.widen (k := 1) (n := 6) (Nat.le_of_ble_eq_true rfl) (Nat.le_of_ble_eq_true rfl) ?_
    exact xw_iret hx hb ht hl0 hP hD hS d_LW_state_15
  · have h1 := gv_ST_state h0
    rw [hgg] at h0
    subst h0
    subst h1
    refine xh_1 hE ⟨by decide, by decide⟩ (by decide) hg hw S.2.2.2 xh_k1 xh_s1 hce hcv hcl ?_
    rw [show xh_c xt_IA xt_IS (some xt_IA) = 1 from xh_e1]
    refine lv_astore_n hx hb d_LW_state_11 rfl hl (by decide) rfl (fun ls hl => ?_)
    have hl : lv_has ls 4 [(3, .ref q9), (0, .ref x), (1, .int what), (2, .ref ou)] := hl
    refine lv_iconst (v := (1 : Int32)) hx hb d_LW_state_12 (by decide) ?_
    refine W.widen (k := 1) (n := 6) (Nat.le_of_ble_eq_true rfl) (Nat.le_of_ble_eq_true rfl) ?_
    exact xw_iret hx hb ht hl0 hP hD hS d_LW_state_13
