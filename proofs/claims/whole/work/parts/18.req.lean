/-! what is required before anything is done -/
theorem sw_230 : (Cond.stringRef "SealTrust" 230 "no key") ∈ lw_tbl := List.mem_append_right _ (List.mem_append_right _ (List.mem_append_left _ (List.mem_of_getElem? (i := 58) rfl)))
theorem sw_232 : (Cond.stringRef "SealTrust" 232 "an empty buffer") ∈ lw_tbl := List.mem_append_right _ (List.mem_append_right _ (List.mem_append_left _ (List.mem_of_getElem? (i := 65) rfl)))
theorem sw_234 : (Cond.stringRef "SealTrust" 234 "no such motion") ∈ lw_tbl := List.mem_append_right _ (List.mem_append_right _ (List.mem_append_left _ (List.mem_of_getElem? (i := 114) rfl)))
theorem sw_236 : (Cond.stringRef "SealTrust" 236 "no such trustee") ∈ lw_tbl := List.mem_append_right _ (List.mem_append_right _ (List.mem_append_left _ (List.mem_of_getElem? (i := 124) rfl)))
theorem sw_238 : (Cond.stringRef "SealTrust" 238 "the motion is not open") ∈ lw_tbl := List.mem_append_right _ (List.mem_append_right _ (List.mem_append_left _ (List.mem_of_getElem? (i := 128) rfl)))
theorem sw_240 : (Cond.stringRef "SealTrust" 240 "the trustee has a voice on the motion") ∈ lw_tbl := List.mem_append_right _ (List.mem_append_right _ (List.mem_append_left _ (List.mem_of_getElem? (i := 135) rfl)))
theorem xs_min {x n : Int32} (h0 : ¬ x < 0) (h : x < n) (hn : n.toInt ≤ 12) : vp_in x 12 := by
  rw [Int32.lt_iff_toInt_lt] at h0 h
  rw [show (0 : Int32).toInt = 0 from rfl] at h0
  exact vp_in_iff.mpr ⟨by omega, by omega⟩
def g_ST_requireKey (dealt : Int32) : Option String := if dealt = 0 then (some xt_IS) else none
set_option maxHeartbeats 4000000 in
set_option maxRecDepth 100000 in
theorem ct_ST_requireKey (l : Launch) {G : xg_G} (hg : xg_F G) (hl9 : l.stackTraces = false) (H : Heap) (hO : xg_O G H) (x : Nat) (k : Nat) (bu : Nat) (ma : Nat) (se : Nat) (motionCount : Int32) (sealedCount : Int32) (suspended : Int32) (sh : Nat) (ch : Nat) (dealt : Int32) (epoch : Int64) (base : Int64) (whole : Int64) (signing : Int64) (pp : Int64) (qq : Int64) (modulus : Int64) (order : Int64) (hP : va_P G.2.1 cl_all [(x, .inr (3, [.ref k, .ref bu, .ref ma, .ref se, .int motionCount, .int sealedCount, .int suspended])), (k, .inr (1, [.ref sh, .ref ch, .int dealt, .long epoch, .long base, .long whole, .long signing, .long pp, .long qq, .long modulus, .long order]))] H)  : xc_Met l y_ST_requireKey (.code y_ST_requireKey b_ST_requireKey 1 none) ({ frames := 6, cells := 1, slots := 6, locals := 82 } : Room) (xg_Pc G [.ref x] H) (xt_ro (g_ST_requireKey dealt) none H) (fun _ => False) := by
  refine xc_ofW (by decide) ?_
  intro p e s m args below meth c s₁ B hml hE hv
  obtain ⟨rfl, rfl, hw⟩ := hv
  have hx := B.exec
  have hb := B.bytes
  have ht := B.returns
  have hl0 := B.notSynchronized
  have S : xc_Fix p m c b_ST_requireKey 1 s "SealTrust" := ⟨hx, hb, hml, findClass_of_methodNamed B.named⟩
  have hl := lv_entry ([.ref x]) (n := 1) (Nat.le_of_ble_eq_true rfl)
  rw [lg_entry_eq]
  generalize (lg_sl ([.ref x]) ++ List.replicate (1 - (lg_sl ([.ref x])).length) Slot.unset).toArray = ls at hl ⊢
  have hl : lv_has ls 1 [(0, .ref x)] := hl
  obtain ⟨r0, hr0⟩ : ∃ r, g_ST_requireKey dealt = r := ⟨_, rfl⟩
  rw [hr0]
  unfold g_ST_requireKey at hr0
  show W p l e ({ frames := 6, cells := 1, slots := 6, locals := 82 } : Room) s m _ below meth c s.heap [] 0 0 (xc_Z below _ _ _ s 1 6) _
  refine lv_aload_n hx hb d_ST_requireKey_0 rfl (lv_at hl 0 rfl) ?_
  refine gf_ST_10 hg hw S hP 0 rfl rfl d_ST_requireKey_1 ?_
  refine gf_ST_220 hg hw S hP 1 rfl rfl d_ST_requireKey_4 ?_
  refine lv_if_ne hx hb d_ST_requireKey_7 (tgt := 20) (by decide) (fun h7 => ?_) (fun h7 => ?_)
  · rw [if_neg h7] at hr0
    subst hr0
    refine W.widen (k := 1) (n := 6) (Nat.le_of_ble_eq_true rfl) (Nat.le_of_ble_eq_true rfl) ?_
    exact xc_vret hx hb ht hl0 xc_F.rf (fun _ h => nomatch h) xt_ro0 d_ST_requireKey_20
  · rw [if_pos h7] at hr0
    subst hr0
    exact th_2 hg hw hO S hl9 hl0 hE sw_230 hl.1 d_ST_requireKey_10 d_ST_requireKey_13 d_ST_requireKey_14 d_ST_requireKey_16 d_ST_requireKey_19 ⟨by decide, by decide, by decide, by decide⟩ ⟨by decide, by decide⟩ (fun _ h => xt_ro1 h)
def g_ST_requireDocument (dealt : Int32) (size : Int32) : Option String := xt_el (g_ST_requireKey dealt) (g_ST_requireKey dealt) (if (f_BU_count size) = 0 then (some xt_IS) else none)
set_option maxHeartbeats 4000000 in
set_option maxRecDepth 100000 in
theorem ct_ST_requireDocument (l : Launch) {G : xg_G} (hg : xg_F G) (hl9 : l.stackTraces = false) (H : Heap) (hO : xg_O G H) (x : Nat) (k : Nat) (bu : Nat) (ma : Nat) (se : Nat) (motionCount : Int32) (sealedCount : Int32) (suspended : Int32) (sh : Nat) (ch : Nat) (dealt : Int32) (epoch : Int64) (base : Int64) (whole : Int64) (signing : Int64) (pp : Int64) (qq : Int64) (modulus : Int64) (order : Int64) (bys : Nat) (size : Int32) (hP : va_P G.2.1 cl_all [(x, .inr (3, [.ref k, .ref bu, .ref ma, .ref se, .int motionCount, .int sealedCount, .int suspended])), (k, .inr (1, [.ref sh, .ref ch, .int dealt, .long epoch, .long base, .long whole, .long signing, .long pp, .long qq, .long modulus, .long order])), (bu, .inr (0, [.ref bys, .int size]))] H)  : xc_Met l y_ST_requireDocument (.code y_ST_requireDocument b_ST_requireDocument 1 none) ({ frames := 7, cells := 2, slots := 12, locals := 94 } : Room) (xg_Pc G [.ref x] H) (xt_ro (g_ST_requireDocument dealt size) none H) (fun _ => False) := by
  refine xc_ofW (by decide) ?_
  intro p e s m args below meth c s₁ B hml hE hv
  obtain ⟨rfl, rfl, hw⟩ := hv
  have hx := B.exec
  have hb := B.bytes
  have ht := B.returns
  have hl0 := B.notSynchronized
  have S : xc_Fix p m c b_ST_requireDocument 1 s "SealTrust" := ⟨hx, hb, hml, findClass_of_methodNamed B.named⟩
  have hl := lv_entry ([.ref x]) (n := 1) (Nat.le_of_ble_eq_true rfl)
  rw [lg_entry_eq]
  generalize (lg_sl ([.ref x]) ++ List.replicate (1 - (lg_sl ([.ref x])).length) Slot.unset).toArray = ls at hl ⊢
  have hl : lv_has ls 1 [(0, .ref x)] := hl
  obtain ⟨r0, hr0⟩ : ∃ r, g_ST_requireDocument dealt size = r := ⟨_, rfl⟩
  rw [hr0]
  unfold g_ST_requireDocument at hr0
  show W p l e ({ frames := 7, cells := 2, slots := 12, locals := 94 } : Room) s m _ below meth c s.heap [] 0 0 (xc_Z below _ _ _ s 2 12) _
  refine lv_aload_n hx hb d_ST_requireDocument_0 rfl (lv_at hl 0 rfl) ?_
  refine xt_use (xg_runV (rest := []) (kw := 0) si_ST_197 hg hw S (va_recv (xg_k hg hw) hP (ci := 3) rfl (q0 := 0) rfl) (ct_ST_requireKey l hg hl9 s.heap hO x k bu ma se motionCount sealedCount suspended sh ch dealt epoch base whole signing pp qq modulus order (hP.sub [0, 1] rfl) ) ⟨by decide, by decide, by decide, by decide⟩ rfl hl.1 rfl (Nat.le_of_ble_eq_true rfl) d_ST_requireDocument_1) hl0 hE (by decide) (by decide) (fun E9 H9 h9 hF9 => ?_) (fun q1 => ?_)
  · rw [xt_el1 h9, h9] at hr0
    subst hr0
    exact xt_ro1 hF9
  · rw [xt_el0 q1] at hr0
    refine lv_aload_n hx hb d_ST_requireDocument_4 rfl (lv_at hl 0 rfl) ?_
    refine gf_ST_19 hg hw S hP 0 rfl rfl d_ST_requireDocument_5 ?_
    refine xg_read (xg_runV (rest := []) (kw := 0) si_ST_77 hg hw S (va_recv (xg_k hg hw) hP (ci := 0) rfl (q0 := 2) rfl) (ct_BU_count l hg s.heap bu bys size (hP.sub [2] rfl) ) ⟨by decide, by decide, by decide, by decide⟩ rfl hl.1 rfl (Nat.le_of_ble_eq_true rfl) d_ST_requireDocument_8) ?_
    refine lv_if_ne hx hb d_ST_requireDocument_11 (tgt := 24) (by decide) (fun h11 => ?_) (fun h11 => ?_)
    · rw [if_neg h11] at hr0
      subst hr0
      refine W.widen (k := 2) (n := 12) (Nat.le_of_ble_eq_true rfl) (Nat.le_of_ble_eq_true rfl) ?_
      exact xc_vret hx hb ht hl0 xc_F.rf (fun _ h => nomatch h) xt_ro0 d_ST_requireDocument_24
    · rw [if_pos h11] at hr0
      subst hr0
      exact th_2 hg hw hO S hl9 hl0 hE sw_232 hl.1 d_ST_requireDocument_14 d_ST_requireDocument_17 d_ST_requireDocument_18 d_ST_requireDocument_20 d_ST_requireDocument_23 ⟨by decide, by decide, by decide, by decide⟩ ⟨by decide, by decide⟩ (fun _ h => xt_ro1 h)
def g_ST_motionAt (number : Int32) (motionCount : Int32) : Option String := if number < 0 then (some xt_NS) else (if number < motionCount then none else (some xt_NS))
set_option maxHeartbeats 4000000 in
set_option maxRecDepth 100000 in
theorem ct_ST_motionAt (l : Launch) {G : xg_G} (hg : xg_F G) (hl9 : l.stackTraces = false) (H : Heap) (hO : xg_O G H) (x : Nat) (number : Int32) (k : Nat) (bu : Nat) (ma : Nat) (se : Nat) (motionCount : Int32) (sealedCount : Int32) (suspended : Int32) (mot : Nat → Option Nat) (hP : va_P G.2.1 cl_all [(x, .inr (3, [.ref k, .ref bu, .ref ma, .ref se, .int motionCount, .int sealedCount, .int suspended])), (ma, .inl (G.2.2.2.2, 12, .inr (.inr (.inr (.inr mot)))))] H) (hC : motionCount.toInt ≤ 12) (mo : Nat) (hM : ¬ number < 0 → number < motionCount → mot number.toNatClampNeg = some mo) : xc_Met l y_ST_motionAt (.code y_ST_motionAt b_ST_motionAt 2 (some (.object "SealTrust$Motion"))) ({ frames := 6, cells := 1, slots := 6, locals := 82 } : Room) (xg_Pc G [.ref x, .int number] H) (xt_ro (g_ST_motionAt number motionCount) (some (.ref mo)) H) (fun _ => False) := by
  refine xc_ofW (by decide) ?_
  intro p e s m args below meth c s₁ B hml hE hv
  obtain ⟨rfl, rfl, hw⟩ := hv
  have hx := B.exec
  have hb := B.bytes
  have ht := B.returns
  have hl0 := B.notSynchronized
  have S : xc_Fix p m c b_ST_motionAt 2 s "SealTrust" := ⟨hx, hb, hml, findClass_of_methodNamed B.named⟩
  have hl := lv_entry ([.ref x, .int number]) (n := 2) (Nat.le_of_ble_eq_true rfl)
  rw [lg_entry_eq]
  generalize (lg_sl ([.ref x, .int number]) ++ List.replicate (2 - (lg_sl ([.ref x, .int number])).length) Slot.unset).toArray = ls at hl ⊢
  have hl : lv_has ls 2 [(0, .ref x), (1, .int number)] := hl
  obtain ⟨r0, hr0⟩ : ∃ r, g_ST_motionAt number motionCount = r := ⟨_, rfl⟩
  rw [hr0]
  unfold g_ST_motionAt at hr0
  show W p l e ({ frames := 6, cells := 1, slots := 6, locals := 82 } : Room) s m _ below meth c s.heap [] 0 0 (xc_Z below _ _ _ s 1 6) _
  refine lv_iload_n hx hb d_ST_motionAt_0 rfl (lv_at hl 1 rfl) ?_
  refine lv_if_lt hx hb d_ST_motionAt_1 (tgt := 12) (by decide) (fun h1 => ?_) (fun h1 => ?_)
  · rw [if_pos h1] at hr0
    subst hr0
    exact th_4 hg hw hO S hl9 hl0 hE sw_234 hl.1 d_ST_motionAt_12 d_ST_motionAt_15 d_ST_motionAt_16 d_ST_motionAt_18 d_ST_motionAt_21 ⟨by decide, by decide, by decide, by decide⟩ ⟨by decide, by decide⟩ (fun _ h => xt_ro1 h)
  · rw [if_neg h1] at hr0
    refine lv_iload_n hx hb d_ST_motionAt_4 rfl (lv_at hl 1 rfl) ?_
    refine lv_aload_n hx hb d_ST_motionAt_5 rfl (lv_at hl 0 rfl) ?_
    refine gf_ST_57 hg hw S hP 0 rfl rfl d_ST_motionAt_6 ?_
    refine lv_icmp_lt hx hb d_ST_motionAt_9 (tgt := 22) (by decide) (fun h9 => ?_) (fun h9 => ?_)
    · rw [if_pos h9] at hr0
      refine lv_aload_n hx hb d_ST_motionAt_22 rfl (lv_at hl 0 rfl) ?_
      refine gf_ST_25 hg hw S hP 0 rfl rfl d_ST_motionAt_23 ?_
      refine lv_iload_n hx hb d_ST_motionAt_26 rfl (lv_at hl 1 rfl) ?_
      refine va_aldq hx hb (xg_k hg hw) hP 1 2 rfl rfl (xs_min h1 h9 hC) d_ST_motionAt_27 ?_
      refine W.eq (g2 := F0 m 28 ls [.ref mo]) (by rw [(hM h1 h9)]; rfl) ?_
      subst hr0
      refine W.widen (k := 1) (n := 6) (Nat.le_of_ble_eq_true rfl) (Nat.le_of_ble_eq_true rfl) ?_
      exact xc_aret hx hb ht hl0 xc_F.rf (fun _ h => nomatch h) xt_ro0 d_ST_motionAt_28
    · rw [if_neg h9] at hr0
      subst hr0
      exact th_4 hg hw hO S hl9 hl0 hE sw_234 hl.1 d_ST_motionAt_12 d_ST_motionAt_15 d_ST_motionAt_16 d_ST_motionAt_18 d_ST_motionAt_21 ⟨by decide, by decide, by decide, by decide⟩ ⟨by decide, by decide⟩ (fun _ h => xt_ro1 h)
def g_ST_requireTrustee (trustee : Int32) : Option String := if trustee < 0 then (some xt_NS) else (if trustee < (6 : Int32) then none else (some xt_NS))
set_option maxHeartbeats 4000000 in
set_option maxRecDepth 100000 in
theorem ct_ST_requireTrustee (l : Launch) {G : xg_G} (hg : xg_F G) (hl9 : l.stackTraces = false) (H : Heap) (hO : xg_O G H) (trustee : Int32)  : xc_Met l y_ST_requireTrustee (.code y_ST_requireTrustee b_ST_requireTrustee 1 none) ({ frames := 6, cells := 1, slots := 6, locals := 82 } : Room) (xg_Pc G [.int trustee] H) (xt_ro (g_ST_requireTrustee trustee) none H) (fun _ => False) := by
  refine xc_ofW (by decide) ?_
  intro p e s m args below meth c s₁ B hml hE hv
  obtain ⟨rfl, rfl, hw⟩ := hv
  have hx := B.exec
  have hb := B.bytes
  have ht := B.returns
  have hl0 := B.notSynchronized
  have S : xc_Fix p m c b_ST_requireTrustee 1 s "SealTrust" := ⟨hx, hb, hml, findClass_of_methodNamed B.named⟩
  have hl := lv_entry ([.int trustee]) (n := 1) (Nat.le_of_ble_eq_true rfl)
  rw [lg_entry_eq]
  generalize (lg_sl ([.int trustee]) ++ List.replicate (1 - (lg_sl ([.int trustee])).length) Slot.unset).toArray = ls at hl ⊢
  have hl : lv_has ls 1 [(0, .int trustee)] := hl
  obtain ⟨r0, hr0⟩ : ∃ r, g_ST_requireTrustee trustee = r := ⟨_, rfl⟩
  rw [hr0]
  unfold g_ST_requireTrustee at hr0
  show W p l e ({ frames := 6, cells := 1, slots := 6, locals := 82 } : Room) s m _ below meth c s.heap [] 0 0 (xc_Z below _ _ _ s 1 6) _
  refine lv_iload_n hx hb d_ST_requireTrustee_0 rfl (lv_at hl 0 rfl) ?_
  refine lv_if_lt hx hb d_ST_requireTrustee_1 (tgt := 10) (by decide) (fun h1 => ?_) (fun h1 => ?_)
  · rw [if_pos h1] at hr0
    subst hr0
    exact th_4 hg hw hO S hl9 hl0 hE sw_236 hl.1 d_ST_requireTrustee_10 d_ST_requireTrustee_13 d_ST_requireTrustee_14 d_ST_requireTrustee_16 d_ST_requireTrustee_19 ⟨by decide, by decide, by decide, by decide⟩ ⟨by decide, by decide⟩ (fun _ h => xt_ro1 h)
  · rw [if_neg h1] at hr0
    refine lv_iload_n hx hb d_ST_requireTrustee_4 rfl (lv_at hl 0 rfl) ?_
    refine lv_bipush (v := (6 : Int32)) hx hb d_ST_requireTrustee_5 (by decide) ?_
    refine lv_icmp_lt hx hb d_ST_requireTrustee_7 (tgt := 20) (by decide) (fun h7 => ?_) (fun h7 => ?_)
    · rw [if_pos h7] at hr0
      subst hr0
      refine W.widen (k := 1) (n := 6) (Nat.le_of_ble_eq_true rfl) (Nat.le_of_ble_eq_true rfl) ?_
      exact xc_vret hx hb ht hl0 xc_F.rf (fun _ h => nomatch h) xt_ro0 d_ST_requireTrustee_20
    · rw [if_neg h7] at hr0
      subst hr0
      exact th_4 hg hw hO S hl9 hl0 hE sw_236 hl.1 d_ST_requireTrustee_10 d_ST_requireTrustee_13 d_ST_requireTrustee_14 d_ST_requireTrustee_16 d_ST_requireTrustee_19 ⟨by decide, by decide, by decide, by decide⟩ ⟨by decide, by decide⟩ (fun _ h => xt_ro1 h)
def g_ST_requireOpen (standing : Int32) : Option String := if standing = 0 then none else (some xt_IS)
set_option maxHeartbeats 4000000 in
set_option maxRecDepth 100000 in
theorem ct_ST_requireOpen (l : Launch) {G : xg_G} (hg : xg_F G) (hl9 : l.stackTraces = false) (H : Heap) (hO : xg_O G H) (mo : Nat) (pw : Nat) (cg : Nat) (an : Nat) (standing : Int32) (block : Int64) (partials : Int32) (objections : Int32) (signature : Int64) (hP : va_P G.2.1 cl_all [(mo, .inr (2, [.ref pw, .ref cg, .ref an, .int standing, .long block, .int partials, .int objections, .long signature]))] H)  : xc_Met l y_ST_requireOpen (.code y_ST_requireOpen b_ST_requireOpen 1 none) ({ frames := 6, cells := 1, slots := 6, locals := 82 } : Room) (xg_Pc G [.ref mo] H) (xt_ro (g_ST_requireOpen standing) none H) (fun _ => False) := by
  refine xc_ofW (by decide) ?_
  intro p e s m args below meth c s₁ B hml hE hv
  obtain ⟨rfl, rfl, hw⟩ := hv
  have hx := B.exec
  have hb := B.bytes
  have ht := B.returns
  have hl0 := B.notSynchronized
  have S : xc_Fix p m c b_ST_requireOpen 1 s "SealTrust" := ⟨hx, hb, hml, findClass_of_methodNamed B.named⟩
  have hl := lv_entry ([.ref mo]) (n := 1) (Nat.le_of_ble_eq_true rfl)
  rw [lg_entry_eq]
  generalize (lg_sl ([.ref mo]) ++ List.replicate (1 - (lg_sl ([.ref mo])).length) Slot.unset).toArray = ls at hl ⊢
  have hl : lv_has ls 1 [(0, .ref mo)] := hl
  obtain ⟨r0, hr0⟩ : ∃ r, g_ST_requireOpen standing = r := ⟨_, rfl⟩
  rw [hr0]
  unfold g_ST_requireOpen at hr0
  show W p l e ({ frames := 6, cells := 1, slots := 6, locals := 82 } : Room) s m _ below meth c s.heap [] 0 0 (xc_Z below _ _ _ s 1 6) _
  refine lv_aload_n hx hb d_ST_requireOpen_0 rfl (lv_at hl 0 rfl) ?_
  refine gf_ST_211 hg hw S hP 0 rfl rfl d_ST_requireOpen_1 ?_
  refine lv_if_eq hx hb d_ST_requireOpen_4 (tgt := 17) (by decide) (fun h4 => ?_) (fun h4 => ?_)
  · rw [if_pos h4] at hr0
    subst hr0
    refine W.widen (k := 1) (n := 6) (Nat.le_of_ble_eq_true rfl) (Nat.le_of_ble_eq_true rfl) ?_
    exact xc_vret hx hb ht hl0 xc_F.rf (fun _ h => nomatch h) xt_ro0 d_ST_requireOpen_17
  · rw [if_neg h4] at hr0
    subst hr0
    exact th_2 hg hw hO S hl9 hl0 hE sw_238 hl.1 d_ST_requireOpen_7 d_ST_requireOpen_10 d_ST_requireOpen_11 d_ST_requireOpen_13 d_ST_requireOpen_16 ⟨by decide, by decide, by decide, by decide⟩ ⟨by decide, by decide⟩ (fun _ h => xt_ro1 h)
def g_ST_requireNoVoice (partials : Int32) (objections : Int32) (trustee : Int32) : Option String := if (f_ST_isIn (partials ||| objections) trustee) = 0 then none else (some xt_IS)
set_option maxHeartbeats 4000000 in
set_option maxRecDepth 100000 in
theorem ct_ST_requireNoVoice (l : Launch) {G : xg_G} (hg : xg_F G) (hl9 : l.stackTraces = false) (H : Heap) (hO : xg_O G H) (mo : Nat) (trustee : Int32) (pw : Nat) (cg : Nat) (an : Nat) (standing : Int32) (block : Int64) (partials : Int32) (objections : Int32) (signature : Int64) (hP : va_P G.2.1 cl_all [(mo, .inr (2, [.ref pw, .ref cg, .ref an, .int standing, .long block, .int partials, .int objections, .long signature]))] H)  : xc_Met l y_ST_requireNoVoice (.code y_ST_requireNoVoice b_ST_requireNoVoice 2 none) ({ frames := 6, cells := 1, slots := 6, locals := 82 } : Room) (xg_Pc G [.ref mo, .int trustee] H) (xt_ro (g_ST_requireNoVoice partials objections trustee) none H) (fun _ => False) := by
  refine xc_ofW (by decide) ?_
  intro p e s m args below meth c s₁ B hml hE hv
  obtain ⟨rfl, rfl, hw⟩ := hv
  have hx := B.exec
  have hb := B.bytes
  have ht := B.returns
  have hl0 := B.notSynchronized
  have S : xc_Fix p m c b_ST_requireNoVoice 2 s "SealTrust" := ⟨hx, hb, hml, findClass_of_methodNamed B.named⟩
  have hl := lv_entry ([.ref mo, .int trustee]) (n := 2) (Nat.le_of_ble_eq_true rfl)
  rw [lg_entry_eq]
  generalize (lg_sl ([.ref mo, .int trustee]) ++ List.replicate (2 - (lg_sl ([.ref mo, .int trustee])).length) Slot.unset).toArray = ls at hl ⊢
  have hl : lv_has ls 2 [(0, .ref mo), (1, .int trustee)] := hl
  obtain ⟨r0, hr0⟩ : ∃ r, g_ST_requireNoVoice partials objections trustee = r := ⟨_, rfl⟩
  rw [hr0]
  unfold g_ST_requireNoVoice at hr0
  show W p l e ({ frames := 6, cells := 1, slots := 6, locals := 82 } : Room) s m _ below meth c s.heap [] 0 0 (xc_Z below _ _ _ s 1 6) _
  refine lv_aload_n hx hb d_ST_requireNoVoice_0 rfl (lv_at hl 0 rfl) ?_
  refine gf_ST_135 hg hw S hP 0 rfl rfl d_ST_requireNoVoice_1 ?_
  refine lv_aload_n hx hb d_ST_requireNoVoice_4 rfl (lv_at hl 0 rfl) ?_
  refine gf_ST_126 hg hw S hP 0 rfl rfl d_ST_requireNoVoice_5 ?_
  refine lv_ior hx hb d_ST_requireNoVoice_8 ?_
  refine lv_iload_n hx hb d_ST_requireNoVoice_9 rfl (lv_at hl 1 rfl) ?_
  refine xg_read (xg_runS (rest := []) (kw := 0) si_ST_114 hg hw S (ct_ST_isIn l hg s.heap (partials ||| objections) trustee ) ⟨by decide, by decide, by decide, by decide⟩ rfl hl.1 rfl (Nat.le_of_ble_eq_true rfl) d_ST_requireNoVoice_10) ?_
  refine lv_if_eq hx hb d_ST_requireNoVoice_13 (tgt := 26) (by decide) (fun h13 => ?_) (fun h13 => ?_)
  · rw [if_pos h13] at hr0
    subst hr0
    refine W.widen (k := 1) (n := 6) (Nat.le_of_ble_eq_true rfl) (Nat.le_of_ble_eq_true rfl) ?_
    exact xc_vret hx hb ht hl0 xc_F.rf (fun _ h => nomatch h) xt_ro0 d_ST_requireNoVoice_26
  · rw [if_neg h13] at hr0
    subst hr0
    exact th_2 hg hw hO S hl9 hl0 hE sw_240 hl.1 d_ST_requireNoVoice_16 d_ST_requireNoVoice_19 d_ST_requireNoVoice_20 d_ST_requireNoVoice_22 d_ST_requireNoVoice_25 ⟨by decide, by decide, by decide, by decide⟩ ⟨by decide, by decide⟩ (fun _ h => xt_ro1 h)
