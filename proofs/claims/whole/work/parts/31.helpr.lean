/-! the helper of refresh -/
theorem gi_ST_refresh {a b dealt : Int32} : xt_in [xt_IA, xt_IS] (g_ST_refresh a b dealt) := by
  unfold g_ST_refresh
  repeat' first | exact xt_in0 | exact xt_inS (by decide) | exact xt_inW (gi_ST_requireKey ..) (by decide) | refine xt_inI ?_ ?_ | refine xt_inE ?_ ?_
theorem gv_ST_refresh {E : String} {a b dealt : Int32} (h : g_ST_refresh a b dealt = some E) : E = xt_IA ∨ E = xt_IS := by
  have h1 := gi_ST_refresh _ h
  simpa using h1
set_option maxHeartbeats 4000000 in
set_option maxRecDepth 100000 in
theorem ct_LW_refresh (l : Launch) {G : xg_G} (hg : xg_F G) (hl9 : l.stackTraces = false) (H : Heap) (hO : xg_O G H) (x : Nat) (a b : Int32) (k bu ma se : Nat) (motionCount sealedCount suspended : Int32) (sh ch : Nat) (dealt : Int32) (epoch base whole signing pp qq modulus order : Int64) (shares checks : Nat → Int64) (mot : Nat → Option Nat) (mo pw cg an : Nat → Nat) (standing : Nat → Int32) (block : Nat → Int64) (partials objections : Nat → Int32) (signature : Nat → Int64) (hP : va_P G.2.1 cl_all ([(x, .inr (3, [.ref k, .ref bu, .ref ma, .ref se, .int motionCount, .int sealedCount, .int suspended])), (k, .inr (1, [.ref sh, .ref ch, .int dealt, .long epoch, .long base, .long whole, .long signing, .long pp, .long qq, .long modulus, .long order])), (sh, .inl (G.2.2.2.1, 6, .inr (.inl shares))), (ch, .inl (G.2.2.2.1, 6, .inr (.inl checks))), (ma, .inl (G.2.2.2.2, 12, .inr (.inr (.inr (.inr mot)))))] ++ xp_M mo pw cg an standing block partials objections signature) H) (hD0 : va_D (fun _ => True) ([(x, .inr (3, [.ref k, .ref bu, .ref ma, .ref se, .int motionCount, .int sealedCount, .int suspended])), (k, .inr (1, [.ref sh, .ref ch, .int dealt, .long epoch, .long base, .long whole, .long signing, .long pp, .long qq, .long modulus, .long order])), (sh, .inl (G.2.2.2.1, 6, .inr (.inl shares))), (ch, .inl (G.2.2.2.1, 6, .inr (.inl checks))), (ma, .inl (G.2.2.2.2, 12, .inr (.inr (.inr (.inr mot)))))] ++ xp_M mo pw cg an standing block partials objections signature)) (hC0 : 0 ≤ motionCount.toInt) (hC : motionCount.toInt ≤ 12) (hM : ∀ j, j < 12 → mot j = some (mo j)) :
    xc_Met l y_LW_refresh (.codeWith y_LW_refresh b_LW_refresh 4 (some .int) [(0, 6, 9, 13), (0, 6, 12, 23)]) ({ frames := 8, cells := 8, slots := 48, locals := 108 } : Room) (xg_Pc G [.ref x, .int a, .int b] H) (xw_post G (va_A ([(x, .inr (3, [.ref k, .ref bu, .ref ma, .ref se, .int motionCount, .int sealedCount, .int suspended])), (k, .inr (1, [.ref sh, .ref ch, .int dealt, .long epoch, .long base, .long whole, .long signing, .long pp, .long qq, .long modulus, .long order])), (sh, .inl (G.2.2.2.1, 6, .inr (.inl shares))), (ch, .inl (G.2.2.2.1, 6, .inr (.inl checks))), (ma, .inl (G.2.2.2.2, 12, .inr (.inr (.inr (.inr mot)))))] ++ xp_M mo pw cg an standing block partials objections signature) H.size) (some (.int (xh_c xt_IA xt_IS (g_ST_refresh a b dealt)))) ([(x, .inr (3, [.ref k, .ref bu, .ref ma, .ref se, .int motionCount, .int sealedCount, .int suspended])), (k, .inr (1, [.ref sh, .ref ch, .int dealt, .long (xt_el (g_ST_refresh a b dealt) epoch (epoch + (1 : Int64))), .long base, .long whole, .long signing, .long pp, .long qq, .long modulus, .long order])), (sh, .inl (G.2.2.2.1, 6, .inr (.inl (xt_el (g_ST_refresh a b dealt) shares (f_KE_addPolynomial_SH a.toInt64 b.toInt64 base modulus order shares checks))))), (ch, .inl (G.2.2.2.1, 6, .inr (.inl (xt_el (g_ST_refresh a b dealt) checks (f_KE_addPolynomial_CH a.toInt64 b.toInt64 base modulus order shares checks))))), (ma, .inl (G.2.2.2.2, 12, .inr (.inr (.inr (.inr mot)))))] ++ xp_M mo pw cg an standing block (xt_el (g_ST_refresh a b dealt) partials (xd_pf standing partials motionCount.toInt.toNat)) objections signature)) (va_A ([(x, .inr (3, [.ref k, .ref bu, .ref ma, .ref se, .int motionCount, .int sealedCount, .int suspended])), (k, .inr (1, [.ref sh, .ref ch, .int dealt, .long epoch, .long base, .long whole, .long signing, .long pp, .long qq, .long modulus, .long order])), (sh, .inl (G.2.2.2.1, 6, .inr (.inl shares))), (ch, .inl (G.2.2.2.1, 6, .inr (.inl checks))), (ma, .inl (G.2.2.2.2, 12, .inr (.inr (.inr (.inr mot)))))] ++ xp_M mo pw cg an standing block partials objections signature) H.size) := by
  refine xc_ofWH (by decide) ?_
  intro p e s m args below meth c s₁ B hml hE hv
  obtain ⟨rfl, rfl, hw⟩ := hv
  have hx := B.exec
  have hb := B.bytes
  have ht := B.returns
  have hl0 := B.notSynchronized
  have S : xc_Fix p m c b_LW_refresh 4 s "SealTrustLaw" := ⟨hx, hb, hml, findClass_of_methodNamed B.named⟩
  have hD := hD0.self (sz := s.heap.size)
  generalize hAe : va_A ([(x, .inr (3, [.ref k, .ref bu, .ref ma, .ref se, .int motionCount, .int sealedCount, .int suspended])), (k, .inr (1, [.ref sh, .ref ch, .int dealt, .long epoch, .long base, .long whole, .long signing, .long pp, .long qq, .long modulus, .long order])), (sh, .inl (G.2.2.2.1, 6, .inr (.inl shares))), (ch, .inl (G.2.2.2.1, 6, .inr (.inl checks))), (ma, .inl (G.2.2.2.2, 12, .inr (.inr (.inr (.inr mot)))))] ++ xp_M mo pw cg an standing block partials objections signature) s.heap.size = A at hD ⊢
  have hA : ∀ q : Nat, s.heap.size ≤ q → A q := fun q h => by rw [← hAe]; exact Or.inr h
  have hS : va_S A s.heap s.heap [] := va_S.rf
  have hl := lv_entry ([.ref x, .int a, .int b]) (n := 4) (Nat.le_of_ble_eq_true rfl)
  rw [lg_entry_eq]
  generalize (lg_sl ([.ref x, .int a, .int b]) ++ List.replicate (4 - (lg_sl ([.ref x, .int a, .int b])).length) Slot.unset).toArray = ls at hl ⊢
  have hl : lv_has ls 4 [(0, .ref x), (1, .int a), (2, .int b)] := hl
  obtain ⟨gg, hgg⟩ : ∃ r, g_ST_refresh a b dealt = r := ⟨_, rfl⟩
  rw [hgg]
  show W p l e ({ frames := 8, cells := 8, slots := 48, locals := 108 } : Room) s m _ below meth c s.heap [] 0 0 (xc_Z below _ _ _ s 8 48) _
  refine lv_aload_n hx hb d_LW_refresh_0 rfl (lv_at hl 0 rfl) ?_
  refine lv_iload_n hx hb d_LW_refresh_1 rfl (lv_at hl 1 rfl) ?_
  refine lv_iload_n hx hb d_LW_refresh_2 rfl (lv_at hl 2 rfl) ?_
  refine xh_useW (wc := ([(x, .inr (3, [.ref k, .ref bu, .ref ma, .ref se, .int motionCount, .int sealedCount, .int suspended])), (k, .inr (1, [.ref sh, .ref ch, .int dealt, .long epoch, .long base, .long whole, .long signing, .long pp, .long qq, .long modulus, .long order])), (sh, .inl (G.2.2.2.1, 6, .inr (.inl shares))), (ch, .inl (G.2.2.2.1, 6, .inr (.inl checks))), (ma, .inl (G.2.2.2.2, 12, .inr (.inr (.inr (.inr mot)))))] ++ xp_M mo pw cg an standing block partials objections signature)) (wr := []) (xg_runV (rest := []) (kw := 0) si_LW_56 hg hw S (va_recv (xg_k hg hw) hP (ci := 3) rfl (q0 := 0) rfl) (ct_ST_refresh l hg hl9 s.heap hO x a b k bu ma se motionCount sealedCount suspended sh ch dealt epoch base whole signing pp qq modulus order shares checks mot mo pw cg an standing block partials objections signature hP (hD.weaken (fun _ _ _ _ => trivial)) hC0 hC hM) ⟨by decide, by decide, by decide, by decide⟩ rfl hl.1 rfl (Nat.le_of_ble_eq_true rfl) d_LW_refresh_3) hP hD hS hA [0, 1, 2, 3, 4, 5, 6, 7, 8, 9, 10, 11, 12, 13, 14, 15, 16] [] rfl rfl (by decide) (by decide) (fun h0 H8 L8 hP hD hS => ?_) (fun E9 q9 ce H9 L9 h0 hP hS hce hcv hcl => ?_)
  · rw [hgg] at h0
    subst h0
    have hP : va_P G.2.1 cl_all ([(x, .inr (3, [.ref k, .ref bu, .ref ma, .ref se, .int motionCount, .int sealedCount, .int suspended])), (k, .inr (1, [.ref sh, .ref ch, .int dealt, .long (epoch + (1 : Int64)), .long base, .long whole, .long signing, .long pp, .long qq, .long modulus, .long order])), (sh, .inl (G.2.2.2.1, 6, .inr (.inl (f_KE_addPolynomial_SH a.toInt64 b.toInt64 base modulus order shares checks)))), (ch, .inl (G.2.2.2.1, 6, .inr (.inl (f_KE_addPolynomial_CH a.toInt64 b.toInt64 base modulus order shares checks)))), (ma, .inl (G.2.2.2.2, 12, .inr (.inr (.inr (.inr mot)))))] ++ xp_M mo pw cg an standing block (xd_pf standing partials motionCount.toInt.toNat) objections signature) H8 := hP
    have hD : va_D A ([(x, .inr (3, [.ref k, .ref bu, .ref ma, .ref se, .int motionCount, .int sealedCount, .int suspended])), (k, .inr (1, [.ref sh, .ref ch, .int dealt, .long (epoch + (1 : Int64)), .long base, .long whole, .long signing, .long pp, .long qq, .long modulus, .long order])), (sh, .inl (G.2.2.2.1, 6, .inr (.inl (f_KE_addPolynomial_SH a.toInt64 b.toInt64 base modulus order shares checks)))), (ch, .inl (G.2.2.2.1, 6, .inr (.inl (f_KE_addPolynomial_CH a.toInt64 b.toInt64 base modulus order shares checks)))), (ma, .inl (G.2.2.2.2, 12, .inr (.inr (.inr (.inr mot)))))] ++ xp_M mo pw cg an standing block (xd_pf standing partials motionCount.toInt.toNat) objections signature) := hD
    refine lv_goto hx hb d_LW_refresh_6 (tgt := 15) (by decide) ?_
    refine lv_iconst (v := (0 : Int32)) hx hb d_LW_refresh_15 (by decide) ?_
    refine W.widen (k := 8) (n := 48) (Nat.le_of_ble_eq_true rfl) (Nat.le_of_ble_eq_true rfl) ?_
    exact xw_iret hx hb ht hl0 hP hD hS d_LW_refresh_16
  · have h1 := gv_ST_refresh h0
    rw [hgg] at h0
    subst h0
    rcases h1 with rfl | rfl
    · refine xh_1 hE ⟨by decide, by decide⟩ (by decide) hg hw S.2.2.2 xh_k1 xh_s1 hce hcv hcl ?_
      rw [show xh_c xt_IA xt_IS (some xt_IA) = 1 from xh_e1]
      refine lv_astore_n hx hb d_LW_refresh_9 rfl hl (by decide) rfl (fun ls hl => ?_)
      refine lv_iconst (v := (1 : Int32)) hx hb d_LW_refresh_10 (by decide) ?_
      refine W.widen (k := 8) (n := 48) (Nat.le_of_ble_eq_true rfl) (Nat.le_of_ble_eq_true rfl) ?_
      exact xw_iret hx hb ht hl0 hP hD hS d_LW_refresh_11
    · refine xh_2 (E1 := xt_IA) hE ⟨by decide, by decide⟩ (by decide) (by decide) hg hw S.2.2.2 xh_k1 (by decide +kernel) xh_k2 xh_s2 hce hcv hcl ?_
      rw [show xh_c xt_IA xt_IS (some xt_IS) = 2 from (xh_e2 (by decide))]
      refine lv_astore_n hx hb d_LW_refresh_12 rfl hl (by decide) rfl (fun ls hl => ?_)
      refine lv_iconst (v := (2 : Int32)) hx hb d_LW_refresh_13 (by decide) ?_
      refine W.widen (k := 8) (n := 48) (Nat.le_of_ble_eq_true rfl) (Nat.le_of_ble_eq_true rfl) ?_
      exact xw_iret hx hb ht hl0 hP hD hS d_LW_refresh_14
