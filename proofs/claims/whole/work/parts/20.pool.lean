/-! the twelve motions as one row of cells; dropOpenPartials -/
section XPO
def xp_c (mo pw cg an : Nat → Nat) (standing : Nat → Int32) (block : Nat → Int64) (partials objections : Nat → Int32) (signature : Nat → Int64) (k : Nat) : Nat × va_E := (mo k, .inr (2, [.ref (pw k), .ref (cg k), .ref (an k), .int (standing k), .long (block k), .int (partials k), .int (objections k), .long (signature k)]))
def xp_M (mo pw cg an : Nat → Nat) (standing : Nat → Int32) (block : Nat → Int64) (partials objections : Nat → Int32) (signature : Nat → Int64) : va_W := (List.range 12).map (xp_c mo pw cg an standing block partials objections signature)
theorem xp_at {mo pw cg an : Nat → Nat} {standing : Nat → Int32} {block : Nat → Int64} {partials objections : Nat → Int32} {signature : Nat → Int64} {k : Nat} (hk : k < 12) : (xp_M mo pw cg an standing block partials objections signature)[k]? = some (xp_c mo pw cg an standing block partials objections signature k) := by
  unfold xp_M
  rw [List.getElem?_map, List.getElem?_range hk]
  rfl
theorem xp_lt {mo pw cg an : Nat → Nat} {standing : Nat → Int32} {block : Nat → Int64} {partials objections : Nat → Int32} {signature : Nat → Int64} {k : Nat} {q : Nat × va_E} (h : (xp_M mo pw cg an standing block partials objections signature)[k]? = some q) : k < 12 := by
  have h1 := (List.getElem?_eq_some_iff.mp h).1
  unfold xp_M at h1
  simpa using h1
/-- which partials a refresh leaves, of the first i motions -/
def xd_pf (standing partials : Nat → Int32) (i : Nat) : Nat → Int32 := fun k => if k < i ∧ standing k = 0 then 0 else partials k
theorem xd_0 (standing partials : Nat → Int32) : xd_pf standing partials 0 = partials := by
  funext k
  unfold xd_pf
  rw [if_neg (by omega)]
theorem xd_keep {standing partials : Nat → Int32} {i : Nat} (h : ¬ standing i = 0) : xd_pf standing partials (i + 1) = xd_pf standing partials i := by
  funext k
  unfold xd_pf
  by_cases h1 : k < i ∧ standing k = 0
  · rw [if_pos h1, if_pos ⟨by omega, h1.2⟩]
  · rw [if_neg h1]
    by_cases h2 : k < i + 1 ∧ standing k = 0
    · exfalso
      by_cases h3 : k = i
      · rw [h3] at h2
        exact h h2.2
      · exact h1 ⟨by omega, h2.2⟩
    · rw [if_neg h2]
theorem xd_at {standing partials : Nat → Int32} {i : Nat} (h : standing i = 0) : xd_pf standing partials (i + 1) i = 0 := by
  unfold xd_pf
  rw [if_pos ⟨by omega, h⟩]
theorem xd_ne {standing partials : Nat → Int32} {i k : Nat} (h : ¬ k = i) : xd_pf standing partials (i + 1) k = xd_pf standing partials i k := by
  unfold xd_pf
  by_cases h1 : k < i
  · by_cases h2 : standing k = 0
    · rw [if_pos ⟨by omega, h2⟩, if_pos ⟨h1, h2⟩]
    · rw [if_neg (fun z => h2 z.2), if_neg (fun z => h2 z.2)]
  · rw [if_neg (fun z => by have := z.1; omega), if_neg (fun z => h1 z.1)]
variable {p : Program} {l : Launch} {e : Env} {R : Room} {s : State} {m : MethodId} {args : Array Value} {below : List Frame} {meth : Method} {c : Code} {H H0 : Heap} {locs : List Loc} {cells slots : Nat} {Q : State → Prop} {pc : Nat} {ls : Array Slot} {rest st0 : List Value} {cc : ByteArray} {G : xg_G} {A : Nat → Prop} {ws wc wn ws1 : va_W} {v : Option Value} {mc ms : Nat}
/-- a call that changes the one cell at place i -/
theorem xw_useI {i : Nat} {x x1 : Nat × va_E} (hr : xc_Run p l e R s m args below meth c H locs cells slots (F0 m pc ls st0) rest mc ms (xw_post G (va_A [x] H.size) v [x1]) (va_A [x] H.size))
    (hP : va_P G.2.1 cl_all ws H) (hD : va_D A ws) (hS : va_S A H0 H locs) (hA : ∀ q, H0.size ≤ q → A q) (hi : ws[i]? = some x) (hi1 : ws1[i]? = some x1) (hx : x1.1 = x.1) (hk : ∀ j, ¬ j = i → ws1[j]? = ws[j]?)
    (k : ∀ (H1 : Heap) (locs1 : List Loc), va_P G.2.1 cl_all ws1 H1 → va_D A ws1 → va_S A H0 H1 locs1 → W p l e R s m args below meth c H1 locs1 (cells + mc) (slots + ms) Q (F0 m (pc + 3) ls (v.toList ++ rest))) :
    W p l e R s m args below meth c H locs cells slots Q (F0 m pc ls st0) := by
  have hFc : ∀ q, va_A [x] H.size q → A q := va_free (wc := [x]) hD hS hA [i] (by simp [hi])
  refine xc_use hr (fun v' H1 L hp hF hL => ?_) (fun q E ce H1 L hp => nomatch hp.1)
  obtain ⟨h1, hP1, -⟩ := hp
  cases h1
  refine k H1 _ (fun j q hq => ?_) ⟨fun j j2 q q2 hq hq2 he => ?_, fun j q hq => ?_⟩ (xw_S hS hF hFc hL)
  · by_cases hj : j = i
    · subst hj
      rw [hi1] at hq
      cases hq
      exact hP1 0 _ rfl
    · rw [hk j hj] at hq
      have hl := (hP j q hq).lt
      refine (hP j q hq).kept (hF.2 _ hl (fun z => ?_))
      rcases z with ⟨k2, e2, h2⟩ | h2
      · have hz : k2 < 1 := (List.getElem?_eq_some_iff.mp h2).1
        rw [show k2 = 0 by omega] at h2
        have h3 : x = (q.1, e2) := Option.some.inj h2
        exact hj (hD.1 j i q x hq hi (by rw [h3]))
      · omega
  · by_cases hj : j = i
    · subst hj
      rw [hi1] at hq
      cases hq
      by_cases hj2 : j2 = j
      · exact hj2.symm
      · rw [hk j2 hj2] at hq2
        exact hD.1 j j2 x q2 hi hq2 (by rw [← hx]; exact he)
    · rw [hk j hj] at hq
      by_cases hj2 : j2 = i
      · subst hj2
        rw [hi1] at hq2
        cases hq2
        exact hD.1 j j2 q x hq hi (by rw [← hx]; exact he)
      · rw [hk j2 hj2] at hq2
        exact hD.1 j j2 q q2 hq hq2 he
  · by_cases hj : j = i
    · subst hj
      rw [hi1] at hq
      cases hq
      rw [hx]
      exact hD.2 j x hi
    · rw [hk j hj] at hq
      exact hD.2 j q hq
end XPO
section XPD
abbrev xd_tr (x k bu ma se : Nat) (motionCount sealedCount suspended : Int32) : Nat × va_E := (x, .inr (3, [.ref k, .ref bu, .ref ma, .ref se, .int motionCount, .int sealedCount, .int suspended]))
abbrev xd_ma (G : xg_G) (ma : Nat) (mot : Nat → Option Nat) : Nat × va_E := (ma, .inl (G.2.2.2.2, 12, .inr (.inr (.inr (.inr mot)))))
set_option maxHeartbeats 4000000 in
set_option maxRecDepth 100000 in
theorem wl_ST_dropOpenPartials {p : Program} {l : Launch} {e : Env} {s : State} {m : MethodId} {args : Array Value} {below : List Frame} {meth : Method} {c : Code} {G : xg_G} {A : Nat → Prop} {x k bu ma se : Nat} {motionCount sealedCount suspended : Int32} {mot : Nat → Option Nat} {mo pw cg an : Nat → Nat} {standing : Nat → Int32} {block : Nat → Int64} {partials objections : Nat → Int32} {signature : Nat → Int64}
    (hg : xg_F G) (hw : G.1.WarmedH s.vm) (S : xc_Fix p m c b_ST_dropOpenPartials 2 s "SealTrust") (hl0 : meth.locks = false) (ht : meth.sig.returnType = none) (hA : ∀ q, s.heap.size ≤ q → A q) (hC0 : 0 ≤ motionCount.toInt) (hC : motionCount.toInt ≤ 12) (hM : ∀ j, j < 12 → mot j = some (mo j)) :
    ∀ (n : Nat) (i : Int32) (ls : Array Slot) (H9 : Heap) (L9 : List Loc), (0 ≤ i.toInt ∧ i.toInt ≤ motionCount.toInt ∧ (motionCount.toInt - i.toInt).toNat < n) → lv_has ls 2 [(1, .int i), (0, .ref x)] →
      va_P G.2.1 cl_all ([xd_tr x k bu ma se motionCount sealedCount suspended, xd_ma G ma mot] ++ xp_M mo pw cg an standing block (xd_pf standing partials i.toInt.toNat) objections signature) H9 → va_D A ([xd_tr x k bu ma se motionCount sealedCount suspended, xd_ma G ma mot] ++ xp_M mo pw cg an standing block (xd_pf standing partials i.toInt.toNat) objections signature) → va_S A s.heap H9 L9 →
      W p l e ({ frames := 1, cells := 0, slots := 0, locals := 13 } : Room) s m args below meth c H9 L9 0 0 (xw_Z G below A none ([xd_tr x k bu ma se motionCount sealedCount suspended, xd_ma G ma mot] ++ xp_M mo pw cg an standing block (xd_pf standing partials motionCount.toInt.toNat) objections signature) args s 0 0) (F0 m 2 ls []) := by
  have hx := S.1
  have hb := S.2.1
  intro n
  induction n with
  | zero =>
    intro i ls H9 L9 hmu
    omega
  | succ n ih =>
    intro i ls H9 L9 hmu hl hP hD hS
    refine lv_iload_n hx hb d_ST_dropOpenPartials_2 rfl (lv_at hl 0 rfl) ?_
    refine lv_aload_n hx hb d_ST_dropOpenPartials_3 rfl (lv_at hl 1 rfl) ?_
    refine gf_ST_57 hg hw S hP 0 rfl rfl d_ST_dropOpenPartials_4 ?_
    refine lv_icmp_ge hx hb d_ST_dropOpenPartials_7 (tgt := 37) (by decide) (fun h7 => ?_) (fun h7 => ?_)
    · rw [Int32.le_iff_toInt_le] at h7
      have h8 : i.toInt = motionCount.toInt := by omega
      rw [h8] at hP hD
      exact xw_vret hx hb ht hl0 hP hD hS d_ST_dropOpenPartials_37
    · have h7' := h7
      rw [Int32.le_iff_toInt_le] at h7'
      have hin : vp_in i 12 := vp_in_iff.mpr ⟨hmu.1, by omega⟩
      have hcl : i.toNatClampNeg = i.toInt.toNat := rfl
      have h12 : i.toInt.toNat < 12 := by omega
      have hup : (i + 1).toInt = i.toInt + 1 := xi_inc (by omega)
      have hup2 : (i + 1).toInt.toNat = i.toInt.toNat + 1 := by omega
      have hcell : ([xd_tr x k bu ma se motionCount sealedCount suspended, xd_ma G ma mot] ++ xp_M mo pw cg an standing block (xd_pf standing partials i.toInt.toNat) objections signature)[i.toInt.toNat + 2]? = some (mo i.toInt.toNat, .inr (2, [.ref (pw i.toInt.toNat), .ref (cg i.toInt.toNat), .ref (an i.toInt.toNat), .int (standing i.toInt.toNat), .long (block i.toInt.toNat), .int (xd_pf standing partials i.toInt.toNat i.toInt.toNat), .int (objections i.toInt.toNat), .long (signature i.toInt.toNat)])) := xp_at h12
      refine lv_aload_n hx hb d_ST_dropOpenPartials_10 rfl (lv_at hl 1 rfl) ?_
      refine gf_ST_25 hg hw S hP 0 rfl rfl d_ST_dropOpenPartials_11 ?_
      refine lv_iload_n hx hb d_ST_dropOpenPartials_14 rfl (lv_at hl 0 rfl) ?_
      refine va_aldq hx hb (xg_k hg hw) hP 1 2 rfl rfl hin d_ST_dropOpenPartials_15 ?_
      refine W.eq (g2 := F0 m 16 ls [.ref (mo i.toInt.toNat)]) (by rw [hcl, hM _ h12]; rfl) ?_
      refine gf_ST_211 hg hw S hP (i.toInt.toNat + 2) hcell rfl d_ST_dropOpenPartials_16 ?_
      refine lv_if_ne hx hb d_ST_dropOpenPartials_19 (tgt := 31) (by decide) (fun h19 => ?_) (fun h19 => ?_)
      · refine lv_iinc (v := i + (1 : Int32)) hx hb d_ST_dropOpenPartials_31 hl (k := 0) rfl rfl (by decide) rfl (fun ls hl => ?_)
        have hl : lv_has ls 2 [(1, .int (i + (1 : Int32))), (0, .ref x)] := hl
        refine lv_goto hx hb d_ST_dropOpenPartials_34 (tgt := 2) (by decide) ?_
        rw [← xd_keep (partials := partials) h19, ← hup2] at hP hD
        exact ih (i + 1) ls H9 L9 (by omega) hl hP hD hS
      · refine lv_aload_n hx hb d_ST_dropOpenPartials_22 rfl (lv_at hl 1 rfl) ?_
        refine gf_ST_25 hg hw S hP 0 rfl rfl d_ST_dropOpenPartials_23 ?_
        refine lv_iload_n hx hb d_ST_dropOpenPartials_26 rfl (lv_at hl 0 rfl) ?_
        refine va_aldq hx hb (xg_k hg hw) hP 1 2 rfl rfl hin d_ST_dropOpenPartials_27 ?_
        refine W.eq (g2 := F0 m 28 ls [.ref (mo i.toInt.toNat)]) (by rw [hcl, hM _ h12]; rfl) ?_
        refine xw_useI (i := i.toInt.toNat + 2) (ws1 := [xd_tr x k bu ma se motionCount sealedCount suspended, xd_ma G ma mot] ++ xp_M mo pw cg an standing block (xd_pf standing partials (i.toInt.toNat + 1)) objections signature)
          (xg_runV (rest := []) (kw := 0) si_ST_246 hg hw S (va_recv (xg_k hg hw) hP (ci := 2) rfl (q0 := i.toInt.toNat + 2) hcell) (ct_MO_dropPartials l hg H9 (mo i.toInt.toNat) (pw i.toInt.toNat) (cg i.toInt.toNat) (an i.toInt.toNat) (standing i.toInt.toNat) (block i.toInt.toNat) (xd_pf standing partials i.toInt.toNat i.toInt.toNat) (objections i.toInt.toNat) (signature i.toInt.toNat) (hP.sub [i.toInt.toNat + 2] (by rw [List.filterMap_cons, hcell]; rfl)) ⟨fun a b _ _ h1 h2 _ => by
              have z1 := (List.getElem?_eq_some_iff.mp h1).1
              have z2 := (List.getElem?_eq_some_iff.mp h2).1
              simp only [List.length_cons, List.length_nil] at z1 z2
              omega, fun _ _ _ => trivial⟩) ⟨by decide, by decide, by decide, by decide⟩ rfl hl.1 rfl (Nat.le_of_ble_eq_true rfl) d_ST_dropOpenPartials_28) hP hD hS hA hcell
          (by
            show (xp_M mo pw cg an standing block (xd_pf standing partials (i.toInt.toNat + 1)) objections signature)[i.toInt.toNat]? = _
            rw [xp_at h12]
            unfold xp_c
            rw [xd_at h19]
            rfl) rfl (fun j hj => ?_) (fun H1 L1 hP hD hS => ?_)
        · match j with
          | 0 => rfl
          | 1 => rfl
          | j + 2 =>
            show (xp_M mo pw cg an standing block (xd_pf standing partials (i.toInt.toNat + 1)) objections signature)[j]? = (xp_M mo pw cg an standing block (xd_pf standing partials i.toInt.toNat) objections signature)[j]?
            unfold xp_M
            rw [List.getElem?_map, List.getElem?_map]
            cases hr : (List.range 12)[j]? with
            | none => rfl
            | some t =>
              have ht9 : t = j := by
                obtain ⟨z1, z2⟩ := List.getElem?_eq_some_iff.mp hr
                rw [List.getElem_range] at z2
                exact z2.symm
              subst ht9
              unfold xp_c
              simp only [Option.map_some]
              rw [xd_ne (by omega)]
        · refine lv_iinc (v := i + (1 : Int32)) hx hb d_ST_dropOpenPartials_31 hl (k := 0) rfl rfl (by decide) rfl (fun ls hl => ?_)
          have hl : lv_has ls 2 [(1, .int (i + (1 : Int32))), (0, .ref x)] := hl
          refine lv_goto hx hb d_ST_dropOpenPartials_34 (tgt := 2) (by decide) ?_
          rw [← hup2] at hP hD
          exact ih (i + 1) ls H1 L1 (by omega) hl hP hD hS
set_option maxHeartbeats 4000000 in
set_option maxRecDepth 100000 in
theorem ct_ST_dropOpenPartials (l : Launch) {G : xg_G} (hg : xg_F G) (H : Heap) (x k bu ma se : Nat) (motionCount sealedCount suspended : Int32) (mot : Nat → Option Nat) (mo pw cg an : Nat → Nat) (standing : Nat → Int32) (block : Nat → Int64) (partials objections : Nat → Int32) (signature : Nat → Int64)
    (hP : va_P G.2.1 cl_all ([xd_tr x k bu ma se motionCount sealedCount suspended, xd_ma G ma mot] ++ xp_M mo pw cg an standing block partials objections signature) H) (hD0 : va_D (fun _ => True) ([xd_tr x k bu ma se motionCount sealedCount suspended, xd_ma G ma mot] ++ xp_M mo pw cg an standing block partials objections signature)) (hC0 : 0 ≤ motionCount.toInt) (hC : motionCount.toInt ≤ 12) (hM : ∀ j, j < 12 → mot j = some (mo j)) :
    xc_Met l y_ST_dropOpenPartials (.code y_ST_dropOpenPartials b_ST_dropOpenPartials 2 none) ({ frames := 1, cells := 0, slots := 0, locals := 13 } : Room) (xg_Pc G [.ref x] H) (xw_post G (va_A ([xd_tr x k bu ma se motionCount sealedCount suspended, xd_ma G ma mot] ++ xp_M mo pw cg an standing block partials objections signature) H.size) none ([xd_tr x k bu ma se motionCount sealedCount suspended, xd_ma G ma mot] ++ xp_M mo pw cg an standing block (xd_pf standing partials motionCount.toInt.toNat) objections signature)) (va_A ([xd_tr x k bu ma se motionCount sealedCount suspended, xd_ma G ma mot] ++ xp_M mo pw cg an standing block partials objections signature) H.size) := by
  refine xc_ofW (by decide) ?_
  intro p e s m args below meth c s₁ B hml hE hv
  obtain ⟨rfl, rfl, hw⟩ := hv
  have hx := B.exec
  have hb := B.bytes
  have ht := B.returns
  have hl0 := B.notSynchronized
  have S : xc_Fix p m c b_ST_dropOpenPartials 2 s "SealTrust" := ⟨hx, hb, hml, findClass_of_methodNamed B.named⟩
  have hD := hD0.self (sz := s.heap.size)
  generalize hAe : va_A ([xd_tr x k bu ma se motionCount sealedCount suspended, xd_ma G ma mot] ++ xp_M mo pw cg an standing block partials objections signature) s.heap.size = A at hD ⊢
  have hA : ∀ q : Nat, s.heap.size ≤ q → A q := fun q h => by rw [← hAe]; exact Or.inr h
  have hS : va_S A s.heap s.heap [] := va_S.rf
  have hl := lv_entry ([.ref x]) (n := 2) (Nat.le_of_ble_eq_true rfl)
  rw [lg_entry_eq]
  generalize (lg_sl ([.ref x]) ++ List.replicate (2 - (lg_sl ([.ref x])).length) Slot.unset).toArray = ls at hl ⊢
  have hl : lv_has ls 2 [(0, .ref x)] := hl
  refine lv_iconst (v := (0 : Int32)) hx hb d_ST_dropOpenPartials_0 (by decide) ?_
  refine lv_istore_n hx hb d_ST_dropOpenPartials_1 rfl hl (by decide) rfl (fun ls hl => ?_)
  have hl : lv_has ls 2 [(1, .int (0 : Int32)), (0, .ref x)] := hl
  have h0 : (0 : Int32).toInt.toNat = 0 := rfl
  exact wl_ST_dropOpenPartials hg hw S hl0 ht hA hC0 hC hM 13 0 ls s.heap [] (by rw [show (0 : Int32).toInt = 0 from rfl]; omega) hl (by rw [h0, xd_0]; exact hP) (by rw [h0, xd_0]; exact hD) hS
end XPD
