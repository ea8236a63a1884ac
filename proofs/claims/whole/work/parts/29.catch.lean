/-! the law's helpers: a call that may throw, inside a table of handlers -/
section XHC
/-- the number that the law gives to what was thrown -/
def xh_c (E1 E2 : String) (g : Option String) : Int32 := match g with
  | none => 0
  | some E => if E = E1 then 1 else (if E = E2 then 2 else 3)
theorem xh_k1 : Cond.classLink "SealTrustLaw" 13 xt_IA ∈ lw_tbl := by decide +kernel
theorem xh_k2 : Cond.classLink "SealTrustLaw" 23 xt_IS ∈ lw_tbl := by decide +kernel
theorem xh_k3 : Cond.classLink "SealTrustLaw" 50 xt_AR ∈ lw_tbl := by decide +kernel
theorem xh_k4 : Cond.classLink "SealTrustLaw" 29 xt_NS ∈ lw_tbl := by decide +kernel
theorem xh_s1 : Cond.castable xt_IA xt_IA ∈ lw_tbl := by decide +kernel
theorem xh_s2 : Cond.castable xt_IS xt_IS ∈ lw_tbl := by decide +kernel
theorem xh_s3 : Cond.castable xt_AR xt_AR ∈ lw_tbl := by decide +kernel
theorem xh_s4 : Cond.castable xt_NS xt_NS ∈ lw_tbl := by decide +kernel
variable {p : Program} {l : Launch} {e : Env} {R : Room} {s : State} {m : MethodId} {args : Array Value} {below : List Frame} {meth : Method} {c : Code} {H H0 : Heap} {locs : List Loc} {cells slots : Nat} {Q : State → Prop} {pc : Nat} {ls : Array Slot} {rest st0 : List Value} {cc : ByteArray} {G : xg_G} {A : Nat → Prop} {ws wc wr wn : va_W} {v : Option Value} {mc ms : Nat} {g : Option String}
abbrev xh_T (c : Code) : List (Nat × Nat × Nat × Nat) := c.exceptionTable.toList.map (fun h => (h.startPc, h.endPc, h.handlerPc, h.catchType))
theorem xh_keep {H1 : Heap} (hP : va_P G.2.1 cl_all ws H) (h : xc_F (fun _ => False) H H1) : va_P G.2.1 cl_all ws H1 := hP.kept (fun i q hq => h.2 q.1 (hP i q hq).lt (fun z => z))
theorem xh_useW (hr : xc_Run p l e R s m args below meth c H locs cells slots (F0 m pc ls st0) rest mc ms (xt_wr G (va_A wc H.size) g v wn H) (va_A wc H.size))
    (hP : va_P G.2.1 cl_all ws H) (hD : va_D A ws) (hS : va_S A H0 H locs) (hA : ∀ q, H0.size ≤ q → A q) (isC isR : List Nat) (hC : isC.map (fun i => ws[i]?) = wc.map some) (hR : isR.map (fun i => ws[i]?) = wr.map some) (hn : va_nd isR = true) (hdis : ∀ i ∈ isR, i ∉ isC)
    (k0 : g = none → ∀ (H1 : Heap) (locs1 : List Loc), va_P G.2.1 cl_all (wr ++ wn) H1 → va_D A (wr ++ wn) → va_S A H0 H1 locs1 → W p l e R s m args below meth c H1 locs1 (cells + mc) (slots + ms) Q (F0 m (pc + 3) ls (v.toList ++ rest)))
    (k1 : ∀ (E : String) (q : Addr) (ce : Cell) (H1 : Heap) (locs1 : List Loc), g = some E → va_P G.2.1 cl_all ws H1 → va_S A H0 H1 locs1 → H1[q]? = some ce → ce.vm = .none → s.vm.findClass E = some ce.cls → xc_W p l e R s m args below meth c H1 locs1 (cells + mc) (slots + ms) Q (F0 m pc ls rest) q) :
    W p l e R s m args below meth c H locs cells slots Q (F0 m pc ls st0) := by
  have hFc := va_free (wc := wc) hD hS hA isC hC
  refine xc_use hr (fun v' H1 L hp hF hL => ?_) (fun q E ce H1 L hp hF hL hce hcv hcl => ?_)
  · rcases hp with ⟨h3, h4, hP1, hD1⟩ | ⟨E, h3, h4, h5⟩
    · cases h4
      obtain ⟨hP2, hD2⟩ := va_join (wr := wr) (w1 := wn) hP hD isC isR hC hR hn hdis hF.2 hFc hP1 hD1
      exact k0 h3 H1 _ hP2 hD2 (xw_S hS hF hFc hL)
    · cases h4
  · rcases hp with ⟨h3, h4, -⟩ | ⟨E', h3, h4, h5⟩
    · cases h4
    · cases h4
      exact k1 E q ce H1 _ h3 (xh_keep hP h5) (xw_S hS hF hFc hL) hce hcv hcl
theorem xh_useR (hr : xc_Run p l e R s m args below meth c H locs cells slots (F0 m pc ls st0) rest mc ms (xt_ro g v H) (fun _ => False))
    (hP : va_P G.2.1 cl_all ws H) (hS : va_S A H0 H locs)
    (k0 : g = none → W p l e R s m args below meth c H locs (cells + mc) (slots + ms) Q (F0 m (pc + 3) ls (v.toList ++ rest)))
    (k1 : ∀ (E : String) (q : Addr) (ce : Cell) (H1 : Heap) (locs1 : List Loc), g = some E → va_P G.2.1 cl_all ws H1 → va_S A H0 H1 locs1 → H1[q]? = some ce → ce.vm = .none → s.vm.findClass E = some ce.cls → xc_W p l e R s m args below meth c H1 locs1 (cells + mc) (slots + ms) Q (F0 m pc ls rest) q) :
    W p l e R s m args below meth c H locs cells slots Q (F0 m pc ls st0) := by
  refine xc_use hr (fun v' H1 L hp hF hL => ?_) (fun q E ce H1 L hp hF hL hce hcv hcl => ?_)
  · rcases hp with ⟨h3, h4, h5⟩ | ⟨E, h3, h4, h5⟩
    · cases h4
      subst h5
      rw [xc_nil hL, List.append_nil]
      exact k0 h3
    · cases h4
  · rcases hp with ⟨h3, h4, -⟩ | ⟨E', h3, h4, h5⟩
    · cases h4
    · cases h4
      rw [xc_nil hL, List.append_nil]
      exact k1 E q ce H1 _ h3 (xh_keep hP h5) ⟨Nat.le_trans hS.1 h5.1, fun q h1 h2 => (h5.2 q (Nat.lt_of_lt_of_le h1 hS.1) (fun z => z)).trans (hS.2.1 q h1 h2), hS.2.2⟩ hce hcv hcl
theorem xh_1 {E : String} {q : Addr} {ce : Cell} {n1 e1 h1 t1 : Nat} {tl : List (Nat × Nat × Nat × Nat)} (hE : xh_T c = (n1, e1, h1, t1) :: tl) (hcov : n1 ≤ pc ∧ pc < e1) (ht1 : t1 ≠ 0) (hg : xg_F G) (hw : G.1.WarmedH s.vm) (hown : s.vm.findClass "SealTrustLaw" = some m.cls)
    (hk : Cond.classLink "SealTrustLaw" t1 E ∈ lw_tbl) (hs : Cond.castable E E ∈ lw_tbl) (hce : H[q]? = some ce) (hcv : ce.vm = .none) (hcl : s.vm.findClass E = some ce.cls) (kk : W p l e R s m args below meth c H locs cells slots Q (F0 m h1 ls [.ref q])) :
    xc_W p l e R s m args below meth c H locs cells slots Q (F0 m pc ls rest) q := by
  obtain ⟨x, suf, hx0, hx1, -⟩ := List.map_eq_cons_iff.mp hE
  simp only [Prod.mk.injEq] at hx1
  obtain ⟨a1, a2, a3, a4⟩ := hx1
  refine xg_catch (own := "SealTrustLaw") (name := E) hown [] x suf hx0 (fun z hz => nomatch hz) (by simp [covers, a1, a2, hcov]) (by rw [a4]; exact ht1) (by rw [a4]; exact xg_w hg hw hk rfl args) (xg_w hg hw hs rfl args) hce hcv hcl ?_
  rw [a3]
  exact kk
theorem xh_2 {E E1 : String} {q : Addr} {ce : Cell} {n1 e1 h1 t1 n2 e2 h2 t2 : Nat} {tl : List (Nat × Nat × Nat × Nat)} (hE : xh_T c = (n1, e1, h1, t1) :: (n2, e2, h2, t2) :: tl) (hcov : n2 ≤ pc ∧ pc < e2) (ht1 : t1 ≠ 0) (ht2 : t2 ≠ 0) (hg : xg_F G) (hw : G.1.WarmedH s.vm) (hown : s.vm.findClass "SealTrustLaw" = some m.cls)
    (hk1 : Cond.classLink "SealTrustLaw" t1 E1 ∈ lw_tbl) (hne : (E, E1) ∈ xg_ne) (hk : Cond.classLink "SealTrustLaw" t2 E ∈ lw_tbl) (hs : Cond.castable E E ∈ lw_tbl) (hce : H[q]? = some ce) (hcv : ce.vm = .none) (hcl : s.vm.findClass E = some ce.cls) (kk : W p l e R s m args below meth c H locs cells slots Q (F0 m h2 ls [.ref q])) :
    xc_W p l e R s m args below meth c H locs cells slots Q (F0 m pc ls rest) q := by
  obtain ⟨x, suf, hx0, hx1, hx2⟩ := List.map_eq_cons_iff.mp hE
  obtain ⟨y, suf2, hy0, hy1, -⟩ := List.map_eq_cons_iff.mp hx2
  simp only [Prod.mk.injEq] at hx1 hy1
  obtain ⟨a1, a2, a3, a4⟩ := hx1
  obtain ⟨b1, b2, b3, b4⟩ := hy1
  refine xg_catch (own := "SealTrustLaw") (name := E) hown [x] y suf2 (by rw [hx0, hy0]; rfl) (fun z hz => ?_) (by simp [covers, b1, b2, hcov]) (by rw [b4]; exact ht2) (by rw [b4]; exact xg_w hg hw hk rfl args) (xg_w hg hw hs rfl args) hce hcv hcl ?_
  · rw [List.mem_singleton.mp hz, a4]
    exact ⟨ht1, E1, xg_w hg hw hk1 rfl args, va_Nc.moved hw.alike (hg.2.2.2.2 _ hne)⟩
  rw [b3]
  exact kk
theorem xh_3 {E E1 E2 : String} {q : Addr} {ce : Cell} {n1 e1 h1 t1 n2 e2 h2 t2 n3 e3 h3 t3 : Nat} {tl : List (Nat × Nat × Nat × Nat)} (hE : xh_T c = (n1, e1, h1, t1) :: (n2, e2, h2, t2) :: (n3, e3, h3, t3) :: tl) (hcov : n3 ≤ pc ∧ pc < e3) (ht1 : t1 ≠ 0) (ht2 : t2 ≠ 0) (ht3 : t3 ≠ 0) (hg : xg_F G) (hw : G.1.WarmedH s.vm) (hown : s.vm.findClass "SealTrustLaw" = some m.cls)
    (hk1 : Cond.classLink "SealTrustLaw" t1 E1 ∈ lw_tbl) (hne : (E, E1) ∈ xg_ne) (hk2 : Cond.classLink "SealTrustLaw" t2 E2 ∈ lw_tbl) (hne2 : (E, E2) ∈ xg_ne) (hk : Cond.classLink "SealTrustLaw" t3 E ∈ lw_tbl) (hs : Cond.castable E E ∈ lw_tbl) (hce : H[q]? = some ce) (hcv : ce.vm = .none) (hcl : s.vm.findClass E = some ce.cls) (kk : W p l e R s m args below meth c H locs cells slots Q (F0 m h3 ls [.ref q])) :
    xc_W p l e R s m args below meth c H locs cells slots Q (F0 m pc ls rest) q := by
  obtain ⟨x, suf, hx0, hx1, hx2⟩ := List.map_eq_cons_iff.mp hE
  obtain ⟨y, suf2, hy0, hy1, hy2⟩ := List.map_eq_cons_iff.mp hx2
  obtain ⟨z, suf3, hz0, hz1, -⟩ := List.map_eq_cons_iff.mp hy2
  simp only [Prod.mk.injEq] at hx1 hy1 hz1
  obtain ⟨a1, a2, a3, a4⟩ := hx1
  obtain ⟨b1, b2, b3, b4⟩ := hy1
  obtain ⟨c1, c2, c3, c4⟩ := hz1
  refine xg_catch (own := "SealTrustLaw") (name := E) hown [x, y] z suf3 (by rw [hx0, hy0, hz0]; rfl) (fun w hw9 => ?_) (by simp [covers, c1, c2, hcov]) (by rw [c4]; exact ht3) (by rw [c4]; exact xg_w hg hw hk rfl args) (xg_w hg hw hs rfl args) hce hcv hcl ?_
  · rcases List.mem_cons.mp hw9 with rfl | h9
    · rw [a4]
      exact ⟨ht1, E1, xg_w hg hw hk1 rfl args, va_Nc.moved hw.alike (hg.2.2.2.2 _ hne)⟩
    · rw [List.mem_singleton.mp h9, b4]
      exact ⟨ht2, E2, xg_w hg hw hk2 rfl args, va_Nc.moved hw.alike (hg.2.2.2.2 _ hne2)⟩
  rw [c3]
  exact kk
end XHC
