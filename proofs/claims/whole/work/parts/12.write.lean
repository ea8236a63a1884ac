/-! methods that write: their contract's end, calls of them, ends of bodies -/
section XWR
/-- it gave back v, and the cells are ws -/
def xw_post (G : xg_G) (A : Nat → Prop) (v : Option Value) (ws : va_W) : xc_R → Heap → Prop := fun r H1 => r = .inl v ∧ va_P G.2.1 cl_all ws H1 ∧ va_D A ws
theorem xw_S {A Ac : Nat → Prop} {H0 H H1 : Heap} {locs L : List Loc} (hS : va_S A H0 H locs) (hF : xc_F Ac H H1) (hAc : ∀ q, Ac q → A q) (hL : ∀ q ∈ L, Ac q.base) : va_S A H0 H1 (locs ++ L) :=
  ⟨Nat.le_trans hS.1 hF.1, fun q h1 h2 => (hF.2 q (Nat.lt_of_lt_of_le h1 hS.1) (fun z => h2 (hAc q z))).trans (hS.2.1 q h1 h2), fun q hq => (List.mem_append.mp hq).elim (hS.2.2 q) (fun h => hAc _ (hL q h))⟩
theorem xw_F {A : Nat → Prop} {H0 H : Heap} {locs : List Loc} (hS : va_S A H0 H locs) : xc_F A H0 H := ⟨hS.1, hS.2.1⟩
variable {p : Program} {l : Launch} {e : Env} {R : Room} {s : State} {m : MethodId} {args : Array Value} {below : List Frame} {meth : Method} {c : Code} {H H0 : Heap} {locs : List Loc} {cells slots : Nat} {Q : State → Prop} {pc : Nat} {ls : Array Slot} {rest st0 : List Value} {cc : ByteArray} {G : xg_G} {A : Nat → Prop} {ws wc wr wn : va_W} {v : Option Value} {mc ms : Nat}
theorem xw_use (hr : xc_Run p l e R s m args below meth c H locs cells slots (F0 m pc ls st0) rest mc ms (xw_post G (va_A wc H.size) v wn) (va_A wc H.size))
    (hP : va_P G.2.1 cl_all ws H) (hD : va_D A ws) (hS : va_S A H0 H locs) (hA : ∀ q, H0.size ≤ q → A q) (isC isR : List Nat) (hC : isC.map (fun i => ws[i]?) = wc.map some) (hR : isR.map (fun i => ws[i]?) = wr.map some) (hn : va_nd isR = true) (hdis : ∀ i ∈ isR, i ∉ isC)
    (k : ∀ (H1 : Heap) (locs1 : List Loc), va_P G.2.1 cl_all (wr ++ wn) H1 → va_D A (wr ++ wn) → va_S A H0 H1 locs1 → W p l e R s m args below meth c H1 locs1 (cells + mc) (slots + ms) Q (F0 m (pc + 3) ls (v.toList ++ rest))) :
    W p l e R s m args below meth c H locs cells slots Q (F0 m pc ls st0) := by
  have hFc := va_free (wc := wc) hD hS hA isC hC
  refine xc_use hr (fun v' H1 L hp hF hL => ?_) (fun q E ce H1 L hp => nomatch hp.1)
  obtain ⟨h1, hP1, hD1⟩ := hp
  cases h1
  obtain ⟨hP2, hD2⟩ := va_join (wr := wr) (w1 := wn) hP hD isC isR hC hR hn hdis hF.2 hFc hP1 hD1
  exact k H1 _ hP2 hD2 (xw_S hS hF hFc hL)
abbrev xw_Z (G : xg_G) (below : List Frame) (A : Nat → Prop) (v : Option Value) (ws : va_W) (args : Array Value) (s : State) (mc ms : Nat) : State → Prop := xc_Z below (xw_post G A v ws) A args s mc ms
theorem xw_vret (hx : p.tables.exec = Jvm.exec) (hb : c.code = cc) (ht : meth.sig.returnType = none) (hl : meth.locks = false) (hP : va_P G.2.1 cl_all ws H) (hD : va_D A ws) (hS : va_S A s.heap H locs) (hdg : decode cc pc = .ok (.return_, 1)) :
    W p l e R s m args below meth c H locs cells slots (xw_Z G below A none ws args s cells slots) (F0 m pc ls []) :=
  xc_vret hx hb ht hl (xw_F hS) hS.2.2 ⟨rfl, hP, hD⟩ hdg
theorem xw_iret {v : Int32} (hx : p.tables.exec = Jvm.exec) (hb : c.code = cc) (ht : meth.sig.returnType = some .int) (hl : meth.locks = false) (hP : va_P G.2.1 cl_all ws H) (hD : va_D A ws) (hS : va_S A s.heap H locs) (hdg : decode cc pc = .ok (.ireturn, 1)) :
    W p l e R s m args below meth c H locs cells slots (xw_Z G below A (some (.int v)) ws args s cells slots) (F0 m pc ls [.int v]) :=
  xc_iret hx hb ht hl (xw_F hS) hS.2.2 ⟨rfl, hP, hD⟩ hdg
theorem xw_lret {v : Int64} (hx : p.tables.exec = Jvm.exec) (hb : c.code = cc) (ht : meth.sig.returnType = some .long) (hl : meth.locks = false) (hP : va_P G.2.1 cl_all ws H) (hD : va_D A ws) (hS : va_S A s.heap H locs) (hdg : decode cc pc = .ok (.lreturn, 1)) :
    W p l e R s m args below meth c H locs cells slots (xw_Z G below A (some (.long v)) ws args s cells slots) (F0 m pc ls [.long v]) :=
  xc_lret hx hb ht hl (xw_F hS) hS.2.2 ⟨rfl, hP, hD⟩ hdg
theorem xw_zret {v : Int32} (hx : p.tables.exec = Jvm.exec) (hb : c.code = cc) (ht : meth.sig.returnType = some .boolean) (hl : meth.locks = false) (hn : narrow .boolean (.int v) = .int v) (hP : va_P G.2.1 cl_all ws H) (hD : va_D A ws) (hS : va_S A s.heap H locs) (hdg : decode cc pc = .ok (.ireturn, 1)) :
    W p l e R s m args below meth c H locs cells slots (xw_Z G below A (some (.int v)) ws args s cells slots) (F0 m pc ls [.int v]) :=
  xc_zret hx hb ht hn hl (xw_F hS) hS.2.2 ⟨rfl, hP, hD⟩ hdg
end XWR
