/-! making cells: arrays of the known classes, objects, constructors -/
section XKM
theorem xk_ai : Cond.arrayClass .int ∈ lw_tbl := by decide +kernel
theorem xk_al : Cond.arrayClass .long ∈ lw_tbl := by decide +kernel
theorem xk_ao : Cond.arrayOver (.object "SealTrust$Motion") ∈ lw_tbl := by decide +kernel
theorem xk_oi : Cond.instanceMethod Lib.objectInit ∈ lw_tbl := by decide +kernel
theorem xk_oc : Cond.code Lib.objectInit ⟨#[0xb1]⟩ 1 none ∈ lw_tbl := by decide +kernel
/-- a constructor's end: the cells are of the kind f -/
def xk_P (G : xg_G) (A : Nat → Prop) (f : va_W → Prop) : xc_R → Heap → Prop := fun r H1 => r = .inl none ∧ ∃ ws, f ws ∧ va_P G.2.1 cl_all ws H1 ∧ va_D A ws
variable {p : Program} {l : Launch} {e : Env} {R : Room} {s : State} {m : MethodId} {args : Array Value} {below : List Frame} {meth : Method} {c : Code} {H H0 : Heap} {locs : List Loc} {cells slots : Nat} {Q : State → Prop} {G : xg_G} {cc : ByteArray} {nL pc : Nat} {ls : Array Slot} {rest st0 : List Value} {ws wc wr : va_W} {A : Nat → Prop} {own : String} {mc ms : Nat} {f : va_W → Prop}
theorem xk_newI (hg : xg_F G) (hw : G.1.WarmedH s.vm) (hx : p.tables.exec = Jvm.exec) (hb : c.code = cc) (hP : va_P G.2.1 cl_all ws H) (hD : va_D A ws) (hS : va_S A H0 H locs) (hA : ∀ q, H0.size ≤ q → A q) {n : Int32} {N : Nat} (hn : ¬ n < 0) (hN : n.toNatClampNeg = N) (hbt : N * 4 ≤ 536870912) (hcells : cells + 1 ≤ R.cells) (hslots : slots + N ≤ R.slots) (hdg : decode cc pc = .ok (.newarray .int, 2))
    (kk : ∀ (q : Nat) (H1 : Heap), va_P G.2.1 cl_all (ws ++ [(q, .inl (G.2.2.1, N, .inl (fun _ => 0)))]) H1 → va_D A (ws ++ [(q, .inl (G.2.2.1, N, .inl (fun _ => 0)))]) → va_S A H0 H1 locs → W p l e R s m args below meth c H1 locs (cells + 1) (slots + N) Q (F0 m (pc + 2) ls (.ref q :: rest))) : W p l e R s m args below meth c H locs cells slots Q (F0 m pc ls (.int n :: rest)) := by
  have hw9 : (Cond.arrayClass .int).before args s = true := xg_w hg hw xk_ai rfl args
  refine va_newa hx hb (atype := .int) (ty := .int) (a0 := (N, .inl (fun _ => 0))) hw9 rfl (xg_k hg hw) hP hD hS hA (fun _ => rfl) hn hN hbt hcells hslots hdg (fun q cA H1 hK1 hP1 hD1 hS1 => ?_)
  have e1 := (hK1.2 0 _ rfl).2
  have e2 := (hK1.2 3 _ rfl).2
  have e3 : cA = G.2.2.1 := Option.some.inj (Eq.trans (Eq.symm e2) e1)
  subst e3
  exact kk q H1 hP1 hD1 hS1
theorem xk_newJ (hg : xg_F G) (hw : G.1.WarmedH s.vm) (hx : p.tables.exec = Jvm.exec) (hb : c.code = cc) (hP : va_P G.2.1 cl_all ws H) (hD : va_D A ws) (hS : va_S A H0 H locs) (hA : ∀ q, H0.size ≤ q → A q) {n : Int32} {N : Nat} (hn : ¬ n < 0) (hN : n.toNatClampNeg = N) (hbt : N * 8 ≤ 536870912) (hcells : cells + 1 ≤ R.cells) (hslots : slots + N ≤ R.slots) (hdg : decode cc pc = .ok (.newarray .long, 2))
    (kk : ∀ (q : Nat) (H1 : Heap), va_P G.2.1 cl_all (ws ++ [(q, .inl (G.2.2.2.1, N, .inr (.inl (fun _ => 0))))]) H1 → va_D A (ws ++ [(q, .inl (G.2.2.2.1, N, .inr (.inl (fun _ => 0))))]) → va_S A H0 H1 locs → W p l e R s m args below meth c H1 locs (cells + 1) (slots + N) Q (F0 m (pc + 2) ls (.ref q :: rest))) : W p l e R s m args below meth c H locs cells slots Q (F0 m pc ls (.int n :: rest)) := by
  have hw9 : (Cond.arrayClass .long).before args s = true := xg_w hg hw xk_al rfl args
  refine va_newa hx hb (atype := .long) (ty := .long) (a0 := (N, .inr (.inl (fun _ => 0)))) hw9 rfl (xg_k hg hw) hP hD hS hA (fun _ => rfl) hn hN hbt hcells hslots hdg (fun q cA H1 hK1 hP1 hD1 hS1 => ?_)
  have e1 := (hK1.2 1 _ rfl).2
  have e2 := (hK1.2 3 _ rfl).2
  have e3 : cA = G.2.2.2.1 := Option.some.inj (Eq.trans (Eq.symm e2) e1)
  subst e3
  exact kk q H1 hP1 hD1 hS1
theorem xk_newM (hg : xg_F G) (hw : G.1.WarmedH s.vm) (S : xc_Fix p m c cc nL s "SealTrust") (hP : va_P G.2.1 cl_all ws H) (hD : va_D A ws) (hS : va_S A H0 H locs) (hA : ∀ q, H0.size ≤ q → A q) {n : Int32} {N : Nat} (hn : ¬ n < 0) (hN : n.toNatClampNeg = N) (hbt : N * 4 ≤ 536870912) (hcells : cells + 1 ≤ R.cells) (hslots : slots + N ≤ R.slots) (hdg : decode cc pc = .ok (.anewarray 23, 3))
    (kk : ∀ (q : Nat) (H1 : Heap), va_P G.2.1 cl_all (ws ++ [(q, .inl (G.2.2.2.2, N, .inr (.inr (.inr (.inr (fun _ => none))))))]) H1 → va_D A (ws ++ [(q, .inl (G.2.2.2.2, N, .inr (.inr (.inr (.inr (fun _ => none))))))]) → va_S A H0 H1 locs → W p l e R s m args below meth c H1 locs (cells + 1) (slots + N) Q (F0 m (pc + 3) ls (.ref q :: rest))) : W p l e R s m args below meth c H locs cells slots Q (F0 m pc ls (.int n :: rest)) := by
  have hk : Cond.classLink "SealTrust" 23 "SealTrust$Motion" ∈ lw_tbl := by decide +kernel
  have hO : va_AO "SealTrust$Motion" s := va_AO.moved hw.alike (va_AO.of (hg.1 _ xk_ao))
  refine va_newq S.1 S.2.1 S.2.2.2 (xg_w hg hw hk rfl args) hO (xg_k hg hw) hP hD hS hA hn hN hbt hcells hslots hdg (fun q cA H1 hK1 hP1 hD1 hS1 => ?_)
  obtain ⟨-, kA, comp, -, -, -, e1⟩ := hK1.2 2 _ rfl
  obtain ⟨-, kB, comq, -, -, -, e2⟩ := hK1.2 3 _ rfl
  have e3 : cA = G.2.2.2.2 := Option.some.inj (Eq.trans (Eq.symm e2) e1)
  subst e3
  exact kk q H1 hP1 hD1 hS1
theorem xk_obj {idx a : Nat} (hlink : Cond.methodLink own idx Lib.objectInit ∈ lw_tbl) (hg : xg_F G) (hw : G.1.WarmedH s.vm) (S : xc_Fix p m c cc nL s own) (hsize : ls.size = nL) (hdg : decode cc pc = .ok (.invokespecial idx, 3)) (hfr : 1 ≤ R.frames) (hlo : (rest.map fun v => v.category).sum + 12 ≤ R.locals)
    (kk : W p l e R s m args below meth c H locs cells slots Q (F0 m (pc + 3) ls rest)) : W p l e R s m args below meth c H locs cells slots Q (F0 m pc ls (.ref a :: rest)) :=
  W.objInit S.1 S.2.1 S.2.2.2 (xg_w hg hw hlink rfl args) (xg_w hg hw xk_oi rfl args) (xg_w hg hw xk_oc rfl args) rfl (hsize.trans S.2.2.1.symm) rfl hdg hfr (by
    have h1 : (F0 m pc ls (.ref a :: rest)).monitorRoom = 0 := rfl
    rw [h1]
    omega) kk
theorem xk_vret (hx : p.tables.exec = Jvm.exec) (hb : c.code = cc) (ht : meth.sig.returnType = none) (hl : meth.locks = false) (hP : va_P G.2.1 cl_all ws H) (hD : va_D A ws) (hS : va_S A s.heap H locs) (hf : f ws) (hdg : decode cc pc = .ok (.return_, 1)) :
    W p l e R s m args below meth c H locs cells slots (xc_Z below (xk_P G A f) A args s cells slots) (F0 m pc ls []) :=
  xc_vret hx hb ht hl (xw_F hS) hS.2.2 ⟨rfl, ws, hf, hP, hD⟩ hdg
/-- behind a constructor of the cell that was pushed last -/
theorem xk_use {x : Nat × va_E} (hr : xc_Run p l e R s m args below meth c H locs cells slots (F0 m pc ls st0) rest mc ms (xk_P G (va_A [x] H.size) f) (va_A [x] H.size))
    (hP : va_P G.2.1 cl_all (ws ++ [x]) H) (hD : va_D A (ws ++ [x])) (hS : va_S A H0 H locs) (hA : ∀ q, H0.size ≤ q → A q)
    (k : ∀ (wn : va_W) (H1 : Heap) (locs1 : List Loc), f wn → va_P G.2.1 cl_all (ws ++ wn) H1 → va_D A (ws ++ wn) → va_S A H0 H1 locs1 → W p l e R s m args below meth c H1 locs1 (cells + mc) (slots + ms) Q (F0 m (pc + 3) ls rest)) :
    W p l e R s m args below meth c H locs cells slots Q (F0 m pc ls st0) := by
  have hxi : (ws ++ [x])[ws.length]? = some x := by
    rw [List.getElem?_append_right (Nat.le_refl _), Nat.sub_self]
    rfl
  have hFc : ∀ q, va_A [x] H.size q → A q := va_free (wc := [x]) hD hS hA [ws.length] (by rw [List.map_cons, List.map_nil, hxi]; rfl)
  have hPw : va_P G.2.1 cl_all ws H := fun i q hq => hP i q (by rw [List.getElem?_append_left (List.getElem?_eq_some_iff.mp hq).1]; exact hq)
  have hDw : va_D A ws := ⟨fun i j a b ha hb hab => hD.1 i j a b (by rw [List.getElem?_append_left (List.getElem?_eq_some_iff.mp ha).1]; exact ha) (by rw [List.getElem?_append_left (List.getElem?_eq_some_iff.mp hb).1]; exact hb) hab, fun i q hq => hD.2 i q (by rw [List.getElem?_append_left (List.getElem?_eq_some_iff.mp hq).1]; exact hq)⟩
  have hne : ∀ (i : Nat) (q : Nat × va_E), ws[i]? = some q → q.1 < H.size ∧ ¬ va_A [x] H.size q.1 := by
    intro i q hq
    have hl := (hPw i q hq).lt
    refine ⟨hl, fun z => ?_⟩
    rcases z with ⟨k2, e2, h2⟩ | h2
    · have hz : k2 < 1 := (List.getElem?_eq_some_iff.mp h2).1
      rw [show k2 = 0 by omega] at h2
      have h3 : x = (q.1, e2) := Option.some.inj h2
      have hi := (List.getElem?_eq_some_iff.mp hq).1
      have := hD.1 i ws.length q x (by rw [List.getElem?_append_left hi]; exact hq) hxi (by rw [h3])
      omega
    · omega
  refine xc_use hr (fun v' H1 L hp hF hL => ?_) (fun q E ce H1 L hp => nomatch hp.1)
  obtain ⟨h1, wn, hf, hP1, hD1⟩ := hp
  cases h1
  refine k wn H1 _ hf (va_P.app (hPw.kept (fun i q hq => hF.2 q.1 (hne i q hq).1 (hne i q hq).2)) hP1) (va_D.app hDw (hD1.weaken (fun _ q _ h => hFc q.1 h)) (fun i j a b ha hb hab => ?_)) (xw_S hS hF hFc hL)
  exact (hne i a ha).2 (by rw [hab]; exact hD1.2 j b hb)
end XKM
