/-! a private constructor of a nest mate; catching, with what the start says of the classes -/
section XGN
variable {p : Program} {l : Launch} {e : Env} {R : Room} {s : State} {m : MethodId} {args : Array Value} {below : List Frame} {meth : Method} {c : Code} {H : Heap} {locs : List Loc} {cells slots : Nat} {G : xg_G}
variable {y : MethodName} {cc bytes : ByteArray} {maxL nL n index kw pc : Nat} {rm : Room} {Pc : Array Value → State → Prop} {post : xc_R → Heap → Prop} {A : Nat → Prop} {own host : String} {b : Nat} {As rest st0 : List Value} {ls : Array Slot} {g : JFrame}
theorem xc_runIN (S : xc_Fix p m c cc nL s own) (hM : xc_Met l y (.code y bytes maxL none) rm Pc post A) (hcode : (Cond.code y bytes maxL none).before args s = true) (hd : (parseMethodDescriptor y.desc).map (fun d => d.parameters.length) = some n) (hlink : (Cond.methodLinkNest own index y host).before args s = true) (hinst : (Cond.instanceMethod y).before args s = true) (hini : (Cond.initialized y.cls).before args s = true) (hy1 : y.name = "<init>") (hy : xc_no y) (hf : xc_Fits R rm maxL kw cells slots)
    (hb : FrameBlind Pc) (hPc : ∀ U : State, U.heap = H → s.WarmedH U.vm → Pc (Value.ref b :: As).toArray U) (hg : g.method = m) (hn : As.length = n) (hsize : g.locals.size = nL) (hstack : g.stack = As.reverse ++ .ref b :: rest) (hW : 2 * g.monitorRoom + (rest.map fun v => v.category).sum ≤ kw) (hdg : decode cc g.pc = .ok (.invokespecial index, 3)) :
    xc_Run p l e R s m args below meth c H locs cells slots g rest rm.cells rm.slots post A := by
  have hC : xc_C s y (.code y bytes maxL none) maxL n := xc_C.of hcode hd
  obtain ⟨hx, hbb, hml, ho⟩ := S
  subst hg
  intro T hT X
  have hpl : e.platform.magicAccessors = ({} : Platform).magicAccessors := by rw [X.admits.platform]
  have hlen : ∀ sig, parseMethodDescriptor y.desc = some sig → As.length = sig.parameters.length := fun sig h => by
    rw [h] at hd
    exact hn.trans (Option.some.inj hd).symm
  obtain ⟨mk, methM, cM, kP, vm₁, hnm, hmM, -, -, -, -, hkP, -, hW₁, hstep₁⟩ := Steps.initColdArgsNest (e := e) X.here hx X.warmed hpl ho hy1 hy hlink hinst hcode (f := g) rfl hlen hstack (by rw [hbb]; exact hdg)
  have X₁ := X.noted hW₁
  exact xc_close hT X₁ hM hC hini hnm rfl (hsize.trans hml.symm) (by rw [hbb]; exact hdg) hW hf hb hPc hstep₁
def xg_siteIN (own : String) (index : Nat) (y : MethodName) (host : String) (bytes : ByteArray) (maxL : Nat) (n : Nat) : Prop :=
  Cond.methodLinkNest own index y host ∈ lw_tbl ∧ Cond.instanceMethod y ∈ lw_tbl ∧ Cond.initialized y.cls ∈ lw_tbl ∧ Cond.code y bytes maxL none ∈ lw_tbl ∧ xc_no y ∧ (parseMethodDescriptor y.desc).map (fun d => d.parameters.length) = some n ∧ y.name = "<init>"
theorem xg_runIN (hs : xg_siteIN own index y host bytes maxL n) (hg : xg_F G) (hw : G.1.WarmedH s.vm) (S : xc_Fix p m c cc nL s own) (hM : xc_Met l y (.code y bytes maxL none) rm (xg_Pc G (.ref b :: As) H) post A) (hf : xc_Fits R rm maxL kw cells slots)
    (hn : As.length = n) (hsize : ls.size = nL) (hstack : st0 = As.reverse ++ .ref b :: rest) (hW : (rest.map fun v => v.category).sum ≤ kw) (hdg : decode cc pc = .ok (.invokespecial index, 3)) : xc_Run p l e R s m args below meth c H locs cells slots (F0 m pc ls st0) rest rm.cells rm.slots post A :=
  xc_runIN S hM (xg_w hg hw hs.2.2.2.1 rfl args) hs.2.2.2.2.2.1 (xg_w hg hw hs.1 rfl args) (xg_w hg hw hs.2.1 rfl args) (xg_w hg hw hs.2.2.1 rfl args) hs.2.2.2.2.2.2 hs.2.2.2.2.1 hf xg_blind (xg_pre hw) rfl hn hsize hstack (xg_room hW) hdg
/-- caught by the row x of this method's table; the rows ahead don't take it -/
theorem xg_catch {Q : State → Prop} {name E : String} {ce : Cell} {q : Addr} (hown : s.vm.findClass own = some m.cls) (pre : List ExceptionTableEntry) (x : ExceptionTableEntry) (suf : List ExceptionTableEntry) (hsplit : c.exceptionTable.toList = pre ++ x :: suf)
    (hpass : ∀ z ∈ pre, z.catchType ≠ 0 ∧ ∃ nm : String, (Cond.classLink own z.catchType nm).before args s = true ∧ va_Nc E nm s) (hx : covers x pc = true) (h0 : x.catchType ≠ 0)
    (hlink : (Cond.classLink own x.catchType name).before args s = true) (hcast : (Cond.castable E name).before args s = true) (hce : H[q]? = some ce) (hcv : ce.vm = .none) (hcl : s.vm.findClass E = some ce.cls)
    (kk : W p l e R s m args below meth c H locs cells slots Q (F0 m x.handlerPc ls [.ref q])) : xc_W p l e R s m args below meth c H locs cells slots Q (F0 m pc ls rest) q := by
  intro T hT X
  have hpl : e.platform.magicAccessors = ({} : Platform).magicAccessors := by rw [X.admits.platform]
  obtain ⟨c3, c4, hc3, hc4, hasg⟩ := Cond.castable_spec hcast
  cases Option.some.inj (hc3.symm.trans hcl)
  obtain ⟨k9, h9, -⟩ := Vm.findClass_spec hcl
  obtain ⟨vm', X', st⟩ := X.thenCaughtThrough q (g := F0 m pc ls rest) rfl (Steps.refl _) (by rw [hT]; exact hce) (by rw [hcv]; rfl) ⟨k9, h9⟩ pre x suf hsplit
    (fun z hz => by
      obtain ⟨hz0, nm, hl1, a8, b8, h1, h2, h3⟩ := hpass z hz
      obtain ⟨c6, hc6, hcl6⟩ := Cond.classLink_spec hown hl1 e.platform hpl
      cases Option.some.inj (h1.symm.trans hcl)
      cases Option.some.inj (h2.symm.trans hc6)
      exact Or.inr ⟨hz0, _, hcl6, h3⟩) hx (X.catches_of_link hown h0 hlink hc4 hasg).1
  obtain ⟨t, a1, b1⟩ := kk (T.setVm vm') hT X'
  exact ⟨t, st.trans a1, b1⟩
end XGN
