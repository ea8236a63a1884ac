/-! one kind of contract for every method: it returns or throws; what it may write; what it makes -/
section XCA
/-- how a call ended: what it gave back, or the class of what it threw -/
abbrev xc_R : Type := Option Value ⊕ String
/-- since H nothing outside A has changed -/
def xc_F (A : Nat → Prop) (H H1 : Heap) : Prop := H.size ≤ H1.size ∧ ∀ q : Nat, q < H.size → ¬ A q → H1[q]? = H[q]?
theorem xc_F.rf {A : Nat → Prop} {H : Heap} : xc_F A H H := ⟨Nat.le_refl _, fun _ _ _ => rfl⟩
theorem xc_F.weaken {A B : Nat → Prop} {H H1 : Heap} (h : xc_F A H H1) (hAB : ∀ q, q < H.size → A q → B q) : xc_F B H H1 := ⟨h.1, fun q h1 h2 => h.2 q h1 (fun z => h2 (hAB q h1 z))⟩
theorem xc_F.trans {A : Nat → Prop} {H H1 H2 : Heap} (h : xc_F A H H1) (k : xc_F A H1 H2) : xc_F A H H2 :=
  ⟨Nat.le_trans h.1 k.1, fun q h1 h2 => (k.2 q (Nat.lt_of_lt_of_le h1 h.1) h2).trans (h.2 q h1 h2)⟩
def xc_Q (post : xc_R → Heap → Prop) (A : Nat → Prop) (mc ms : Nat) : Array Value → State → Outcome → State → Prop := fun _ st o t =>
  st.WarmedH t.vm ∧ (∃ L : List Loc, st.sameButNew ({ t with vm := st.vm } : State) L mc ms ∧ ∀ q ∈ L, A q.base) ∧ xc_F A st.heap t.heap ∧
    ((∃ v : Option Value, o = .returned v ∧ post (.inl v) t.heap) ∨
      ∃ (q : Addr) (E : String) (ce : Cell), o = .threw q ∧ t.heap[q]? = some ce ∧ ce.vm = .none ∧ st.vm.findClass E = some ce.cls ∧ post (.inr E) t.heap)
def xc_Met (l : Launch) (y : MethodName) (w : Cond) (rm : Room) (Pc : Array Value → State → Prop) (post : xc_R → Heap → Prop) (A : Nat → Prop) : Prop :=
  MetFree l y (headSpec [w] rm) Pc (fun _ _ _ _ _ => True) (xc_Q post A rm.cells rm.slots)
/-- what a body owes at its end -/
def xc_Z (below : List Frame) (post : xc_R → Heap → Prop) (A : Nat → Prop) (a : Array Value) (s : State) (mc ms : Nat) : State → Prop := fun t =>
  ∃ o, t.status = .running ∧ Ended t below o ∧ xc_Q post A mc ms a s o t
section Go
variable {p : Program} {l : Launch} {e : Env} {R : Room} {s : State} {m : MethodId} {args : Array Value} {below : List Frame} {meth : Method} {c : Code} {T : State} {locs : List Loc} {cells slots : Nat}
theorem xc_hp (T : State) (g : JFrame) : (T.setTop g).heap = T.heap := by simp [State.setTop, State.modifyTopJava]
theorem xc_hpc (T : State) (g : JFrame) (mk : MethodId) (a : Array Value) : (T.calling g mk a).heap = T.heap := by simp [State.calling, State.pushFrame, State.setFrames, State.setTop, State.modifyTopJava]
theorem xc_go (X : Stand p l e R s m args below meth c T locs cells slots) {g : JFrame} (hg : g.method = m) (hsize : g.locals.size = c.maxLocals) {ig : Instr} {len : Nat} (hdg : decode c.code g.pc = .ok (ig, len))
    {y : MethodName} {w : Cond} {rm : Room} {Pc : Array Value → State → Prop} {post : xc_R → Heap → Prop} {A : Nat → Prop} (hM : xc_Met l y w rm Pc post A)
    {mk : MethodId} {methY : Method} {cY : Code} {kY : Class} {maxL K : Nat} (hn : T.methodNamed? y = some mk) (hmY : T.vm.method? mk = some methY) (hcY : methY.code = some cY) (hlY : cY.maxLocals = maxL) (hkY : T.vm.classes[mk.cls]? = some kY) (hinitY : kY.init = .initialized)
    (a : Array Value) (hw : w.before a T = true) (hP : Pc a (T.calling g mk a)) (hfr : rm.frames + 1 ≤ R.frames) (hlo : K + (maxL + 11) + rm.locals ≤ R.locals) (hK : 2 * g.monitorRoom + (g.stack.map fun v => v.category).sum ≤ K) (hc : cells + rm.cells ≤ R.cells) (hs : slots + rm.slots ≤ R.slots) :
    ∃ (T' : State) (L : List Loc), (∀ q ∈ L, A q.base) ∧ Stand p l e R s m args below meth c T' (locs ++ L) (cells + rm.cells) (slots + rm.slots) ∧ xc_F A T.heap T'.heap ∧
      ((∃ v : Option Value, post (.inl v) T'.heap ∧ Steps p.tables e below (doInvoke e (T.setTop g) [] mk a).1 (T'.setTop { g with pc := g.pc + len, stack := v.toList ++ g.stack })) ∨
        ∃ (q : Addr) (E : String) (ce : Cell), T'.heap[q]? = some ce ∧ ce.vm = .none ∧ s.vm.findClass E = some ce.cls ∧ post (.inr E) T'.heap ∧ Steps p.tables e below (doInvoke e (T.setTop g) [] mk a).1 ((T'.setTop g).pushFrame (.throwing q))) := by
  have h : At T g.method c below := by rw [hg]; exact X.here
  have happ : (headSpec [w] rm).appliesLoose y e.platform (T.calling g mk a) = true :=
    Spec.appliesLoose_calling (g := g) h hdg hn hkY hinitY (X.room_calling (g := g) (R' := rm) hsize hmY hcY hfr (by rw [hlY]; omega) hc hs) (atoms_intro fun w' hw' => by rw [List.mem_singleton.mp hw']; exact hw)
  have hfr' : (T.setTop g).frames = [Frame.java g] ++ below := by rw [State.frames_setTop' g h.top, X.tail]; rfl
  obtain ⟨o, t, hst, -, hend, hq⟩ := Steps.callFree hM p X.admits X.cas X.clock (acts := []) hfr' happ hP trivial
  rw [hfr'] at hend
  obtain ⟨hW2, ⟨L, hsame, hL⟩, hF, hq⟩ := hq
  have hF : xc_F A T.heap t.heap := by
    have h1 : ((T.setTop g).pushFrame (.invoking mk a)).heap = T.heap := xc_hpc T g mk a
    rw [h1] at hF
    exact hF
  rcases hq with ⟨v, rfl, hp⟩ | ⟨q, E, ce, rfl, hce, hcv, hcl, hp⟩
  · obtain ⟨T', X', -, -, ht⟩ := X.outOf hg hdg (mk := mk) (a := a) (L := L) hend hW2 hsame
    have hh : t.heap = T'.heap := by rw [ht]; exact xc_hp _ _
    rw [hh] at hp hF
    exact ⟨T', L, hL, X', hF, Or.inl ⟨v, hp, by rw [← ht]; exact hst⟩⟩
  · obtain ⟨T', X', -, -, ht⟩ := X.outOfThrown hg (mk := mk) (a := a) (L := L) hend hW2 hsame
    have hh : t.heap = T'.heap := by rw [ht]; exact Stand.throwing_heap _ _ _
    rw [hh] at hp hF hce
    have hcl' : T.vm.findClass E = some ce.cls := hcl
    rw [X.warmed.alike.findClass] at hcl'
    exact ⟨T', L, hL, X', hF, Or.inr ⟨q, E, ce, hce, hcv, hcl', hp, by rw [← ht]; exact hst⟩⟩
end Go
/-- the callee as the tables have it: its method, how many locals, how many arguments -/
def xc_C (U : State) (y : MethodName) (w : Cond) (maxL n : Nat) : Prop :=
  (∀ (a : Array Value) (V : State), U.WarmedH V.vm → w.before a V = true) ∧ ∃ (mk : MethodId) (methY : Method) (cY : Code), U.methodNamed? y = some mk ∧ U.vm.method? mk = some methY ∧ methY.code = some cY ∧ cY.maxLocals = maxL ∧ parseMethodDescriptor y.desc = some methY.sig ∧ methY.sig.parameters.length = n
theorem xc_C.of {U : State} {y : MethodName} {bytes : ByteArray} {maxL n : Nat} {ret : Option FieldType} {a : Array Value} (h : (Cond.code y bytes maxL ret).before a U = true) (hd : (parseMethodDescriptor y.desc).map (fun d => d.parameters.length) = some n) : xc_C U y (.code y bytes maxL ret) maxL n := by
  refine ⟨fun a' V hW => word_at hW (Or.inl (by first | rfl | simp [Cond.onTables, Cond.keeps, Cond.steady])) h, ?_⟩
  obtain ⟨mk, hn⟩ := Cond.code_named h
  obtain ⟨meth, c, h1, h2, -, h4, -, -, -, h8⟩ := Cond.code_spec hn h
  refine ⟨mk, meth, c, hn, h1, h2, h4, h8, ?_⟩
  rw [h8] at hd
  exact Option.some.inj hd
theorem xc_C.ofW {U : State} {y : MethodName} {bytes : ByteArray} {maxL n : Nat} {ret : Option FieldType} {hh : List (Nat × Nat × Nat × Nat)} {a : Array Value} (h : (Cond.codeWith y bytes maxL ret hh).before a U = true) (hd : (parseMethodDescriptor y.desc).map (fun d => d.parameters.length) = some n) : xc_C U y (.codeWith y bytes maxL ret hh) maxL n := by
  refine ⟨fun a' V hW => word_at hW (Or.inl (by first | rfl | simp [Cond.onTables, Cond.keeps, Cond.steady])) h, ?_⟩
  obtain ⟨mk, meth, c, hn, h1, h2, -, h4, -, -, -, h8⟩ := Cond.codeWith_spec h
  refine ⟨mk, meth, c, hn, h1, h2, h4, h8, ?_⟩
  rw [h8] at hd
  exact Option.some.inj hd
section Runs
variable {p : Program} {l : Launch} {e : Env} {R : Room} {s : State} {m : MethodId} {args : Array Value} {below : List Frame} {meth : Method} {c : Code} {H : Heap} {locs : List Loc} {cells slots : Nat}
/-- a call at frame g: it comes back behind the instruction, or something is thrown over g -/
def xc_Run (p : Program) (l : Launch) (e : Env) (R : Room) (s : State) (m : MethodId) (args : Array Value) (below : List Frame) (meth : Method) (c : Code) (H : Heap) (locs : List Loc) (cells slots : Nat) (g : JFrame) (rest : List Value) (mc ms : Nat) (post : xc_R → Heap → Prop) (A : Nat → Prop) : Prop :=
  ∀ T : State, T.heap = H → Stand p l e R s m args below meth c T locs cells slots →
    ∃ (T' : State) (L : List Loc), (∀ q ∈ L, A q.base) ∧ Stand p l e R s m args below meth c T' (locs ++ L) (cells + mc) (slots + ms) ∧ xc_F A H T'.heap ∧
      ((∃ v : Option Value, post (.inl v) T'.heap ∧ ∀ tg, Steps p.tables e below (T'.setTop { g with pc := g.pc + 3, stack := v.toList ++ rest }) tg → Steps p.tables e below (T.setTop g) tg) ∨
        ∃ (q : Addr) (E : String) (ce : Cell), T'.heap[q]? = some ce ∧ ce.vm = .none ∧ s.vm.findClass E = some ce.cls ∧ post (.inr E) T'.heap ∧ Steps p.tables e below (T.setTop g) ((T'.setTop { g with stack := rest }).pushFrame (.throwing q)))
/-- the method's frame g, with q thrown over it -/
def xc_W (p : Program) (l : Launch) (e : Env) (R : Room) (s : State) (m : MethodId) (args : Array Value) (below : List Frame) (meth : Method) (c : Code) (H : Heap) (locs : List Loc) (cells slots : Nat) (Q : State → Prop) (g : JFrame) (q : Addr) : Prop :=
  ∀ T : State, T.heap = H → Stand p l e R s m args below meth c T locs cells slots → ∃ t, Steps p.tables e below ((T.setTop g).pushFrame (.throwing q)) t ∧ Q t
variable {y : MethodName} {cc : ByteArray} {maxL nL n index kw : Nat} {w : Cond} {rm : Room} {Pc : Array Value → State → Prop} {post : xc_R → Heap → Prop} {A : Nat → Prop} {own C host : String} {b : Addr} {As rest : List Value} {g : JFrame}
/-- a caller's own facts -/
abbrev xc_Fix (p : Program) (m : MethodId) (c : Code) (cc : ByteArray) (nL : Nat) (s : State) (own : String) : Prop :=
  p.tables.exec = Jvm.exec ∧ c.code = cc ∧ c.maxLocals = nL ∧ s.vm.findClass own = some m.cls
abbrev xc_Fits (R rm : Room) (maxL kw cells slots : Nat) : Prop := rm.frames + 1 ≤ R.frames ∧ kw + (maxL + 11) + rm.locals ≤ R.locals ∧ cells + rm.cells ≤ R.cells ∧ slots + rm.slots ≤ R.slots
abbrev xc_no (y : MethodName) : Prop := y.cls ≠ "java/lang/invoke/MethodHandle" ∧ y.cls ≠ "java/lang/invoke/VarHandle"
theorem xc_close {T : State} {ig : Instr} {mk : MethodId} {a : Array Value} {vm₁ : Vm} (hT : T.heap = H) (X₁ : Stand p l e R s m args below meth c (T.setVm vm₁) locs cells slots) (hM : xc_Met l y w rm Pc post A) (hC : xc_C s y w maxL n) (hini : (Cond.initialized y.cls).before args s = true) (hn : s.methodNamed? y = some mk)
    (hg : g.method = m) (hsize : g.locals.size = c.maxLocals) (hdg : decode c.code g.pc = .ok (ig, 3)) (hW : 2 * g.monitorRoom + (rest.map fun v => v.category).sum ≤ kw) (hf : xc_Fits R rm maxL kw cells slots)
    (hb : FrameBlind Pc) (hPc : ∀ U : State, U.heap = H → s.WarmedH U.vm → Pc a U) (hstep : ∀ tg, (∀ acts, Steps p.tables e below (doInvoke e ((T.setVm vm₁).setTop { g with stack := rest }) acts mk a).1 tg) → Steps p.tables e below (T.setTop g) tg) :
    ∃ (T' : State) (L : List Loc), (∀ q ∈ L, A q.base) ∧ Stand p l e R s m args below meth c T' (locs ++ L) (cells + rm.cells) (slots + rm.slots) ∧ xc_F A H T'.heap ∧
      ((∃ v : Option Value, post (.inl v) T'.heap ∧ ∀ tg, Steps p.tables e below (T'.setTop { g with pc := g.pc + 3, stack := v.toList ++ rest }) tg → Steps p.tables e below (T.setTop g) tg) ∨
        ∃ (q : Addr) (E : String) (ce : Cell), T'.heap[q]? = some ce ∧ ce.vm = .none ∧ s.vm.findClass E = some ce.cls ∧ post (.inr E) T'.heap ∧ Steps p.tables e below (T.setTop g) ((T'.setTop { g with stack := rest }).pushFrame (.throwing q))) := by
  obtain ⟨hw, mk', methY, cY, hn', hmY, hcY, hlY, -, -⟩ := hC
  cases Option.some.inj (hn.symm.trans hn')
  obtain ⟨kY, hkY, -⟩ := className_of_methodNamed hn
  have hinitY : kY.init = .initialized := Cond.initialized_spec (findClass_of_methodNamed hn) hkY hini
  obtain ⟨kY', hkY', hke⟩ := X₁.warmed.alike.2.2 _ _ hkY
  have hmY' : (T.setVm vm₁).vm.method? mk = some methY := by rw [X₁.warmed.alike.method?]; exact hmY
  obtain ⟨T', L, hL, X', hF, hq⟩ := xc_go X₁ (g := { g with stack := rest }) hg hsize hdg hM (X₁.named hn) hmY' hcY hlY hkY' (by rw [hke]; exact hinitY) a (hw a _ X₁.warmed) (hb _ _ _ _ (hPc (T.setVm vm₁) hT X₁.warmed)) hf.1 hf.2.1 hW hf.2.2.1 hf.2.2.2
  refine ⟨T', L, hL, X', by rw [← hT]; exact hF, ?_⟩
  rcases hq with ⟨v, hp, hst⟩ | ⟨q, E, ce, h1, h2, h3, h4, hst⟩
  · exact Or.inl ⟨v, hp, fun tg h => hstep _ fun acts => by rw [doInvoke_state]; exact hst.trans h⟩
  · exact Or.inr ⟨q, E, ce, h1, h2, h3, h4, hstep _ fun acts => by rw [doInvoke_state]; exact hst⟩
theorem xc_runS (S : xc_Fix p m c cc nL s own) (hM : xc_Met l y w rm Pc post A) (hC : xc_C s y w maxL n) (hlink : (Cond.methodLink own index y).before args s = true) (hstat : (Cond.static y).before args s = true) (hini : (Cond.initialized y.cls).before args s = true) (hy : xc_no y) (hf : xc_Fits R rm maxL kw cells slots)
    (hb : FrameBlind Pc) (hPc : ∀ U : State, U.heap = H → s.WarmedH U.vm → Pc As.toArray U) (hg : g.method = m) (hn : As.length = n) (hsize : g.locals.size = nL) (hstack : g.stack = As.reverse ++ rest) (hW : 2 * g.monitorRoom + (rest.map fun v => v.category).sum ≤ kw) (hdg : decode cc g.pc = .ok (.invokestatic index, 3)) :
    xc_Run p l e R s m args below meth c H locs cells slots g rest rm.cells rm.slots post A := by
  obtain ⟨hx, hbb, hml, ho⟩ := S
  intro T hT X
  obtain ⟨mk, methY, cY, hnm, hmY, -, -, hsig, hlen⟩ := hC.2
  have hstatic : methY.isStatic = true := Cond.static_spec hnm hmY hstat
  obtain ⟨kP, hkP, -⟩ := className_of_methodNamed hnm
  have hinitP : kP.init = .initialized := Cond.initialized_spec (findClass_of_methodNamed hnm) hkP hini
  obtain ⟨vm₁, X₁, hstep₁⟩ := X.invokestatic hx ho hlink hnm hmY hstatic hkP hinitP hy (g := g) hg (argsL := As) (rest := rest) (by rw [hlen]; exact hn) hstack (by rw [hbb]; exact hdg)
  exact xc_close hT X₁ hM hC hini hnm hg (hsize.trans hml.symm) (by rw [hbb]; exact hdg) hW hf hb hPc hstep₁
theorem xc_runSN (S : xc_Fix p m c cc nL s own) (hM : xc_Met l y w rm Pc post A) (hC : xc_C s y w maxL n) (hlink : (Cond.methodLinkNest own index y host).before args s = true) (hstat : (Cond.static y).before args s = true) (hini : (Cond.initialized y.cls).before args s = true) (hy : xc_no y) (hf : xc_Fits R rm maxL kw cells slots)
    (hb : FrameBlind Pc) (hPc : ∀ U : State, U.heap = H → s.WarmedH U.vm → Pc As.toArray U) (hg : g.method = m) (hn : As.length = n) (hsize : g.locals.size = nL) (hstack : g.stack = As.reverse ++ rest) (hW : 2 * g.monitorRoom + (rest.map fun v => v.category).sum ≤ kw) (hdg : decode cc g.pc = .ok (.invokestatic index, 3)) :
    xc_Run p l e R s m args below meth c H locs cells slots g rest rm.cells rm.slots post A := by
  obtain ⟨hx, hbb, hml, ho⟩ := S
  intro T hT X
  obtain ⟨mk, methY, cY, hnm, hmY, -, -, hsig, hlen⟩ := hC.2
  have hstatic : methY.isStatic = true := Cond.static_spec hnm hmY hstat
  obtain ⟨kP, hkP, -⟩ := className_of_methodNamed hnm
  have hinitP : kP.init = .initialized := Cond.initialized_spec (findClass_of_methodNamed hnm) hkP hini
  obtain ⟨vm₁, X₁, hstep₁⟩ := X.invokestaticNest hx ho hlink hnm hmY hstatic hkP hinitP hy (g := g) hg (argsL := As) (rest := rest) (by rw [hlen]; exact hn) hstack (by rw [hbb]; exact hdg)
  exact xc_close hT X₁ hM hC hini hnm hg (hsize.trans hml.symm) (by rw [hbb]; exact hdg) hW hf hb hPc hstep₁
/-- the receiver: an object of the class C at b -/
def xc_O (s : State) (H : Heap) (C : String) (b : Nat) : Prop := ∃ cellB : Cell, H[b]? = some cellB ∧ cellB.vm.isStatics = false ∧ s.vm.findClass C = some cellB.cls
theorem xc_runV (S : xc_Fix p m c cc nL s own) (hM : xc_Met l y w rm Pc post A) (hC : xc_C s y w maxL n) (hlink : (Cond.methodLink own index y).before args s = true) (hinst : (Cond.instanceMethod y).before args s = true) (hsel : (Cond.selects y.cls y y).before args s = true) (hini : (Cond.initialized y.cls).before args s = true) (hy : xc_no y) (hf : xc_Fits R rm maxL kw cells slots)
    (hO : xc_O s H y.cls b) (hb : FrameBlind Pc) (hPc : ∀ U : State, U.heap = H → s.WarmedH U.vm → Pc (Value.ref b :: As).toArray U) (hg : g.method = m) (hn : As.length = n) (hsize : g.locals.size = nL) (hstack : g.stack = As.reverse ++ .ref b :: rest) (hW : 2 * g.monitorRoom + (rest.map fun v => v.category).sum ≤ kw) (hdg : decode cc g.pc = .ok (.invokevirtual index, 3)) :
    xc_Run p l e R s m args below meth c H locs cells slots g rest rm.cells rm.slots post A := by
  obtain ⟨hx, hbb, hml, ho⟩ := S
  obtain ⟨cellB, hcB, hoB, hclB⟩ := hO
  intro T hT X
  obtain ⟨mk, methY, cY, hnm, hmY, -, -, hsig, hlen⟩ := hC.2
  obtain ⟨mk', methM, hnm', hmM, hstM, habM⟩ := Cond.instanceMethod_spec hinst
  cases Option.some.inj (hnm.symm.trans hnm')
  cases Option.some.inj (hmY.symm.trans hmM)
  obtain ⟨c2, r2, m2, q1, q2, q3, q4, kP, hkP, hkPi⟩ := Cond.selects_spec hsel
  cases hclB.symm.trans q1
  cases (State.methodFound?_of_named hnm hy).symm.trans q2
  cases hnm.symm.trans q3
  have hselP : selectMethod e.platform s.vm cellB.cls mk = .method mk := by rw [Launch.admits_selectMethod X.admits]; exact q4
  obtain ⟨vm₁, X₁, hstep₁⟩ := X.invokevirtual hx ho hlink hnm hmY hstM hkP hkPi hy (a := b) (cell := cellB) (by rw [hT]; exact hcB)
    (fun z h => by rw [h] at hoB; cases hoB) hselP hmY habM hkP hkPi (g := g) hg (argsL := As) (rest := rest) (by rw [hlen]; exact hn) hstack (by rw [hbb]; exact hdg)
  exact xc_close hT X₁ hM hC hini hnm hg (hsize.trans hml.symm) (by rw [hbb]; exact hdg) hW hf hb hPc hstep₁
theorem xc_runVN (S : xc_Fix p m c cc nL s own) (hM : xc_Met l y w rm Pc post A) (hC : xc_C s y w maxL n) (hlink : (Cond.methodLinkNest own index y host).before args s = true) (hinst : (Cond.instanceMethod y).before args s = true) (hsel : (Cond.selects y.cls y y).before args s = true) (hini : (Cond.initialized y.cls).before args s = true) (hy : xc_no y) (hf : xc_Fits R rm maxL kw cells slots)
    (hO : xc_O s H y.cls b) (hb : FrameBlind Pc) (hPc : ∀ U : State, U.heap = H → s.WarmedH U.vm → Pc (Value.ref b :: As).toArray U) (hg : g.method = m) (hn : As.length = n) (hsize : g.locals.size = nL) (hstack : g.stack = As.reverse ++ .ref b :: rest) (hW : 2 * g.monitorRoom + (rest.map fun v => v.category).sum ≤ kw) (hdg : decode cc g.pc = .ok (.invokevirtual index, 3)) :
    xc_Run p l e R s m args below meth c H locs cells slots g rest rm.cells rm.slots post A := by
  obtain ⟨hx, hbb, hml, ho⟩ := S
  obtain ⟨cellB, hcB, hoB, hclB⟩ := hO
  intro T hT X
  obtain ⟨mk, methY, cY, hnm, hmY, -, -, hsig, hlen⟩ := hC.2
  obtain ⟨mk', methM, hnm', hmM, hstM, habM⟩ := Cond.instanceMethod_spec hinst
  cases Option.some.inj (hnm.symm.trans hnm')
  cases Option.some.inj (hmY.symm.trans hmM)
  obtain ⟨c2, r2, m2, q1, q2, q3, q4, kP, hkP, hkPi⟩ := Cond.selects_spec hsel
  cases hclB.symm.trans q1
  cases (State.methodFound?_of_named hnm hy).symm.trans q2
  cases hnm.symm.trans q3
  have hselP : selectMethod e.platform s.vm cellB.cls mk = .method mk := by rw [Launch.admits_selectMethod X.admits]; exact q4
  obtain ⟨vm₁, X₁, hstep₁⟩ := X.invokevirtualNest hx ho hlink hnm hmY hstM hkP hkPi hy (a := b) (cell := cellB) (by rw [hT]; exact hcB)
    (fun z h => by rw [h] at hoB; cases hoB) hselP hmY habM hkP hkPi (g := g) hg (argsL := As) (rest := rest) (by rw [hlen]; exact hn) hstack (by rw [hbb]; exact hdg)
  exact xc_close hT X₁ hM hC hini hnm hg (hsize.trans hml.symm) (by rw [hbb]; exact hdg) hW hf hb hPc hstep₁
theorem xc_runI (S : xc_Fix p m c cc nL s own) {bytes : ByteArray} (hM : xc_Met l y (.code y bytes maxL none) rm Pc post A) (hcode : (Cond.code y bytes maxL none).before args s = true) (hd : (parseMethodDescriptor y.desc).map (fun d => d.parameters.length) = some n) (hlink : (Cond.methodLink own index y).before args s = true) (hinst : (Cond.instanceMethod y).before args s = true) (hini : (Cond.initialized y.cls).before args s = true) (hy1 : y.name = "<init>") (hy : xc_no y) (hf : xc_Fits R rm maxL kw cells slots)
    (hb : FrameBlind Pc) (hPc : ∀ U : State, U.heap = H → s.WarmedH U.vm → Pc (Value.ref b :: As).toArray U) (hg : g.method = m) (hn : As.length = n) (hsize : g.locals.size = nL) (hstack : g.stack = As.reverse ++ .ref b :: rest) (hW : 2 * g.monitorRoom + (rest.map fun v => v.category).sum ≤ kw) (hdg : decode cc g.pc = .ok (.invokespecial index, 3)) :
    xc_Run p l e R s m args below meth c H locs cells slots g rest rm.cells rm.slots post A := by
  have hC : xc_C s y (.code y bytes maxL none) maxL n := xc_C.of hcode hd
  obtain ⟨hx, hbb, hml, ho⟩ := S
  subst hg
  intro T hT X
  have hpl : e.platform.magicAccessors = ({} : Platform).magicAccessors := by rw [X.admits.platform]
  have hlen : ∀ sig, parseMethodDescriptor y.desc = some sig → As.length = sig.parameters.length := fun sig h => by
    rw [h] at hd
    exact hn.trans (Option.some.inj hd).symm
  obtain ⟨mk, methM, cM, kP, vm₁, hnm, hmM, -, -, -, -, hkP, -, hW₁, hstep₁⟩ := Steps.initColdArgs (e := e) X.here hx X.warmed hpl ho hy1 hy hlink hinst hcode (f := g) rfl hlen hstack (by rw [hbb]; exact hdg)
  have X₁ := X.noted hW₁
  exact xc_close hT X₁ hM hC hini hnm rfl (hsize.trans hml.symm) (by rw [hbb]; exact hdg) hW hf hb hPc hstep₁
end Runs
section Uses
variable {p : Program} {l : Launch} {e : Env} {R : Room} {s : State} {m : MethodId} {args : Array Value} {below : List Frame} {meth : Method} {c : Code} {H : Heap} {locs : List Loc} {cells slots : Nat} {Q : State → Prop}
variable {post : xc_R → Heap → Prop} {A : Nat → Prop} {rest : List Value} {pc mc ms : Nat} {ls : Array Slot} {st0 : List Value}
theorem xc_use (hr : xc_Run p l e R s m args below meth c H locs cells slots (F0 m pc ls st0) rest mc ms post A)
    (kr : ∀ (v : Option Value) (H1 : Heap) (L : List Loc), post (.inl v) H1 → xc_F A H H1 → (∀ q ∈ L, A q.base) → W p l e R s m args below meth c H1 (locs ++ L) (cells + mc) (slots + ms) Q (F0 m (pc + 3) ls (v.toList ++ rest)))
    (kx : ∀ (q : Addr) (E : String) (ce : Cell) (H1 : Heap) (L : List Loc), post (.inr E) H1 → xc_F A H H1 → (∀ q ∈ L, A q.base) → H1[q]? = some ce → ce.vm = .none → s.vm.findClass E = some ce.cls → xc_W p l e R s m args below meth c H1 (locs ++ L) (cells + mc) (slots + ms) Q (F0 m pc ls rest) q) :
    W p l e R s m args below meth c H locs cells slots Q (F0 m pc ls st0) := by
  intro T hT X
  obtain ⟨T', L, hL, X', hF, hq⟩ := hr T hT X
  rcases hq with ⟨v, hp, hst⟩ | ⟨q, E, ce, h1, h2, h3, h4, hst⟩
  · obtain ⟨t, a1, b1⟩ := kr v T'.heap L hp hF hL T' rfl X'
    exact ⟨t, hst t a1, b1⟩
  · obtain ⟨t, a1, b1⟩ := kx q E ce T'.heap L h4 hF hL h1 h2 h3 T' rfl X'
    exact ⟨t, hst.trans a1, b1⟩
/-- the call changes nothing and gives back v -/
def xc_ro (v : Option Value) (H : Heap) : xc_R → Heap → Prop := fun r H1 => r = .inl v ∧ H1 = H
theorem xc_nil {L : List Loc} (h : ∀ q ∈ L, False) : L = [] := by
  cases L with
  | nil => rfl
  | cons a t => exact (h a List.mem_cons_self).elim
theorem xc_read {v : Option Value} (hr : xc_Run p l e R s m args below meth c H locs cells slots (F0 m pc ls st0) rest 0 0 (xc_ro v H) (fun _ => False))
    (k : W p l e R s m args below meth c H locs cells slots Q (F0 m (pc + 3) ls (v.toList ++ rest))) : W p l e R s m args below meth c H locs cells slots Q (F0 m pc ls st0) := by
  refine xc_use hr (fun v' H1 L hp _ hL => ?_) (fun q E ce H1 L hp => nomatch hp.1)
  obtain ⟨h1, rfl⟩ := hp
  cases h1
  rw [xc_nil hL, List.append_nil]
  exact k
theorem xc_mono {Q' : State → Prop} {g : JFrame} (h : ∀ t, Q t → Q' t) (k : W p l e R s m args below meth c H locs cells slots Q g) : W p l e R s m args below meth c H locs cells slots Q' g := by
  intro T hT X
  obtain ⟨t, a, b⟩ := k T hT X
  exact ⟨t, a, h t b⟩
/-- out of the kit's end of a body the end here -/
theorem xc_end {r : xc_R} {v : Option Value} (hr : r = .inl v) (hp : post r H) (hF : xc_F A s.heap H) {t : State} (h : MQ below (fun _ _ o t => o = .returned v ∧ t.heap = H ∧ s.WarmedH t.vm) args s cells slots A t) : xc_Z below post A args s cells slots t := by
  obtain ⟨o, h1, h2, ⟨h3, h4, h5⟩, L, h6, h7⟩ := h
  subst h3
  refine ⟨_, h1, h2, h5, ⟨L, h6.2.2, h7⟩, by rw [h4]; exact hF, Or.inl ⟨v, rfl, ?_⟩⟩
  rw [h4, ← hr]
  exact hp
end Uses
section Ends
variable {p : Program} {l : Launch} {e : Env} {R : Room} {s : State} {m : MethodId} {args : Array Value} {below : List Frame} {meth : Method} {c : Code} {H : Heap} {locs : List Loc} {cells slots : Nat}
variable {post : xc_R → Heap → Prop} {A : Nat → Prop} {pc : Nat} {ls : Array Slot} {cc : ByteArray}
theorem xc_iret {v : Int32} (hx : p.tables.exec = Jvm.exec) (hb : c.code = cc) (hr : meth.sig.returnType = some .int) (hl : meth.locks = false) (hF : xc_F A s.heap H) (hL : ∀ q ∈ locs, A q.base) (hp : post (.inl (some (.int v))) H) (hdg : decode cc pc = .ok (.ireturn, 1)) :
    W p l e R s m args below meth c H locs cells slots (xc_Z below post A args s cells slots) (F0 m pc ls [.int v]) :=
  xc_mono (fun t h => xc_end rfl hp hF h) (W.iret (Qc := fun _ _ o t => o = .returned (some (.int v)) ∧ t.heap = H ∧ s.WarmedH t.vm) (free := A) hx hb hr (fun t ht hW => ⟨rfl, ht, hW⟩) hL hdg hl)
theorem xc_lret {v : Int64} (hx : p.tables.exec = Jvm.exec) (hb : c.code = cc) (hr : meth.sig.returnType = some .long) (hl : meth.locks = false) (hF : xc_F A s.heap H) (hL : ∀ q ∈ locs, A q.base) (hp : post (.inl (some (.long v))) H) (hdg : decode cc pc = .ok (.lreturn, 1)) :
    W p l e R s m args below meth c H locs cells slots (xc_Z below post A args s cells slots) (F0 m pc ls [.long v]) :=
  xc_mono (fun t h => xc_end rfl hp hF h) (W.lret (Qc := fun _ _ o t => o = .returned (some (.long v)) ∧ t.heap = H ∧ s.WarmedH t.vm) (free := A) hx hb hr (fun t ht hW => ⟨rfl, ht, hW⟩) hL hdg hl)
theorem xc_vret (hx : p.tables.exec = Jvm.exec) (hb : c.code = cc) (hr : meth.sig.returnType = none) (hl : meth.locks = false) (hF : xc_F A s.heap H) (hL : ∀ q ∈ locs, A q.base) (hp : post (.inl none) H) (hdg : decode cc pc = .ok (.return_, 1)) :
    W p l e R s m args below meth c H locs cells slots (xc_Z below post A args s cells slots) (F0 m pc ls []) :=
  xc_mono (fun t h => xc_end rfl hp hF h) (W.vret (Qc := fun _ _ o t => o = .returned none ∧ t.heap = H ∧ s.WarmedH t.vm) (free := A) hx hb hr (fun t ht hW => ⟨rfl, ht, hW⟩) hL hdg hl)
theorem xc_zret {v : Int32} {ty : FieldType} (hx : p.tables.exec = Jvm.exec) (hb : c.code = cc) (hr : meth.sig.returnType = some ty) (hn : narrow ty (.int v) = .int v) (hl : meth.locks = false) (hF : xc_F A s.heap H) (hL : ∀ q ∈ locs, A q.base) (hp : post (.inl (some (.int v))) H) (hdg : decode cc pc = .ok (.ireturn, 1)) :
    W p l e R s m args below meth c H locs cells slots (xc_Z below post A args s cells slots) (F0 m pc ls [.int v]) :=
  xc_mono (fun t h => xc_end rfl hp hF h) (W.zret (Qc := fun _ _ o t => o = .returned (some (.int v)) ∧ t.heap = H ∧ s.WarmedH t.vm) (free := A) hx hb hr hn (fun t ht hW => ⟨rfl, ht, hW⟩) hL hdg hl)
theorem xc_aret {a : Nat} {nm : String} (hx : p.tables.exec = Jvm.exec) (hb : c.code = cc) (hr : meth.sig.returnType = some (.object nm)) (hl : meth.locks = false) (hF : xc_F A s.heap H) (hL : ∀ q ∈ locs, A q.base) (hp : post (.inl (some (.ref a))) H) (hdg : decode cc pc = .ok (.areturn, 1)) :
    W p l e R s m args below meth c H locs cells slots (xc_Z below post A args s cells slots) (F0 m pc ls [.ref a]) :=
  xc_mono (fun t h => xc_end rfl hp hF h) (W.aret (Qc := fun _ _ o t => o = .returned (some (.ref a)) ∧ t.heap = H ∧ s.WarmedH t.vm) (free := A) hx hb hr (Or.inl ⟨nm, rfl⟩) (Or.inr ⟨a, rfl⟩) (fun t ht hW => ⟨rfl, ht, hW⟩) hL hdg hl)
/-- what is thrown over the frame goes out of the method -/
theorem xc_thru {rest : List Value} {q : Addr} {E : String} {ce : Cell} (hl : meth.locks = false) (hout : ∀ x ∈ c.exceptionTable.toList, covers x pc = false) (hF : xc_F A s.heap H) (hL : ∀ q ∈ locs, A q.base) (hce : H[q]? = some ce) (hcv : ce.vm = .none) (hcl : s.vm.findClass E = some ce.cls) (hp : post (.inr E) H) :
    xc_W p l e R s m args below meth c H locs cells slots (xc_Z below post A args s cells slots) (F0 m pc ls rest) q := by
  intro T hT X
  obtain ⟨hst, hrun, hend, hW, hsm⟩ := X.leaveThrown q (g := F0 m pc ls rest) rfl rfl rfl hout hl
  have hh : (T.setFrames (.throwing q :: below)).heap = H := hT
  exact ⟨_, hst, _, hrun, hend, hW, ⟨locs, hsm, hL⟩, by rw [hh]; exact hF, Or.inr ⟨q, E, ce, rfl, by rw [hh]; exact hce, hcv, hcl, by rw [hh]; exact hp⟩⟩
theorem xc_widen {Q : State → Prop} {g : JFrame} {q : Addr} {k n : Nat} (h1 : cells ≤ k) (h2 : slots ≤ n) (kk : xc_W p l e R s m args below meth c H locs k n Q g q) : xc_W p l e R s m args below meth c H locs cells slots Q g q :=
  fun T hT X => kk T hT (stand_widen X h1 h2)
/-- a table without rows covers nothing -/
theorem xc_none (h : c.exceptionTable.isEmpty = true) : ∀ x ∈ c.exceptionTable.toList, covers x pc = false := by
  intro x hx
  have h1 : c.exceptionTable = #[] := by simpa using h
  rw [h1] at hx
  simp at hx
/-- what a walk without writes leaves of the old cells: all of them -/
theorem xc_kept {k n : Nat} {U : State} (h : s.sameButNew ({ U with vm := s.vm } : State) [] k n) : xc_F (fun _ => False) s.heap U.heap := by
  obtain ⟨-, h2, -, -, -, h6⟩ := h
  refine ⟨h2, fun q hq _ => ?_⟩
  obtain ⟨c9, e1, e2, e3, e4⟩ := h6 q _ (Array.getElem?_eq_getElem hq)
  have hs : c9.slots = (s.heap[q]).slots := Array.ext_getElem? fun i => e4 i (fun hm => nomatch hm)
  have h9 : c9 = s.heap[q] := by
    rw [hs] at e2
    exact e2
  have e5 : U.heap[q]? = some c9 := e1
  rw [e5, h9, Array.getElem?_eq_getElem hq]
/-- 'throw new E("text")' in a method that has written nothing: new; dup; ldc; invokespecial; athrow -/
theorem xc_throw {own cls text : String} {names : List String} {ik is ic mc ms : Nat} (hx : p.tables.exec = Jvm.exec) (hb : c.code = cc) (hl : l.stackTraces = false) (hlocks : meth.locks = false) (hE : c.exceptionTable.isEmpty = true) (hown : s.vm.findClass own = some m.cls)
    (hcls : Bundle.fit cls = true) (hnames : ∀ n ∈ names, Bundle.fit n = true) (hk : (Cond.classLink own ik cls).before args s = true) (hini : (Cond.initialized cls).before args s = true) (hst : (Cond.stringRef own is text).before args s = true) (hat : ∀ w ∈ Bundle.ownAtoms own ic cls names, w.before args s = true)
    (hsize : ls.size = c.maxLocals) (d0 : decode cc pc = .ok (.new ik, 3)) (d3 : decode cc (pc + 3) = .ok (.dup, 1)) (d4 : decode cc (pc + 4) = .ok (.ldc is, 2)) (d6 : decode cc (pc + 6) = .ok (.invokespecial ic, 3)) (d9 : decode cc (pc + 9) = .ok (.athrow, 1))
    (hf : names.length + 3 < R.frames ∧ 13 * (names.length + 1) + 43 ≤ R.locals ∧ cells + 1 ≤ R.cells ∧ slots + 6 ≤ R.slots) (hm : cells + 1 ≤ mc ∧ slots + 6 ≤ ms) (hp : ∀ H1 : Heap, xc_F (fun _ => False) s.heap H1 → post (.inr cls) H1) :
    W p l e R s m args below meth c s.heap [] cells slots (xc_Z below post A args s mc ms) (F0 m pc ls []) := by
  intro T hT X
  have htr : e.platform.stackTraces = false := (show e.platform.stackTraces = l.stackTraces by rw [X.admits.platform]).trans hl
  have hins : (Cond.instantiable cls 6).before args s = true := hat _ (by simp [Bundle.ownAtoms])
  obtain ⟨vm₁, cX, kX, hfX, hkX, -, -, X₁, st1⟩ := X.newCold hx (own := own) (C := cls) (index := ik) (n := 6) hown hk hins hini (g := F0 m pc ls []) rfl (by rw [hb]; exact d0) hf.2.2.1 hf.2.2.2
  generalize hT1 : (T.setVm vm₁).pushCell { cls := cX, slots := kX.instanceTypes.map defaultValue, vm := .none } = T1 at X₁ st1
  have hcellA : T1.heap[T.heap.size]? = some (freshCell cX kX) := by rw [← hT1]; exact State.heap_pushCell_size _ _
  obtain ⟨k9, cf9, i9, a9, -, -, -, -, -, hev⟩ := Cond.stringRef_spec hown hst
  have d3' : decode c.code (pc + 3) = .ok (.dup, 1) := by rw [hb]; exact d3
  obtain ⟨U, hsteps, hrun, hend, hW, hsame, ce, hce, hO⟩ := X₁.ctorThrowS hx htr (own := own) (cls := cls) (names := names) (ic := ic) hown hcls hnames hat (fun x hx => nomatch hx) hfX hkX hcellA (by rw [hT]; exact Nat.le_refl _) (msg := .ref a9) rfl
    (g := { method := m, pc := pc + 6, locals := ls, stack := .ref a9 :: .ref T.heap.size :: .ref T.heap.size :: [], locked := none }) rfl hsize rfl rfl (rest := []) rfl (by rw [hb]; exact d6) (by rw [hb]; exact d9) (xc_none hE) hf.1 (by
      have h1 : (F0 m (pc + 6) ls ([] : List Value)).monitorRoom = 0 := rfl
      have h2 : ({ method := m, pc := pc + 6, locals := ls, stack := .ref a9 :: .ref T.heap.size :: .ref T.heap.size :: [], locked := none } : JFrame).monitorRoom = 0 := rfl
      rw [h2]
      simp only [List.map_cons, List.map_nil, List.sum_cons, List.sum_nil, Value.category]
      have := hf.2.1
      omega) hlocks
  have hK := xc_kept hsame
  have hall : s.sameButNew ({ U with vm := s.vm } : State) [] mc ms := hsame.mono hm.1 hm.2
  refine ⟨U, ?_, .threw T.heap.size, hrun, hend, hW, ⟨[], hall, fun q hq => nomatch hq⟩, hK.weaken (fun _ _ h => h.elim), Or.inr ⟨T.heap.size, cls, ce, rfl, hce, hO.vm, hO.cls, hp _ hK⟩⟩
  refine st1 _ ?_
  show Steps p.tables e below (T1.setTop { method := m, pc := pc + 3, locals := ls, stack := .ref T.heap.size :: [], locked := none }) _
  jvm_step X₁.here [X₁.here.top, hx, d3', Value.category]
  exact X₁.ldcString hx hown hst hev (g := { method := m, pc := pc + 4, locals := ls, stack := .ref T.heap.size :: .ref T.heap.size :: [], locked := none }) rfl (by rw [hb]; exact d4) _ hsteps
/-- caught by the row x of this method's table; the rows ahead don't take it -/
theorem xc_catch {Q : State → Prop} {rest : List Value} {own name E : String} {ce : Cell} {q : Addr} (hown : s.vm.findClass own = some m.cls) (pre : List ExceptionTableEntry) (x : ExceptionTableEntry) (suf : List ExceptionTableEntry) (hsplit : c.exceptionTable.toList = pre ++ x :: suf)
    (hpass : ∀ z ∈ pre, z.catchType ≠ 0 ∧ ∃ nm : String, (Cond.classLink own z.catchType nm).before args s = true ∧ (Cond.not (.castable E nm)).before args s = true) (hx : covers x pc = true) (h0 : x.catchType ≠ 0)
    (hlink : (Cond.classLink own x.catchType name).before args s = true) (hcast : (Cond.castable E name).before args s = true) (hce : H[q]? = some ce) (hcv : ce.vm = .none) (hcl : s.vm.findClass E = some ce.cls)
    (kk : W p l e R s m args below meth c H locs cells slots Q (F0 m x.handlerPc ls [.ref q])) : xc_W p l e R s m args below meth c H locs cells slots Q (F0 m pc ls rest) q := by
  intro T hT X
  have hpl : e.platform.magicAccessors = ({} : Platform).magicAccessors := by rw [X.admits.platform]
  obtain ⟨c3, c4, hc3, hc4, hasg⟩ := Cond.castable_spec hcast
  cases Option.some.inj (hc3.symm.trans hcl)
  obtain ⟨k9, h9, -⟩ := Vm.findClass_spec hcl
  obtain ⟨vm', X', st⟩ := X.thenCaughtThrough q (g := F0 m pc ls rest) rfl (Steps.refl _) (by rw [hT]; exact hce) (by rw [hcv]; rfl) ⟨k9, h9⟩ pre x suf hsplit
    (fun z hz => RowPassed.of_words hpl hown (hpass z hz).1 (hpass z hz).2.choose_spec.1 hcl (hpass z hz).2.choose_spec.2) hx (X.catches_of_link hown h0 hlink hc4 hasg).1
  obtain ⟨t, a1, b1⟩ := kk (T.setVm vm') hT X'
  exact ⟨t, st.trans a1, b1⟩
end Ends
section Bodies
variable {l : Launch} {y : MethodName} {rm : Room} {Pc : Array Value → State → Prop} {post : xc_R → Heap → Prop} {A : Nat → Prop} {cc : ByteArray} {maxL : Nat} {ret : Option FieldType}
/-- a contract out of a walk of the body -/
theorem xc_ofW (hy : plainName y.cls = true)
    (body : ∀ p e s m args below meth c s₁, BodyLoose p l y (headSpec [Cond.code y cc maxL ret] rm) cc maxL ret e s m args below meth c s₁ → c.maxLocals = maxL → c.exceptionTable.isEmpty = true → Pc args s →
      W p l e rm s m args below meth c s.heap [] 0 0 (xc_Z below post A args s rm.cells rm.slots) (entryFrame m args maxL)) : xc_Met l y (.code y cc maxL ret) rm Pc post A := by
  refine MetFree.of_bodyS (code := cc) (maxLocals := maxL) (ret := ret) hy ?_ ?_
  · intro args s m h hn
    obtain ⟨meth, c, h1, h2, h3, h4, h5, h6, -, -⟩ := Cond.code_spec hn (atoms_spec (ws := [Cond.code y cc maxL ret]) h _ List.mem_cons_self)
    exact ⟨meth, c, h1, h2, h3, h4, h5, h6⟩
  · intro p e s m args below meth c s₁ B hml hP _
    have hh0 : s₁.heap = s.heap := by rw [B.state]; rfl
    have hE := B.noHandlers (atoms_spec (ws := [Cond.code y cc maxL ret]) B.pre _ List.mem_cons_self)
    obtain ⟨t, a1, o, b1, b2, b3⟩ := body p e s m args below meth c s₁ B hml hE hP s₁ hh0 (Stand.of_body B)
    exact ⟨t, o, a1, b1, b2, b3⟩
/-- .. where the method has a table of handlers -/
theorem xc_ofWH {hh : List (Nat × Nat × Nat × Nat)} (hy : plainName y.cls = true)
    (body : ∀ p e s m args below meth c s₁, BodyLoose p l y (headSpec [Cond.codeWith y cc maxL ret hh] rm) cc maxL ret e s m args below meth c s₁ → c.maxLocals = maxL → c.exceptionTable.toList.map (fun h => (h.startPc, h.endPc, h.handlerPc, h.catchType)) = hh → Pc args s →
      W p l e rm s m args below meth c s.heap [] 0 0 (xc_Z below post A args s rm.cells rm.slots) (entryFrame m args maxL)) : xc_Met l y (.codeWith y cc maxL ret hh) rm Pc post A := by
  refine MetFree.of_bodyS (code := cc) (maxLocals := maxL) (ret := ret) hy ?_ ?_
  · intro args s m h hn
    obtain ⟨m9, meth, c, hn9, h1, h2, h3, h4, -, h5, h6, -⟩ := Cond.codeWith_spec (atoms_spec (ws := [Cond.codeWith y cc maxL ret hh]) h _ List.mem_cons_self)
    cases Option.some.inj (hn.symm.trans hn9)
    exact ⟨meth, c, h1, h2, h3, h4, h5, h6⟩
  · intro p e s m args below meth c s₁ B hml hP _
    have hh0 : s₁.heap = s.heap := by rw [B.state]; rfl
    have hE : c.exceptionTable.toList.map (fun h => (h.startPc, h.endPc, h.handlerPc, h.catchType)) = hh := by
      obtain ⟨m9, meth9, c9, hn9, h1, h2, -, -, h6, -⟩ := Cond.codeWith_spec (atoms_spec (ws := [Cond.codeWith y cc maxL ret hh]) B.pre _ List.mem_cons_self)
      cases Option.some.inj (hn9.symm.trans B.named)
      cases Option.some.inj (h1.symm.trans B.method)
      cases Option.some.inj (h2.symm.trans (Stand.of_body B).code)
      exact h6
    obtain ⟨t, a1, o, b1, b2, b3⟩ := body p e s m args below meth c s₁ B hml hE hP s₁ hh0 (Stand.of_body B)
    exact ⟨t, o, a1, b1, b2, b3⟩
end Bodies
end XCA
