/-! what stands for the whole run: the law's start s0, the classes' numbers; every word of the tables at every later state -/
section XGA
/-- the start; the classes' numbers and slots; the classes of int[], long[], Motion[] -/
abbrev xg_G : Type := State × va_G × ClassId × ClassId × ClassId
def xg_ok (w : Cond) : Bool := (w.onTables && w.keepsH) || goodWord w
theorem xg_word {args a' : Array Value} {s U : State} (hW : s.WarmedH U.vm) {w : Cond} (hk : xg_ok w = true) (h : w.before args s = true) : w.before a' U = true := by
  simp only [xg_ok, Bool.or_eq_true, Bool.and_eq_true] at hk
  rcases hk with ⟨h1, h2⟩ | h1
  · have h3 := Cond.onTables_warmH (args' := a') (T := U) hW h1 h2 h
    rwa [State.setVm_self] at h3
  · exact word_at hW (good_of_word h1) h
/-- the words that stand at every later state -/
def xg_st : Cond → Bool
  | .castable _ _ => true
  | .declares _ => true
  | w => xg_ok w
theorem xg_stable {args a' : Array Value} {s U : State} (hW : s.WarmedH U.vm) {w : Cond} (hk : xg_st w = true) (h : w.before args s = true) : w.before a' U = true := by
  by_cases h1 : xg_ok w = true
  · exact xg_word hW h1 h
  · cases w with
    | castable a b =>
      have e1 := Cond.castable_setVm (args := args) hW.alike a b
      have e2 := Cond.onTables_vm (A := args) (A' := a') (U := s) (U' := U) U.vm (.castable a b) rfl
      rw [State.setVm_self] at e2
      rw [← e2, e1]
      exact h
    | declares y =>
      have e1 := Cond.declares_setVm (args := args) hW.alike y
      have e2 := Cond.onTables_vm (A := args) (A' := a') (U := s) (U' := U) U.vm (.declares y) rfl
      rw [State.setVm_self] at e2
      rw [← e2, e1]
      exact h
    | _ => exact absurd hk h1
theorem xg_string {args a' : Array Value} {s U : State} (hW : s.WarmedH U.vm) {own tx : String} {k : Nat} (h : (Cond.stringRef own k tx).before args s = true) : (Cond.stringRef own k tx).before a' U = true := by
  have h0 : (Cond.stringRef own k tx).before #[] s = true := h
  have hc : ∃ c, s.vm.findClass own = some c := by
    cases hf : s.vm.findClass own with
    | none => simp [Cond.before, Cond.holds, Cond.value, hf] at h
    | some c => exact ⟨c, rfl⟩
  obtain ⟨c, hc⟩ := hc
  obtain ⟨k9, cf9, i9, a9, -, -, -, -, -, hev⟩ := Cond.stringRef_spec hc h0
  exact (vk_R.warm hW (vk_R.of h0 hev)).1
/-- where a static field lies: seen from a later state whose old cells are as they were -/
theorem xg_lays {args a' : Array Value} {s U : State} {C n d : String} (hW : s.WarmedH U.vm) (hO : ∀ q : Nat, q < s.heap.size → U.heap[q]? = s.heap[q]?) (h : (Cond.laysStatic C n d).before args s = true) : (Cond.laysStatic C n d).before a' U = true := by
  obtain ⟨c, k, i, f, a, cell, h1, h2, h3, h4, h5, h6, h7, h8, h9⟩ := Cond.laysStatic_spec h
  obtain ⟨k', hi', he⟩ := State.fieldFound?_setVm hW.alike h2
  show (Cond.laysStatic C n d).holds a' U none U [] = true
  exact Cond.laysStatic_of (by rw [hW.alike.findClass]; exact h1) hi' h3 (by rw [he]; exact h4) (by rw [hO a (Array.getElem?_eq_some_iff.mp h5).1]; exact h5) h6 h7 h8 (by rw [he]; exact h9)
theorem xg_isRef {args a' : Array Value} {s U : State} {C n d : String} (hW : s.WarmedH U.vm) (hO : ∀ q : Nat, q < s.heap.size → U.heap[q]? = s.heap[q]?) (hl : (Cond.laysStatic C n d).before args s = true) (h : (Cond.isRef (.static C n d)).before args s = true) : (Cond.isRef (.static C n d)).before a' U = true := by
  obtain ⟨c, k, i, f, a, cell, h1, h2, h3, h4, h5, h6, h7, h8, h9⟩ := Cond.laysStatic_spec hl
  obtain ⟨k', hi', he⟩ := State.fieldFound?_setVm hW.alike h2
  have h5' : U.heap[a]? = some cell := by rw [hO a (Array.getElem?_eq_some_iff.mp h5).1]; exact h5
  have e1 : (Term.static C n d).eval args s none [] s = cell.slots[f.slot]? := by
    simp [Term.eval, State.fieldNamed?, h2, h3, h4, h5, h6]
  have e2 : (Term.static C n d).eval a' U none [] U = cell.slots[f.slot]? := by
    have hi2 : U.fieldFound? C n d = some (c, k', i, f) := hi'
    simp [Term.eval, State.fieldNamed?, hi2, h3, show k'.statics = some a by rw [he]; exact h4, h5', h6]
  simp only [Cond.before, Cond.holds, Cond.value, e1] at h
  simp only [Cond.before, Cond.holds, Cond.value, e2]
  exact h
def xg_tb : List Cond := lw_tbl.filter xg_ok
abbrev xg_tN : String := "java/lang/Throwable"
abbrev xg_Ty (G : xg_G) : List (ClassId × FieldType) := [(G.2.2.1, .int), (G.2.2.2.1, .long), (G.2.2.2.2, .object "SealTrust$Motion")]
/-- the classes of exceptions, and which is not which -/
def xg_ne : List (String × String) := [("java/lang/IllegalArgumentException", "java/util/NoSuchElementException"), ("java/lang/IllegalStateException", "java/util/NoSuchElementException"), ("java/lang/ArithmeticException", "java/util/NoSuchElementException"), ("java/lang/ArithmeticException", "java/lang/IllegalStateException"), ("java/lang/IllegalStateException", "java/lang/IllegalArgumentException")]
/-- what the start says -/
def xg_F (G : xg_G) : Prop :=
  (∀ w ∈ lw_tbl, w.before #[] G.1 = true) ∧ va_K G.2.1 cl_all (xg_Ty G) G.1 ∧ (Cond.isRef (.static xg_tN "UNASSIGNED_STACK" "[Ljava/lang/StackTraceElement;")).before #[] G.1 = true ∧ (Cond.isRef (.static xg_tN "SUPPRESSED_SENTINEL" "Ljava/util/List;")).before #[] G.1 = true ∧ (∀ q ∈ xg_ne, va_Nc q.1 q.2 G.1)
theorem xg_w {G : xg_G} {s : State} (hg : xg_F G) (hw : G.1.WarmedH s.vm) {w : Cond} (hm : w ∈ lw_tbl) (hk : xg_st w = true) (args : Array Value) : w.before args s = true := xg_stable hw hk (hg.1 w hm)
theorem xg_t {G : xg_G} {s : State} (hg : xg_F G) (hw : G.1.WarmedH s.vm) (args : Array Value) : ∀ w ∈ xg_tb, w.before args s = true := fun w h => xg_word hw (List.mem_filter.mp h).2 (hg.1 w (List.mem_filter.mp h).1)
theorem xg_k {G : xg_G} {s : State} (hg : xg_F G) (hw : G.1.WarmedH s.vm) : va_K G.2.1 cl_all (xg_Ty G) s := va_K.moved hw.alike hg.2.1
/-- a method's start: its arguments, the heap, tables that are the start's or warmer -/
def xg_Pc (G : xg_G) (av : List Value) (H : Heap) : Array Value → State → Prop := fun v U => v = av.toArray ∧ U.heap = H ∧ G.1.WarmedH U.vm
theorem xg_blind {G : xg_G} {av : List Value} {H : Heap} : FrameBlind (xg_Pc G av H) := fun _ U g mk h => ⟨h.1, (xc_hpc U g mk _).trans h.2.1, h.2.2⟩
theorem xg_pre {G : xg_G} {av : List Value} {H : Heap} {s : State} (hw : G.1.WarmedH s.vm) : ∀ U : State, U.heap = H → s.WarmedH U.vm → xg_Pc G av H av.toArray U := fun U h hW => ⟨rfl, h, State.WarmedH.trans hw hW⟩
/-- the old cells are as they were at the start -/
def xg_O (G : xg_G) (H : Heap) : Prop := ∀ q : Nat, q < G.1.heap.size → H[q]? = G.1.heap[q]?
theorem in_BU : ∀ w ∈ u_ws "SealTrust$Buffer" T_BU 2, w ∈ xg_tb := by decide +kernel
theorem in_KE : ∀ w ∈ u_ws "SealTrust$Key" T_KE 11, w ∈ xg_tb := by decide +kernel
theorem in_MO : ∀ w ∈ u_ws "SealTrust$Motion" T_MO 8, w ∈ xg_tb := by decide +kernel
theorem in_ST : ∀ w ∈ u_ws "SealTrust" T_ST 7, w ∈ xg_tb := by decide +kernel
theorem in_MD : ∀ w ∈ u_ws "SealTrustModel" T_MD 23, w ∈ xg_tb := by decide +kernel
section Sites
variable {p : Program} {l : Launch} {e : Env} {R : Room} {s : State} {m : MethodId} {args : Array Value} {below : List Frame} {meth : Method} {c : Code} {H : Heap} {locs : List Loc} {cells slots : Nat} {G : xg_G}
variable {y : MethodName} {cc bytes : ByteArray} {maxL nL n index kw pc : Nat} {rm : Room} {post : xc_R → Heap → Prop} {A : Nat → Prop} {own host : String} {b : Nat} {As rest st0 : List Value} {ls : Array Slot} {ret : Option FieldType}
/-- a call of a static method by the entry 'index' of the class 'own' -/
def xg_siteS (own : String) (index : Nat) (y : MethodName) (bytes : ByteArray) (maxL : Nat) (ret : Option FieldType) (n : Nat) : Prop :=
  Cond.methodLink own index y ∈ lw_tbl ∧ Cond.static y ∈ lw_tbl ∧ Cond.initialized y.cls ∈ lw_tbl ∧ Cond.code y bytes maxL ret ∈ lw_tbl ∧ xc_no y ∧ (parseMethodDescriptor y.desc).map (fun d => d.parameters.length) = some n
/-- .. of a nest mate -/
def xg_siteSN (own : String) (index : Nat) (y : MethodName) (host : String) (bytes : ByteArray) (maxL : Nat) (ret : Option FieldType) (n : Nat) : Prop :=
  Cond.methodLinkNest own index y host ∈ lw_tbl ∧ Cond.static y ∈ lw_tbl ∧ Cond.initialized y.cls ∈ lw_tbl ∧ Cond.code y bytes maxL ret ∈ lw_tbl ∧ xc_no y ∧ (parseMethodDescriptor y.desc).map (fun d => d.parameters.length) = some n
/-- .. of a static method with a table of handlers -/
def xg_siteSW (own : String) (index : Nat) (y : MethodName) (bytes : ByteArray) (maxL : Nat) (ret : Option FieldType) (hh : List (Nat × Nat × Nat × Nat)) (n : Nat) : Prop :=
  Cond.methodLink own index y ∈ lw_tbl ∧ Cond.static y ∈ lw_tbl ∧ Cond.initialized y.cls ∈ lw_tbl ∧ Cond.codeWith y bytes maxL ret hh ∈ lw_tbl ∧ xc_no y ∧ (parseMethodDescriptor y.desc).map (fun d => d.parameters.length) = some n
/-- .. of an object's method -/
def xg_siteV (own : String) (index : Nat) (y : MethodName) (bytes : ByteArray) (maxL : Nat) (ret : Option FieldType) (n : Nat) : Prop :=
  Cond.methodLink own index y ∈ lw_tbl ∧ Cond.instanceMethod y ∈ lw_tbl ∧ Cond.selects y.cls y y ∈ lw_tbl ∧ Cond.initialized y.cls ∈ lw_tbl ∧ Cond.code y bytes maxL ret ∈ lw_tbl ∧ xc_no y ∧ (parseMethodDescriptor y.desc).map (fun d => d.parameters.length) = some n
/-- .. of a constructor -/
def xg_siteI (own : String) (index : Nat) (y : MethodName) (bytes : ByteArray) (maxL : Nat) (n : Nat) : Prop :=
  Cond.methodLink own index y ∈ lw_tbl ∧ Cond.instanceMethod y ∈ lw_tbl ∧ Cond.initialized y.cls ∈ lw_tbl ∧ Cond.code y bytes maxL none ∈ lw_tbl ∧ xc_no y ∧ (parseMethodDescriptor y.desc).map (fun d => d.parameters.length) = some n ∧ y.name = "<init>"
theorem xg_room (h : (rest.map fun v => v.category).sum ≤ kw) : 2 * (F0 m pc ls st0).monitorRoom + (rest.map fun v => v.category).sum ≤ kw := by
  have h1 : (F0 m pc ls st0).monitorRoom = 0 := rfl
  rw [h1]
  omega
theorem xg_runS (hs : xg_siteS own index y bytes maxL ret n) (hg : xg_F G) (hw : G.1.WarmedH s.vm) (S : xc_Fix p m c cc nL s own) (hM : xc_Met l y (.code y bytes maxL ret) rm (xg_Pc G As H) post A) (hf : xc_Fits R rm maxL kw cells slots)
    (hn : As.length = n) (hsize : ls.size = nL) (hstack : st0 = As.reverse ++ rest) (hW : (rest.map fun v => v.category).sum ≤ kw) (hdg : decode cc pc = .ok (.invokestatic index, 3)) : xc_Run p l e R s m args below meth c H locs cells slots (F0 m pc ls st0) rest rm.cells rm.slots post A :=
  xc_runS S hM (xc_C.of (xg_w hg hw hs.2.2.2.1 rfl args) hs.2.2.2.2.2) (xg_w hg hw hs.1 rfl args) (xg_w hg hw hs.2.1 rfl args) (xg_w hg hw hs.2.2.1 rfl args) hs.2.2.2.2.1 hf xg_blind (xg_pre hw) rfl hn hsize hstack (xg_room hW) hdg
theorem xg_runSN (hs : xg_siteSN own index y host bytes maxL ret n) (hg : xg_F G) (hw : G.1.WarmedH s.vm) (S : xc_Fix p m c cc nL s own) (hM : xc_Met l y (.code y bytes maxL ret) rm (xg_Pc G As H) post A) (hf : xc_Fits R rm maxL kw cells slots)
    (hn : As.length = n) (hsize : ls.size = nL) (hstack : st0 = As.reverse ++ rest) (hW : (rest.map fun v => v.category).sum ≤ kw) (hdg : decode cc pc = .ok (.invokestatic index, 3)) : xc_Run p l e R s m args below meth c H locs cells slots (F0 m pc ls st0) rest rm.cells rm.slots post A :=
  xc_runSN S hM (xc_C.of (xg_w hg hw hs.2.2.2.1 rfl args) hs.2.2.2.2.2) (xg_w hg hw hs.1 rfl args) (xg_w hg hw hs.2.1 rfl args) (xg_w hg hw hs.2.2.1 rfl args) hs.2.2.2.2.1 hf xg_blind (xg_pre hw) rfl hn hsize hstack (xg_room hW) hdg
theorem xg_runSW {hh : List (Nat × Nat × Nat × Nat)} (hs : xg_siteSW own index y bytes maxL ret hh n) (hg : xg_F G) (hw : G.1.WarmedH s.vm) (S : xc_Fix p m c cc nL s own) (hM : xc_Met l y (.codeWith y bytes maxL ret hh) rm (xg_Pc G As H) post A) (hf : xc_Fits R rm maxL kw cells slots)
    (hn : As.length = n) (hsize : ls.size = nL) (hstack : st0 = As.reverse ++ rest) (hW : (rest.map fun v => v.category).sum ≤ kw) (hdg : decode cc pc = .ok (.invokestatic index, 3)) : xc_Run p l e R s m args below meth c H locs cells slots (F0 m pc ls st0) rest rm.cells rm.slots post A :=
  xc_runS S hM (xc_C.ofW (xg_w hg hw hs.2.2.2.1 rfl args) hs.2.2.2.2.2) (xg_w hg hw hs.1 rfl args) (xg_w hg hw hs.2.1 rfl args) (xg_w hg hw hs.2.2.1 rfl args) hs.2.2.2.2.1 hf xg_blind (xg_pre hw) rfl hn hsize hstack (xg_room hW) hdg
theorem xg_runV (hs : xg_siteV own index y bytes maxL ret n) (hg : xg_F G) (hw : G.1.WarmedH s.vm) (S : xc_Fix p m c cc nL s own) (hO : xc_O s H y.cls b) (hM : xc_Met l y (.code y bytes maxL ret) rm (xg_Pc G (.ref b :: As) H) post A) (hf : xc_Fits R rm maxL kw cells slots)
    (hn : As.length = n) (hsize : ls.size = nL) (hstack : st0 = As.reverse ++ .ref b :: rest) (hW : (rest.map fun v => v.category).sum ≤ kw) (hdg : decode cc pc = .ok (.invokevirtual index, 3)) : xc_Run p l e R s m args below meth c H locs cells slots (F0 m pc ls st0) rest rm.cells rm.slots post A :=
  xc_runV S hM (xc_C.of (xg_w hg hw hs.2.2.2.2.1 rfl args) hs.2.2.2.2.2.2) (xg_w hg hw hs.1 rfl args) (xg_w hg hw hs.2.1 rfl args) (xg_w hg hw hs.2.2.1 rfl args) (xg_w hg hw hs.2.2.2.1 rfl args) hs.2.2.2.2.2.1 hf hO xg_blind (xg_pre hw) rfl hn hsize hstack (xg_room hW) hdg
theorem xg_runI (hs : xg_siteI own index y bytes maxL n) (hg : xg_F G) (hw : G.1.WarmedH s.vm) (S : xc_Fix p m c cc nL s own) (hM : xc_Met l y (.code y bytes maxL none) rm (xg_Pc G (.ref b :: As) H) post A) (hf : xc_Fits R rm maxL kw cells slots)
    (hn : As.length = n) (hsize : ls.size = nL) (hstack : st0 = As.reverse ++ .ref b :: rest) (hW : (rest.map fun v => v.category).sum ≤ kw) (hdg : decode cc pc = .ok (.invokespecial index, 3)) : xc_Run p l e R s m args below meth c H locs cells slots (F0 m pc ls st0) rest rm.cells rm.slots post A :=
  xc_runI S hM (xg_w hg hw hs.2.2.2.1 rfl args) hs.2.2.2.2.2.1 (xg_w hg hw hs.1 rfl args) (xg_w hg hw hs.2.1 rfl args) (xg_w hg hw hs.2.2.1 rfl args) hs.2.2.2.2.2.2 hs.2.2.2.2.1 hf xg_blind (xg_pre hw) rfl hn hsize hstack (xg_room hW) hdg
end Sites
end XGA
