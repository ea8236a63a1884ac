/-! methods that may throw: their contracts' ends, throws, calls of them -/
section XTT
/-- it gave back v and changed nothing, or it threw E and changed nothing that was -/
def xt_ro (g : Option String) (v : Option Value) (H : Heap) : xc_R → Heap → Prop := fun r H1 => (g = none ∧ r = .inl v ∧ H1 = H) ∨ ∃ E, g = some E ∧ r = .inr E ∧ xc_F (fun _ => False) H H1
/-- it gave back v and the cells are ws, or it threw E and changed nothing that was -/
def xt_wr (G : xg_G) (A : Nat → Prop) (g : Option String) (v : Option Value) (ws : va_W) (H : Heap) : xc_R → Heap → Prop := fun r H1 => (g = none ∧ r = .inl v ∧ va_P G.2.1 cl_all ws H1 ∧ va_D A ws) ∨ ∃ E, g = some E ∧ r = .inr E ∧ xc_F (fun _ => False) H H1
def xt_el {α : Type} (g : Option String) (d k : α) : α := match g with
  | none => k
  | some _ => d
theorem xt_el0 {α : Type} {g : Option String} {d k : α} (h : g = none) : xt_el g d k = k := by rw [h]; rfl
theorem xt_el1 {α : Type} {g : Option String} {d k : α} {E : String} (h : g = some E) : xt_el g d k = d := by rw [h]; rfl
theorem xt_ne {x k : Int32} (h : ¬ x = k) : x.toInt ≠ k.toInt := fun z => h (Int32.toInt_inj.mp z)
abbrev xt_IA : String := "java/lang/IllegalArgumentException"
abbrev xt_IS : String := "java/lang/IllegalStateException"
abbrev xt_AR : String := "java/lang/ArithmeticException"
abbrev xt_NS : String := "java/util/NoSuchElementException"
abbrev xt_cs : List String := ["java/lang/RuntimeException", "java/lang/Exception"]
theorem xt_f1 : ∀ n ∈ xt_cs, Bundle.fit n = true := by decide +kernel
theorem xt_f2 : ∀ n ∈ ["java/lang/Exception"], Bundle.fit n = true := by decide +kernel
theorem xt_k1 : Cond.classLink "SealTrust" 38 xt_IA ∈ lw_tbl := by decide +kernel
theorem xt_k2 : Cond.classLink "SealTrust" 83 xt_IS ∈ lw_tbl := by decide +kernel
theorem xt_k3 : Cond.classLink "SealTrust" 167 xt_AR ∈ lw_tbl := by decide +kernel
theorem xt_k4 : Cond.classLink "SealTrust" 138 xt_NS ∈ lw_tbl := by decide +kernel
theorem xt_i1 : Cond.initialized xt_IA ∈ lw_tbl := by decide +kernel
theorem xt_i2 : Cond.initialized xt_IS ∈ lw_tbl := by decide +kernel
theorem xt_i3 : Cond.initialized xt_AR ∈ lw_tbl := by decide +kernel
theorem xt_i4 : Cond.initialized xt_NS ∈ lw_tbl := by decide +kernel
variable {p : Program} {l : Launch} {e : Env} {R : Room} {s : State} {m : MethodId} {args : Array Value} {below : List Frame} {meth : Method} {c : Code} {cells slots : Nat} {G : xg_G}
variable {post : xc_R → Heap → Prop} {A : Nat → Prop} {pc nL : Nat} {ls : Array Slot} {cc : ByteArray} {is mc ms : Nat} {text : String} {g : Option String} {v : Option Value} {ws : va_W} {H : Heap} {locs : List Loc}
theorem xt_ro0 : xt_ro none v H (.inl v) H := Or.inl ⟨rfl, rfl, rfl⟩
theorem xt_ro1 {E : String} {H1 : Heap} (h : xc_F (fun _ => False) H H1) : xt_ro (some E) v H (.inr E) H1 := Or.inr ⟨E, rfl, rfl, h⟩
theorem xt_wr0 {H1 : Heap} (hP : va_P G.2.1 cl_all ws H1) (hD : va_D A ws) : xt_wr G A none v ws H (.inl v) H1 := Or.inl ⟨rfl, rfl, hP, hD⟩
theorem xt_wr1 {E : String} {H1 : Heap} (h : xc_F (fun _ => False) H H1) : xt_wr G A (some E) v ws H (.inr E) H1 := Or.inr ⟨E, rfl, rfl, h⟩
theorem th_1 (hg : xg_F G) (hw : G.1.WarmedH s.vm) (hO : xg_O G s.heap) (S : xc_Fix p m c cc nL s "SealTrust") (hl9 : l.stackTraces = false) (hl0 : meth.locks = false) (hE : c.exceptionTable.isEmpty = true) (hm9 : Cond.stringRef "SealTrust" is text ∈ lw_tbl) (hsize : ls.size = nL)
    (d0 : decode cc pc = .ok (.new 38, 3)) (d3 : decode cc (pc + 3) = .ok (.dup, 1)) (d4 : decode cc (pc + 4) = .ok (.ldc is, 2)) (d6 : decode cc (pc + 6) = .ok (.invokespecial 42, 3)) (d9 : decode cc (pc + 9) = .ok (.athrow, 1))
    (hf : 5 < R.frames ∧ 82 ≤ R.locals ∧ cells + 1 ≤ R.cells ∧ slots + 6 ≤ R.slots) (hm : cells + 1 ≤ mc ∧ slots + 6 ≤ ms) (hp : ∀ H1 : Heap, xc_F (fun _ => False) s.heap H1 → post (.inr xt_IA) H1) :
    W p l e R s m args below meth c s.heap [] cells slots (xc_Z below post A args s mc ms) (F0 m pc ls []) :=
  xc_throw (names := xt_cs) S.1 S.2.1 hl9 hl0 hE S.2.2.2 (by decide +kernel) xt_f1 (xg_w hg hw xt_k1 rfl args) (xg_w hg hw xt_i1 rfl args) (xg_string hw (hg.1 _ hm9)) (fun w h => xt_ok hg hw hO args (xt_a1 w h)) (hsize.trans S.2.2.1.symm) d0 d3 d4 d6 d9 hf hm hp
theorem th_2 (hg : xg_F G) (hw : G.1.WarmedH s.vm) (hO : xg_O G s.heap) (S : xc_Fix p m c cc nL s "SealTrust") (hl9 : l.stackTraces = false) (hl0 : meth.locks = false) (hE : c.exceptionTable.isEmpty = true) (hm9 : Cond.stringRef "SealTrust" is text ∈ lw_tbl) (hsize : ls.size = nL)
    (d0 : decode cc pc = .ok (.new 83, 3)) (d3 : decode cc (pc + 3) = .ok (.dup, 1)) (d4 : decode cc (pc + 4) = .ok (.ldc is, 2)) (d6 : decode cc (pc + 6) = .ok (.invokespecial 87, 3)) (d9 : decode cc (pc + 9) = .ok (.athrow, 1))
    (hf : 5 < R.frames ∧ 82 ≤ R.locals ∧ cells + 1 ≤ R.cells ∧ slots + 6 ≤ R.slots) (hm : cells + 1 ≤ mc ∧ slots + 6 ≤ ms) (hp : ∀ H1 : Heap, xc_F (fun _ => False) s.heap H1 → post (.inr xt_IS) H1) :
    W p l e R s m args below meth c s.heap [] cells slots (xc_Z below post A args s mc ms) (F0 m pc ls []) :=
  xc_throw (names := xt_cs) S.1 S.2.1 hl9 hl0 hE S.2.2.2 (by decide +kernel) xt_f1 (xg_w hg hw xt_k2 rfl args) (xg_w hg hw xt_i2 rfl args) (xg_string hw (hg.1 _ hm9)) (fun w h => xt_ok hg hw hO args (xt_a2 w h)) (hsize.trans S.2.2.1.symm) d0 d3 d4 d6 d9 hf hm hp
theorem th_3 (hg : xg_F G) (hw : G.1.WarmedH s.vm) (hO : xg_O G s.heap) (S : xc_Fix p m c cc nL s "SealTrust") (hl9 : l.stackTraces = false) (hl0 : meth.locks = false) (hE : c.exceptionTable.isEmpty = true) (hm9 : Cond.stringRef "SealTrust" is text ∈ lw_tbl) (hsize : ls.size = nL)
    (d0 : decode cc pc = .ok (.new 167, 3)) (d3 : decode cc (pc + 3) = .ok (.dup, 1)) (d4 : decode cc (pc + 4) = .ok (.ldc is, 2)) (d6 : decode cc (pc + 6) = .ok (.invokespecial 171, 3)) (d9 : decode cc (pc + 9) = .ok (.athrow, 1))
    (hf : 5 < R.frames ∧ 82 ≤ R.locals ∧ cells + 1 ≤ R.cells ∧ slots + 6 ≤ R.slots) (hm : cells + 1 ≤ mc ∧ slots + 6 ≤ ms) (hp : ∀ H1 : Heap, xc_F (fun _ => False) s.heap H1 → post (.inr xt_AR) H1) :
    W p l e R s m args below meth c s.heap [] cells slots (xc_Z below post A args s mc ms) (F0 m pc ls []) :=
  xc_throw (names := xt_cs) S.1 S.2.1 hl9 hl0 hE S.2.2.2 (by decide +kernel) xt_f1 (xg_w hg hw xt_k3 rfl args) (xg_w hg hw xt_i3 rfl args) (xg_string hw (hg.1 _ hm9)) (fun w h => xt_ok hg hw hO args (xt_a3 w h)) (hsize.trans S.2.2.1.symm) d0 d3 d4 d6 d9 hf hm hp
theorem th_4 (hg : xg_F G) (hw : G.1.WarmedH s.vm) (hO : xg_O G s.heap) (S : xc_Fix p m c cc nL s "SealTrust") (hl9 : l.stackTraces = false) (hl0 : meth.locks = false) (hE : c.exceptionTable.isEmpty = true) (hm9 : Cond.stringRef "SealTrust" is text ∈ lw_tbl) (hsize : ls.size = nL)
    (d0 : decode cc pc = .ok (.new 138, 3)) (d3 : decode cc (pc + 3) = .ok (.dup, 1)) (d4 : decode cc (pc + 4) = .ok (.ldc is, 2)) (d6 : decode cc (pc + 6) = .ok (.invokespecial 142, 3)) (d9 : decode cc (pc + 9) = .ok (.athrow, 1))
    (hf : 5 < R.frames ∧ 82 ≤ R.locals ∧ cells + 1 ≤ R.cells ∧ slots + 6 ≤ R.slots) (hm : cells + 1 ≤ mc ∧ slots + 6 ≤ ms) (hp : ∀ H1 : Heap, xc_F (fun _ => False) s.heap H1 → post (.inr xt_NS) H1) :
    W p l e R s m args below meth c s.heap [] cells slots (xc_Z below post A args s mc ms) (F0 m pc ls []) :=
  xn_throw (Y0 := "java/lang/RuntimeException") (names := ["java/lang/Exception"]) S.1 S.2.1 hl9 hl0 hE S.2.2.2 (by decide +kernel) (by decide +kernel) xt_f2 (xg_w hg hw xt_k4 rfl args) (xg_w hg hw xt_i4 rfl args) (xg_string hw (hg.1 _ hm9)) (fun w h => xt_ok hg hw hO args (xt_a4 w h)) (hsize.trans S.2.2.1.symm) d0 d3 d4 d6 d9 hf hm hp
/-- a call that changes nothing but may throw, in a method that has written nothing: what is thrown goes out -/
theorem xt_use {rest st0 : List Value} {mc9 ms9 : Nat} (hr : xc_Run p l e R s m args below meth c s.heap [] cells slots (F0 m pc ls st0) rest mc ms (xt_ro g v s.heap) (fun _ => False)) (hl0 : meth.locks = false) (hE : c.exceptionTable.isEmpty = true) (h1 : cells + mc ≤ mc9) (h2 : slots + ms ≤ ms9)
    (hp : ∀ (E : String) (H1 : Heap), g = some E → xc_F (fun _ => False) s.heap H1 → post (.inr E) H1)
    (k0 : g = none → W p l e R s m args below meth c s.heap [] (cells + mc) (slots + ms) (xc_Z below post A args s mc9 ms9) (F0 m (pc + 3) ls (v.toList ++ rest))) : W p l e R s m args below meth c s.heap [] cells slots (xc_Z below post A args s mc9 ms9) (F0 m pc ls st0) := by
  refine xc_use hr (fun v' H1 L hq hF hL => ?_) (fun q E ce H1 L hq hF hL hce hcv hcl => ?_)
  · rcases hq with ⟨h3, h4, h5⟩ | ⟨E, h3, h4, h5⟩
    · cases h4
      subst h5
      rw [xc_nil hL, List.append_nil]
      exact k0 h3
    · cases h4
  · rcases hq with ⟨h3, h4, h5⟩ | ⟨E', h3, h4, h5⟩
    · cases h4
    · cases h4
      rw [xc_nil hL, List.append_nil]
      exact xc_widen h1 h2 (xc_thru hl0 (xc_none hE) (h5.weaken (fun _ _ h => h.elim)) (fun q h => nomatch h) hce hcv hcl (hp E H1 h3 h5))
/-- .. from a state that is warmer by room -/
theorem xt_post {Q : State → Prop} {fr : JFrame} (h1 : cells ≤ mc) (h2 : slots ≤ ms) (k : W p l e R s m args below meth c H locs mc ms Q fr) : W p l e R s m args below meth c H locs cells slots Q fr := W.widen h1 h2 k
end XTT
