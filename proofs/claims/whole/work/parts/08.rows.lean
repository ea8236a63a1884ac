/-! short forms of the rows that the walks use most -/
section XRO
variable {p : Program} {l : Launch} {e : Env} {R : Room} {s : State} {m : MethodId} {args : Array Value} {below : List Frame} {meth : Method} {c : Code} {H : Heap} {locs : List Loc} {cells slots : Nat} {Q : State → Prop} {pc : Nat} {ls : Array Slot} {rest st0 : List Value} {cc : ByteArray}
/-- a call that changes nothing and gives back v -/
theorem xg_read {v : Value} (hr : xc_Run p l e R s m args below meth c H locs cells slots (F0 m pc ls st0) rest 0 0 (xc_ro (some v) H) (fun _ => False))
    (k : W p l e R s m args below meth c H locs cells slots Q (F0 m (pc + 3) ls (v :: rest))) : W p l e R s m args below meth c H locs cells slots Q (F0 m pc ls st0) := xc_read hr k
abbrev xg_Z (below : List Frame) (v : Option Value) (args : Array Value) (s : State) : State → Prop := xc_Z below (xc_ro v s.heap) (fun _ => False) args s 0 0
/-- the ends of bodies that change nothing -/
theorem xg_iret {v r : Int32} (hx : p.tables.exec = Jvm.exec) (hb : c.code = cc) (ht : meth.sig.returnType = some .int) (hl : meth.locks = false) (hr : v = r) (hdg : decode cc pc = .ok (.ireturn, 1)) :
    W p l e R s m args below meth c s.heap [] 0 0 (xg_Z below (some (.int r)) args s) (F0 m pc ls [.int v]) :=
  xc_iret hx hb ht hl xc_F.rf (fun _ h => nomatch h) ⟨by rw [hr], rfl⟩ hdg
theorem xg_lret {v r : Int64} (hx : p.tables.exec = Jvm.exec) (hb : c.code = cc) (ht : meth.sig.returnType = some .long) (hl : meth.locks = false) (hr : v = r) (hdg : decode cc pc = .ok (.lreturn, 1)) :
    W p l e R s m args below meth c s.heap [] 0 0 (xg_Z below (some (.long r)) args s) (F0 m pc ls [.long v]) :=
  xc_lret hx hb ht hl xc_F.rf (fun _ h => nomatch h) ⟨by rw [hr], rfl⟩ hdg
theorem xg_zret {v r : Int32} (hx : p.tables.exec = Jvm.exec) (hb : c.code = cc) (ht : meth.sig.returnType = some .boolean) (hl : meth.locks = false) (hn : narrow .boolean (.int v) = .int v) (hr : v = r) (hdg : decode cc pc = .ok (.ireturn, 1)) :
    W p l e R s m args below meth c s.heap [] 0 0 (xg_Z below (some (.int r)) args s) (F0 m pc ls [.int v]) :=
  xc_zret hx hb ht hn hl xc_F.rf (fun _ h => nomatch h) ⟨by rw [hr], rfl⟩ hdg
theorem xg_vret (hx : p.tables.exec = Jvm.exec) (hb : c.code = cc) (ht : meth.sig.returnType = none) (hl : meth.locks = false) (hdg : decode cc pc = .ok (.return_, 1)) :
    W p l e R s m args below meth c s.heap [] 0 0 (xg_Z below none args s) (F0 m pc ls []) :=
  xc_vret hx hb ht hl xc_F.rf (fun _ h => nomatch h) ⟨rfl, rfl⟩ hdg
theorem xg_nb {v : Int32} (h : v = 0 ∨ v = 1) : narrow .boolean (.int v) = .int v := by
  rcases h with h | h <;> rw [h] <;> rfl
end XRO
/-! a counter goes up: what is left falls -/
theorem xi_inc {x : Int32} (h : x.toInt < 2147483647) : (x + 1).toInt = x.toInt + 1 := by
  rw [Int32.toInt_add]
  have h1 := Int32.le_toInt x
  have h2 : (1 : Int32).toInt = 1 := by decide
  rw [h2]
  exact Int.bmod_eq_of_le (by omega) (by omega)
theorem xi_up {x M : Int32} {n : Nat} (h : ¬ M ≤ x) (hmu : (M.toInt - x.toInt).toNat < n + 1) : (M.toInt - (x + 1).toInt).toNat < n := by
  rw [Int32.le_iff_toInt_le] at h
  have h3 := Int32.toInt_lt M
  rw [xi_inc (by omega)]
  omega
theorem xi_mul {x y : Int32} (h1 : -2147483648 ≤ x.toInt * y.toInt) (h2 : x.toInt * y.toInt ≤ 2147483647) : (x * y).toInt = x.toInt * y.toInt := by
  rw [Int32.toInt_mul]
  exact Int.bmod_eq_of_le (by omega) (by omega)
/-- trial division below 32768: the next divisor -/
theorem xi_sq {d k : Int32} {n : Nat} (hk : k.toInt ≤ 32767) (h : ¬ k < d * d) (hmu : 2 ≤ d.toInt ∧ d.toInt ≤ 200 ∧ (200 - d.toInt).toNat < n + 1) : 2 ≤ (d + 1).toInt ∧ (d + 1).toInt ≤ 200 ∧ (200 - (d + 1).toInt).toNat < n := by
  rw [Int32.lt_iff_toInt_lt] at h
  have hb : d.toInt * d.toInt ≤ 200 * 200 := Int.mul_le_mul hmu.2.1 hmu.2.1 (by omega) (by omega)
  have hb0 : 0 ≤ d.toInt * d.toInt := Int.mul_nonneg (by omega) (by omega)
  rw [xi_mul (by omega) (by omega)] at h
  have h182 : d.toInt < 190 := by
    by_cases h9 : d.toInt < 190
    · exact h9
    · have : 190 * 190 ≤ d.toInt * d.toInt := Int.mul_le_mul (by omega) (by omega) (by omega) (by omega)
      omega
  rw [xi_inc (by omega)]
  omega
theorem xi_ne {d : Int32} (h : 2 ≤ d.toInt) : ¬ d = 0 := by
  intro z
  rw [z] at h
  exact absurd h (by decide)
theorem xi_0l {d : Int64} (h : 0 < d) : ¬ d = 0 := by
  intro z
  rw [z] at h
  exact absurd h (by decide)
theorem xi_up0 {x M : Int32} {n : Nat} (h : ¬ M ≤ x) (hmu : 0 ≤ x.toInt ∧ (M.toInt - x.toInt).toNat < n + 1) : 0 ≤ (x + 1).toInt ∧ (M.toInt - (x + 1).toInt).toNat < n := by
  refine ⟨?_, xi_up h hmu.2⟩
  rw [Int32.le_iff_toInt_le] at h
  have h3 := Int32.toInt_lt M
  rw [xi_inc (by omega)]
  omega
theorem xi_in {x M : Int32} {k : Nat} (h : ¬ M ≤ x) (h0 : 0 ≤ x.toInt) (hM : M.toInt ≤ (k : Int)) : vp_in x k := by
  rw [Int32.le_iff_toInt_le] at h
  exact vp_in_iff.mpr ⟨h0, by omega⟩
