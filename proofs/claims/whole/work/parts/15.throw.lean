/-! throwing: what a throw asks of the tables; an exception whose constructor hands on by another entry than 7 -/
section XTH
abbrev xt_U : Cond := .isRef (.static xg_tN "UNASSIGNED_STACK" "[Ljava/lang/StackTraceElement;")
abbrev xt_S : Cond := .isRef (.static xg_tN "SUPPRESSED_SENTINEL" "Ljava/util/List;")
abbrev xt_LU : Cond := .laysStatic xg_tN "UNASSIGNED_STACK" "[Ljava/lang/StackTraceElement;"
abbrev xt_LS : Cond := .laysStatic xg_tN "SUPPRESSED_SENTINEL" "Ljava/util/List;"
theorem xt_lu : xt_LU ∈ lw_tbl := by decide +kernel
theorem xt_ls : xt_LS ∈ lw_tbl := by decide +kernel
def xt_at (w : Cond) : Bool := (decide (w ∈ lw_tbl) && xg_st w) || decide (w = xt_U) || decide (w = xt_S) || decide (w = xt_LU) || decide (w = xt_LS)
theorem xt_ok {G : xg_G} {s : State} (hg : xg_F G) (hw : G.1.WarmedH s.vm) (hO : xg_O G s.heap) (args : Array Value) {w : Cond} (h : xt_at w = true) : w.before args s = true := by
  simp only [xt_at, Bool.or_eq_true, Bool.and_eq_true, decide_eq_true_eq] at h
  rcases h with (((⟨h1, h2⟩ | rfl) | rfl) | rfl) | rfl
  · exact xg_w hg hw h1 h2 args
  · exact xg_isRef hw hO (hg.1 _ xt_lu) hg.2.2.1
  · exact xg_isRef hw hO (hg.1 _ xt_ls) hg.2.2.2.1
  · exact xg_lays hw hO (hg.1 _ xt_lu)
  · exact xg_lays hw hO (hg.1 _ xt_ls)
/-- the words of a throw whose first constructor hands on by entry ix -/
def xt_words (own : String) (ic : Nat) (X Y0 : String) (ix : Nat) (bts : ByteArray) (names : List String) : List Cond :=
  Bundle.throwableAtoms ++ Bundle.throwableSAtoms ++ Bundle.passSAtoms X Y0 ix bts ++ Bundle.chainSAtoms Y0 names ++
  [.methodLink own ic (Bundle.initS X), .instantiable X 6, .castable X X, .selects X Bundle.tFill0 Bundle.tFill0, .selects X Bundle.tFill Bundle.tFill,
   .lays X Bundle.tN "cause" "Ljava/lang/Throwable;", .lays X Bundle.tN "stackTrace" Bundle.steD, .lays X Bundle.tN "suppressedExceptions" Bundle.listD, .lays X Bundle.tN "detailMessage" "Ljava/lang/String;",
   .isRef (.static Bundle.tN "UNASSIGNED_STACK" Bundle.steD), .isRef (.static Bundle.tN "SUPPRESSED_SENTINEL" Bundle.listD),
   .fieldLink Bundle.tN 198 Bundle.tN "backtrace" "Ljava/lang/Object;", .lays Bundle.tN Bundle.tN "backtrace" "Ljava/lang/Object;", .lays X Bundle.tN "backtrace" "Ljava/lang/Object;"]
def xt_six : ByteArray := ⟨#[0x2a, 0x2b, 0xb7, 0x00, 0x0d, 0xb1]⟩
theorem xt_a1 : ∀ w ∈ Bundle.ownAtoms "SealTrust" 42 "java/lang/IllegalArgumentException" ["java/lang/RuntimeException", "java/lang/Exception"], xt_at w = true := by decide +kernel
theorem xt_a2 : ∀ w ∈ Bundle.ownAtoms "SealTrust" 87 "java/lang/IllegalStateException" ["java/lang/RuntimeException", "java/lang/Exception"], xt_at w = true := by decide +kernel
theorem xt_a3 : ∀ w ∈ Bundle.ownAtoms "SealTrust" 171 "java/lang/ArithmeticException" ["java/lang/RuntimeException", "java/lang/Exception"], xt_at w = true := by decide +kernel
theorem xt_a4 : ∀ w ∈ xt_words "SealTrust" 142 "java/util/NoSuchElementException" "java/lang/RuntimeException" 13 xt_six ["java/lang/Exception"], xt_at w = true := by decide +kernel
end XTH
