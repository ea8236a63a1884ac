section
/-- a private method of a class that the tables say can be made, by its rows of tables_1 -/
def lw_okq (q : MethodName × Nat) : Prop := (q.1.cls ≠ "java/lang/invoke/MethodHandle" ∧ q.1.cls ≠ "java/lang/invoke/VarHandle") ∧ Cond.instantiable q.1.cls q.2 ∈ tables_1 ∧ Cond.privateMethod q.1 ∈ tables_1 ∧ Cond.instanceMethod q.1 ∈ tables_1
theorem lw_p0 : lw_okq (⟨"java/lang/Throwable", "fillInStackTrace", "(I)Ljava/lang/Throwable;"⟩, 6) := ⟨⟨by decide +kernel, by decide +kernel⟩, List.mem_of_getElem? (i := 201) (by decide +kernel), List.mem_of_getElem? (i := 199) (by decide +kernel), List.mem_of_getElem? (i := 200) (by decide +kernel)⟩
theorem lw_p1 : lw_okq (⟨"SealTrust$Key", "power", "(JJ)J"⟩, 11) := ⟨⟨by decide +kernel, by decide +kernel⟩, List.mem_of_getElem? (i := 23) (by decide +kernel), List.mem_of_getElem? (i := 250) (by decide +kernel), List.mem_of_getElem? (i := 251) (by decide +kernel)⟩
theorem lw_p2 : lw_okq (⟨"SealTrust", "requireDocument", "()V"⟩, 7) := ⟨⟨by decide +kernel, by decide +kernel⟩, List.mem_of_getElem? (i := 15) (by decide +kernel), List.mem_of_getElem? (i := 282) (by decide +kernel), List.mem_of_getElem? (i := 283) (by decide +kernel)⟩
theorem lw_p3 : lw_okq (⟨"SealTrust", "requireKey", "()V"⟩, 7) := ⟨⟨by decide +kernel, by decide +kernel⟩, List.mem_of_getElem? (i := 15) (by decide +kernel), List.mem_of_getElem? (i := 286) (by decide +kernel), List.mem_of_getElem? (i := 287) (by decide +kernel)⟩
theorem lw_p4 : lw_okq (⟨"SealTrust", "motionAt", "(I)LSealTrust$Motion;"⟩, 7) := ⟨⟨by decide +kernel, by decide +kernel⟩, List.mem_of_getElem? (i := 15) (by decide +kernel), List.mem_of_getElem? (i := 342) (by decide +kernel), List.mem_of_getElem? (i := 343) (by decide +kernel)⟩
theorem lw_p5 : lw_okq (⟨"SealTrust$Key", "times", "(JJ)J"⟩, 11) := ⟨⟨by decide +kernel, by decide +kernel⟩, List.mem_of_getElem? (i := 23) (by decide +kernel), List.mem_of_getElem? (i := 387) (by decide +kernel), List.mem_of_getElem? (i := 388) (by decide +kernel)⟩
theorem lw_p6 : lw_okq (⟨"SealTrust$Key", "challenge", "(IJJJJ)I"⟩, 11) := ⟨⟨by decide +kernel, by decide +kernel⟩, List.mem_of_getElem? (i := 23) (by decide +kernel), List.mem_of_getElem? (i := 391) (by decide +kernel), List.mem_of_getElem? (i := 392) (by decide +kernel)⟩
theorem lw_p7 : lw_okq (⟨"SealTrust", "goodPartials", "(LSealTrust$Motion;)I"⟩, 7) := ⟨⟨by decide +kernel, by decide +kernel⟩, List.mem_of_getElem? (i := 15) (by decide +kernel), List.mem_of_getElem? (i := 441) (by decide +kernel), List.mem_of_getElem? (i := 442) (by decide +kernel)⟩
theorem lw_p8 : lw_okq (⟨"SealTrust$Key", "isBelowModulus", "(J)Z"⟩, 11) := ⟨⟨by decide +kernel, by decide +kernel⟩, List.mem_of_getElem? (i := 23) (by decide +kernel), List.mem_of_getElem? (i := 449) (by decide +kernel), List.mem_of_getElem? (i := 450) (by decide +kernel)⟩
theorem lw_p9 : lw_okq (⟨"SealTrust$Key", "inversePower", "(JJ)J"⟩, 11) := ⟨⟨by decide +kernel, by decide +kernel⟩, List.mem_of_getElem? (i := 23) (by decide +kernel), List.mem_of_getElem? (i := 458) (by decide +kernel), List.mem_of_getElem? (i := 459) (by decide +kernel)⟩
theorem lw_p10 : lw_okq (⟨"SealTrust", "enter", "(I)V"⟩, 7) := ⟨⟨by decide +kernel, by decide +kernel⟩, List.mem_of_getElem? (i := 15) (by decide +kernel), List.mem_of_getElem? (i := 497) (by decide +kernel), List.mem_of_getElem? (i := 498) (by decide +kernel)⟩
theorem lw_p11 : lw_okq (⟨"SealTrust", "dropOpenPartials", "()V"⟩, 7) := ⟨⟨by decide +kernel, by decide +kernel⟩, List.mem_of_getElem? (i := 15) (by decide +kernel), List.mem_of_getElem? (i := 519) (by decide +kernel), List.mem_of_getElem? (i := 520) (by decide +kernel)⟩
theorem lw_p12 : lw_okq (⟨"SealTrustModel", "blockOf", "()J"⟩, 23) := ⟨⟨by decide +kernel, by decide +kernel⟩, List.mem_of_getElem? (i := 575) (by decide +kernel), List.mem_of_getElem? (i := 677) (by decide +kernel), List.mem_of_getElem? (i := 678) (by decide +kernel)⟩
theorem lw_p13 : lw_okq (⟨"SealTrustModel", "begin", "()V"⟩, 23) := ⟨⟨by decide +kernel, by decide +kernel⟩, List.mem_of_getElem? (i := 575) (by decide +kernel), List.mem_of_getElem? (i := 681) (by decide +kernel), List.mem_of_getElem? (i := 682) (by decide +kernel)⟩
theorem lw_p14 : lw_okq (⟨"SealTrustModel", "mix", "(J)V"⟩, 23) := ⟨⟨by decide +kernel, by decide +kernel⟩, List.mem_of_getElem? (i := 575) (by decide +kernel), List.mem_of_getElem? (i := 686) (by decide +kernel), List.mem_of_getElem? (i := 687) (by decide +kernel)⟩
theorem lw_p15 : lw_okq (⟨"SealTrustModel", "mixed", "()J"⟩, 23) := ⟨⟨by decide +kernel, by decide +kernel⟩, List.mem_of_getElem? (i := 575) (by decide +kernel), List.mem_of_getElem? (i := 693) (by decide +kernel), List.mem_of_getElem? (i := 694) (by decide +kernel)⟩
def lw_privs_1 : List (MethodName × Nat) := [(⟨"java/lang/Throwable", "fillInStackTrace", "(I)Ljava/lang/Throwable;"⟩, 6), (⟨"SealTrust$Key", "power", "(JJ)J"⟩, 11), (⟨"SealTrust", "requireDocument", "()V"⟩, 7), (⟨"SealTrust", "requireKey", "()V"⟩, 7), (⟨"SealTrust", "motionAt", "(I)LSealTrust$Motion;"⟩, 7), (⟨"SealTrust$Key", "times", "(JJ)J"⟩, 11), (⟨"SealTrust$Key", "challenge", "(IJJJJ)I"⟩, 11), (⟨"SealTrust", "goodPartials", "(LSealTrust$Motion;)I"⟩, 7), (⟨"SealTrust$Key", "isBelowModulus", "(J)Z"⟩, 11), (⟨"SealTrust$Key", "inversePower", "(JJ)J"⟩, 11), (⟨"SealTrust", "enter", "(I)V"⟩, 7), (⟨"SealTrust", "dropOpenPartials", "()V"⟩, 7), (⟨"SealTrustModel", "blockOf", "()J"⟩, 23), (⟨"SealTrustModel", "begin", "()V"⟩, 23), (⟨"SealTrustModel", "mix", "(J)V"⟩, 23), (⟨"SealTrustModel", "mixed", "()J"⟩, 23)]
theorem lw_r1 : ∀ q ∈ lw_privs_1, lw_okq q := List.forall_mem_cons.mpr ⟨lw_p0, List.forall_mem_cons.mpr ⟨lw_p1, List.forall_mem_cons.mpr ⟨lw_p2, List.forall_mem_cons.mpr ⟨lw_p3, List.forall_mem_cons.mpr ⟨lw_p4, List.forall_mem_cons.mpr ⟨lw_p5, List.forall_mem_cons.mpr ⟨lw_p6, List.forall_mem_cons.mpr ⟨lw_p7, List.forall_mem_cons.mpr ⟨lw_p8, List.forall_mem_cons.mpr ⟨lw_p9, List.forall_mem_cons.mpr ⟨lw_p10, List.forall_mem_cons.mpr ⟨lw_p11, List.forall_mem_cons.mpr ⟨lw_p12, List.forall_mem_cons.mpr ⟨lw_p13, List.forall_mem_cons.mpr ⟨lw_p14, List.forall_mem_cons.mpr ⟨lw_p15, fun _ h => absurd h List.not_mem_nil⟩⟩⟩⟩⟩⟩⟩⟩⟩⟩⟩⟩⟩⟩⟩⟩
theorem lw_p16 : lw_okq (⟨"SealTrustModel", "isMotion", "(I)Z"⟩, 23) := ⟨⟨by decide +kernel, by decide +kernel⟩, List.mem_of_getElem? (i := 575) (by decide +kernel), List.mem_of_getElem? (i := 702) (by decide +kernel), List.mem_of_getElem? (i := 703) (by decide +kernel)⟩
theorem lw_p17 : lw_okq (⟨"SealTrustModel", "voice", "(II)Z"⟩, 23) := ⟨⟨by decide +kernel, by decide +kernel⟩, List.mem_of_getElem? (i := 575) (by decide +kernel), List.mem_of_getElem? (i := 709) (by decide +kernel), List.mem_of_getElem? (i := 710) (by decide +kernel)⟩
theorem lw_p18 : lw_okq (⟨"SealTrustModel", "make", "(II)V"⟩, 23) := ⟨⟨by decide +kernel, by decide +kernel⟩, List.mem_of_getElem? (i := 575) (by decide +kernel), List.mem_of_getElem? (i := 713) (by decide +kernel), List.mem_of_getElem? (i := 714) (by decide +kernel)⟩
theorem lw_p19 : lw_okq (⟨"SealTrustModel", "part", "(I)J"⟩, 23) := ⟨⟨by decide +kernel, by decide +kernel⟩, List.mem_of_getElem? (i := 575) (by decide +kernel), List.mem_of_getElem? (i := 717) (by decide +kernel), List.mem_of_getElem? (i := 718) (by decide +kernel)⟩
theorem lw_p20 : lw_okq (⟨"SealTrustModel", "check", "(I)J"⟩, 23) := ⟨⟨by decide +kernel, by decide +kernel⟩, List.mem_of_getElem? (i := 575) (by decide +kernel), List.mem_of_getElem? (i := 726) (by decide +kernel), List.mem_of_getElem? (i := 727) (by decide +kernel)⟩
theorem lw_p21 : lw_okq (⟨"SealTrustModel", "challenge", "(JJJJJ)I"⟩, 23) := ⟨⟨by decide +kernel, by decide +kernel⟩, List.mem_of_getElem? (i := 575) (by decide +kernel), List.mem_of_getElem? (i := 730) (by decide +kernel), List.mem_of_getElem? (i := 731) (by decide +kernel)⟩
theorem lw_p22 : lw_okq (⟨"SealTrustModel", "notGood", "(I)I"⟩, 23) := ⟨⟨by decide +kernel, by decide +kernel⟩, List.mem_of_getElem? (i := 575) (by decide +kernel), List.mem_of_getElem? (i := 753) (by decide +kernel), List.mem_of_getElem? (i := 754) (by decide +kernel)⟩
theorem lw_p23 : lw_okq (⟨"SealTrustModel", "good", "(II)Z"⟩, 23) := ⟨⟨by decide +kernel, by decide +kernel⟩, List.mem_of_getElem? (i := 575) (by decide +kernel), List.mem_of_getElem? (i := 757) (by decide +kernel), List.mem_of_getElem? (i := 758) (by decide +kernel)⟩
def lw_privs_2 : List (MethodName × Nat) := [(⟨"SealTrustModel", "isMotion", "(I)Z"⟩, 23), (⟨"SealTrustModel", "voice", "(II)Z"⟩, 23), (⟨"SealTrustModel", "make", "(II)V"⟩, 23), (⟨"SealTrustModel", "part", "(I)J"⟩, 23), (⟨"SealTrustModel", "check", "(I)J"⟩, 23), (⟨"SealTrustModel", "challenge", "(JJJJJ)I"⟩, 23), (⟨"SealTrustModel", "notGood", "(I)I"⟩, 23), (⟨"SealTrustModel", "good", "(II)Z"⟩, 23)]
theorem lw_r2 : ∀ q ∈ lw_privs_2, lw_okq q := List.forall_mem_cons.mpr ⟨lw_p16, List.forall_mem_cons.mpr ⟨lw_p17, List.forall_mem_cons.mpr ⟨lw_p18, List.forall_mem_cons.mpr ⟨lw_p19, List.forall_mem_cons.mpr ⟨lw_p20, List.forall_mem_cons.mpr ⟨lw_p21, List.forall_mem_cons.mpr ⟨lw_p22, List.forall_mem_cons.mpr ⟨lw_p23, fun _ h => absurd h List.not_mem_nil⟩⟩⟩⟩⟩⟩⟩⟩
def lw_privs : List (MethodName × Nat) := lw_privs_1 ++ (lw_privs_2)
def lw_tbl : List Cond := k2_sels lw_privs ++ tables_1
theorem lw_privs_ok : ∀ q ∈ lw_privs, lw_okq q := by
  show ∀ q ∈ lw_privs_1 ++ (lw_privs_2), lw_okq q
  exact List.forall_mem_append.mpr ⟨lw_r1, lw_r2⟩
end
section
/-! names: classes, fields in the order of their slots, methods and their code -/
def T_ST : u_T := fun k => match k with
  | 0 => ("SealTrust", "key", "LSealTrust$Key;", true)
  | 1 => ("SealTrust", "buffer", "LSealTrust$Buffer;", true)
  | 2 => ("SealTrust", "motions", "[LSealTrust$Motion;", true)
  | 3 => ("SealTrust", "sealed", "[I", true)
  | 4 => ("SealTrust", "motionCount", "I", false)
  | 5 => ("SealTrust", "sealedCount", "I", false)
  | _ => ("SealTrust", "suspended", "I", false)
def t_ST : Nat → FieldType := fun k => match k with
  | 0 => .object "SealTrust$Key"
  | 1 => .object "SealTrust$Buffer"
  | 2 => .array (.object "SealTrust$Motion")
  | 3 => .array .int
  | 4 => .int
  | 5 => .int
  | _ => .int
theorem n_ST : ∀ a, a < 7 → ∀ b, b < 7 → a ≠ b → (T_ST a).2.1 ≠ (T_ST b).2.1 := by decide +kernel
theorem o_ST : ∀ k, k < 7 → parseFieldDescriptor (T_ST k).2.2.1 = some (t_ST k) := by decide +kernel
def T_MD : u_T := fun k => match k with
  | 0 => ("SealTrustModel", "thrownCode", "I", false)
  | 1 => ("SealTrustModel", "n", "J", false)
  | 2 => ("SealTrustModel", "m", "J", false)
  | 3 => ("SealTrustModel", "d", "J", false)
  | 4 => ("SealTrustModel", "a", "J", false)
  | 5 => ("SealTrustModel", "b", "J", false)
  | 6 => ("SealTrustModel", "v", "J", false)
  | 7 => ("SealTrustModel", "epoch", "I", false)
  | 8 => ("SealTrustModel", "suspended", "I", false)
  | 9 => ("SealTrustModel", "buffer", "[I", true)
  | 10 => ("SealTrustModel", "bytes", "I", false)
  | 11 => ("SealTrustModel", "motions", "I", false)
  | 12 => ("SealTrustModel", "state", "[I", true)
  | 13 => ("SealTrustModel", "block", "[J", true)
  | 14 => ("SealTrustModel", "filed", "[I", true)
  | 15 => ("SealTrustModel", "objected", "[I", true)
  | 16 => ("SealTrustModel", "signature", "[J", true)
  | 17 => ("SealTrustModel", "power", "[J", true)
  | 18 => ("SealTrustModel", "proof", "[I", true)
  | 19 => ("SealTrustModel", "answer", "[J", true)
  | 20 => ("SealTrustModel", "booked", "I", false)
  | 21 => ("SealTrustModel", "book", "[I", true)
  | _ => ("SealTrustModel", "h", "J", false)
def t_MD : Nat → FieldType := fun k => match k with
  | 0 => .int
  | 1 => .long
  | 2 => .long
  | 3 => .long
  | 4 => .long
  | 5 => .long
  | 6 => .long
  | 7 => .int
  | 8 => .int
  | 9 => .array .int
  | 10 => .int
  | 11 => .int
  | 12 => .array .int
  | 13 => .array .long
  | 14 => .array .int
  | 15 => .array .int
  | 16 => .array .long
  | 17 => .array .long
  | 18 => .array .int
  | 19 => .array .long
  | 20 => .int
  | 21 => .array .int
  | _ => .long
theorem n_MD : ∀ a, a < 23 → ∀ b, b < 23 → a ≠ b → (T_MD a).2.1 ≠ (T_MD b).2.1 := by decide +kernel
theorem o_MD : ∀ k, k < 23 → parseFieldDescriptor (T_MD k).2.2.1 = some (t_MD k) := by decide +kernel
def T_BU : u_T := fun k => match k with
  | 0 => ("SealTrust$Buffer", "bytes", "[I", true)
  | _ => ("SealTrust$Buffer", "size", "I", false)
def t_BU : Nat → FieldType := fun k => match k with
  | 0 => .array .int
  | _ => .int
theorem n_BU : ∀ a, a < 2 → ∀ b, b < 2 → a ≠ b → (T_BU a).2.1 ≠ (T_BU b).2.1 := by decide +kernel
theorem o_BU : ∀ k, k < 2 → parseFieldDescriptor (T_BU k).2.2.1 = some (t_BU k) := by decide +kernel
def T_KE : u_T := fun k => match k with
  | 0 => ("SealTrust$Key", "shares", "[J", true)
  | 1 => ("SealTrust$Key", "checks", "[J", true)
  | 2 => ("SealTrust$Key", "dealt", "Z", false)
  | 3 => ("SealTrust$Key", "epoch", "J", false)
  | 4 => ("SealTrust$Key", "base", "J", false)
  | 5 => ("SealTrust$Key", "whole", "J", false)
  | 6 => ("SealTrust$Key", "signing", "J", false)
  | 7 => ("SealTrust$Key", "p", "J", false)
  | 8 => ("SealTrust$Key", "q", "J", false)
  | 9 => ("SealTrust$Key", "modulus", "J", false)
  | _ => ("SealTrust$Key", "order", "J", false)
def t_KE : Nat → FieldType := fun k => match k with
  | 0 => .array .long
  | 1 => .array .long
  | 2 => .boolean
  | 3 => .long
  | 4 => .long
  | 5 => .long
  | 6 => .long
  | 7 => .long
  | 8 => .long
  | 9 => .long
  | _ => .long
theorem n_KE : ∀ a, a < 11 → ∀ b, b < 11 → a ≠ b → (T_KE a).2.1 ≠ (T_KE b).2.1 := by decide +kernel
theorem o_KE : ∀ k, k < 11 → parseFieldDescriptor (T_KE k).2.2.1 = some (t_KE k) := by decide +kernel
def T_MO : u_T := fun k => match k with
  | 0 => ("SealTrust$Motion", "powers", "[J", true)
  | 1 => ("SealTrust$Motion", "challenges", "[I", true)
  | 2 => ("SealTrust$Motion", "answers", "[J", true)
  | 3 => ("SealTrust$Motion", "standing", "I", false)
  | 4 => ("SealTrust$Motion", "block", "J", false)
  | 5 => ("SealTrust$Motion", "partials", "I", false)
  | 6 => ("SealTrust$Motion", "objections", "I", false)
  | _ => ("SealTrust$Motion", "signature", "J", false)
def t_MO : Nat → FieldType := fun k => match k with
  | 0 => .array .long
  | 1 => .array .int
  | 2 => .array .long
  | 3 => .int
  | 4 => .long
  | 5 => .int
  | 6 => .int
  | _ => .long
theorem n_MO : ∀ a, a < 8 → ∀ b, b < 8 → a ≠ b → (T_MO a).2.1 ≠ (T_MO b).2.1 := by decide +kernel
theorem o_MO : ∀ k, k < 8 → parseFieldDescriptor (T_MO k).2.2.1 = some (t_MO k) := by decide +kernel
abbrev cl_all : List vw_C := [("SealTrust$Buffer", T_BU, 2), ("SealTrust$Key", T_KE, 11), ("SealTrust$Motion", T_MO, 8), ("SealTrust", T_ST, 7), ("SealTrustModel", T_MD, 23)]
abbrev b_ST_init : ByteArray := prog_1_method_1_code
def y_ST_init : MethodName := ⟨"SealTrust", "<init>", "()V"⟩
abbrev b_ST_deal : ByteArray := prog_1_method_2_code
def y_ST_deal : MethodName := ⟨"SealTrust", "deal", "(IIIII)V"⟩
abbrev b_ST_put : ByteArray := prog_1_method_3_code
def y_ST_put : MethodName := ⟨"SealTrust", "put", "(II)I"⟩
abbrev b_ST_motion : ByteArray := prog_1_method_4_code
def y_ST_motion : MethodName := ⟨"SealTrust", "motion", "()I"⟩
abbrev b_ST_consent : ByteArray := prog_1_method_5_code
def y_ST_consent : MethodName := ⟨"SealTrust", "consent", "(II)V"⟩
abbrev b_ST_object : ByteArray := prog_1_method_6_code
def y_ST_object : MethodName := ⟨"SealTrust", "object", "(II)V"⟩
abbrev b_ST_file : ByteArray := prog_1_method_7_code
def y_ST_file : MethodName := ⟨"SealTrust", "file", "(IIJIJ)V"⟩
abbrev b_ST_partial : ByteArray := prog_1_method_8_code
def y_ST_partial : MethodName := ⟨"SealTrust", "partial", "(III)J"⟩
abbrev b_ST_bad : ByteArray := prog_1_method_9_code
def y_ST_bad : MethodName := ⟨"SealTrust", "bad", "(I)I"⟩
abbrev b_ST_join : ByteArray := prog_1_method_10_code
def y_ST_join : MethodName := ⟨"SealTrust", "join", "(I)J"⟩
abbrev b_ST_verify : ByteArray := prog_1_method_11_code
def y_ST_verify : MethodName := ⟨"SealTrust", "verify", "(J)Z"⟩
abbrev b_ST_refresh : ByteArray := prog_1_method_12_code
def y_ST_refresh : MethodName := ⟨"SealTrust", "refresh", "(II)V"⟩
abbrev b_ST_suspend : ByteArray := prog_1_method_13_code
def y_ST_suspend : MethodName := ⟨"SealTrust", "suspend", "(IZ)Z"⟩
abbrev b_ST_parts : ByteArray := prog_1_method_14_code
def y_ST_parts : MethodName := ⟨"SealTrust", "parts", "(I)Z"⟩
abbrev b_ST_told : ByteArray := prog_1_method_15_code
def y_ST_told : MethodName := ⟨"SealTrust", "told", "(II)J"⟩
abbrev b_ST_book : ByteArray := prog_1_method_16_code
def y_ST_book : MethodName := ⟨"SealTrust", "book", "(I)I"⟩
abbrev b_ST_state : ByteArray := prog_1_method_17_code
def y_ST_state : MethodName := ⟨"SealTrust", "state", "(I)J"⟩
abbrev b_ST_requireKey : ByteArray := prog_1_method_18_code
def y_ST_requireKey : MethodName := ⟨"SealTrust", "requireKey", "()V"⟩
abbrev b_ST_requireDocument : ByteArray := prog_1_method_19_code
def y_ST_requireDocument : MethodName := ⟨"SealTrust", "requireDocument", "()V"⟩
abbrev b_ST_motionAt : ByteArray := prog_1_method_20_code
def y_ST_motionAt : MethodName := ⟨"SealTrust", "motionAt", "(I)LSealTrust$Motion;"⟩
abbrev b_ST_requireTrustee : ByteArray := prog_1_method_21_code
def y_ST_requireTrustee : MethodName := ⟨"SealTrust", "requireTrustee", "(I)V"⟩
abbrev b_ST_requireOpen : ByteArray := prog_1_method_22_code
def y_ST_requireOpen : MethodName := ⟨"SealTrust", "requireOpen", "(LSealTrust$Motion;)V"⟩
abbrev b_ST_requireNoVoice : ByteArray := prog_1_method_23_code
def y_ST_requireNoVoice : MethodName := ⟨"SealTrust", "requireNoVoice", "(LSealTrust$Motion;I)V"⟩
abbrev b_ST_goodPartials : ByteArray := prog_1_method_24_code
def y_ST_goodPartials : MethodName := ⟨"SealTrust", "goodPartials", "(LSealTrust$Motion;)I"⟩
abbrev b_ST_dropOpenPartials : ByteArray := prog_1_method_25_code
def y_ST_dropOpenPartials : MethodName := ⟨"SealTrust", "dropOpenPartials", "()V"⟩
abbrev b_ST_enter : ByteArray := prog_1_method_26_code
def y_ST_enter : MethodName := ⟨"SealTrust", "enter", "(I)V"⟩
abbrev b_ST_isIn : ByteArray := prog_1_method_27_code
def y_ST_isIn : MethodName := ⟨"SealTrust", "isIn", "(II)Z"⟩
abbrev b_ST_isSafePrime : ByteArray := prog_1_method_28_code
def y_ST_isSafePrime : MethodName := ⟨"SealTrust", "isSafePrime", "(I)Z"⟩
abbrev b_ST_isPrime : ByteArray := prog_1_method_29_code
def y_ST_isPrime : MethodName := ⟨"SealTrust", "isPrime", "(I)Z"⟩
abbrev b_ST_mixIn : ByteArray := prog_1_method_30_code
def y_ST_mixIn : MethodName := ⟨"SealTrust", "mixIn", "(JJ)J"⟩
abbrev b_ST_mixOf : ByteArray := prog_1_method_31_code
def y_ST_mixOf : MethodName := ⟨"SealTrust", "mixOf", "(J)J"⟩
abbrev b_ST_rest : ByteArray := prog_1_method_32_code
def y_ST_rest : MethodName := ⟨"SealTrust", "rest", "(JJ)J"⟩
abbrev b_ST_powerModulo : ByteArray := prog_1_method_33_code
def y_ST_powerModulo : MethodName := ⟨"SealTrust", "powerModulo", "(JJJ)J"⟩
abbrev b_MD_init : ByteArray := prog_6_method_1_code
def y_MD_init : MethodName := ⟨"SealTrustModel", "<init>", "()V"⟩
abbrev b_MD_prime : ByteArray := prog_6_method_2_code
def y_MD_prime : MethodName := ⟨"SealTrustModel", "prime", "(I)Z"⟩
abbrev b_MD_safe : ByteArray := prog_6_method_3_code
def y_MD_safe : MethodName := ⟨"SealTrustModel", "safe", "(I)Z"⟩
abbrev b_MD_common : ByteArray := prog_6_method_4_code
def y_MD_common : MethodName := ⟨"SealTrustModel", "common", "(JJ)J"⟩
abbrev b_MD_raised : ByteArray := prog_6_method_5_code
def y_MD_raised : MethodName := ⟨"SealTrustModel", "raised", "(JJJ)J"⟩
abbrev b_MD_inverse : ByteArray := prog_6_method_6_code
def y_MD_inverse : MethodName := ⟨"SealTrustModel", "inverse", "(JJ)J"⟩
abbrev b_MD_begin : ByteArray := prog_6_method_7_code
def y_MD_begin : MethodName := ⟨"SealTrustModel", "begin", "()V"⟩
abbrev b_MD_mix : ByteArray := prog_6_method_8_code
def y_MD_mix : MethodName := ⟨"SealTrustModel", "mix", "(J)V"⟩
abbrev b_MD_mixed : ByteArray := prog_6_method_9_code
def y_MD_mixed : MethodName := ⟨"SealTrustModel", "mixed", "()J"⟩
abbrev b_MD_part : ByteArray := prog_6_method_10_code
def y_MD_part : MethodName := ⟨"SealTrustModel", "part", "(I)J"⟩
abbrev b_MD_check : ByteArray := prog_6_method_11_code
def y_MD_check : MethodName := ⟨"SealTrustModel", "check", "(I)J"⟩
abbrev b_MD_blockOf : ByteArray := prog_6_method_12_code
def y_MD_blockOf : MethodName := ⟨"SealTrustModel", "blockOf", "()J"⟩
abbrev b_MD_challenge : ByteArray := prog_6_method_13_code
def y_MD_challenge : MethodName := ⟨"SealTrustModel", "challenge", "(JJJJJ)I"⟩
abbrev b_MD_make : ByteArray := prog_6_method_14_code
def y_MD_make : MethodName := ⟨"SealTrustModel", "make", "(II)V"⟩
abbrev b_MD_good : ByteArray := prog_6_method_15_code
def y_MD_good : MethodName := ⟨"SealTrustModel", "good", "(II)Z"⟩
abbrev b_MD_bits : ByteArray := prog_6_method_16_code
def y_MD_bits : MethodName := ⟨"SealTrustModel", "bits", "(I)I"⟩
abbrev b_MD_isMotion : ByteArray := prog_6_method_17_code
def y_MD_isMotion : MethodName := ⟨"SealTrustModel", "isMotion", "(I)Z"⟩
abbrev b_MD_isTrustee : ByteArray := prog_6_method_18_code
def y_MD_isTrustee : MethodName := ⟨"SealTrustModel", "isTrustee", "(I)Z"⟩
abbrev b_MD_thrown : ByteArray := prog_6_method_19_code
def y_MD_thrown : MethodName := ⟨"SealTrustModel", "thrown", "()I"⟩
abbrev b_MD_deal : ByteArray := prog_6_method_20_code
def y_MD_deal : MethodName := ⟨"SealTrustModel", "deal", "(IIIII)V"⟩
abbrev b_MD_put : ByteArray := prog_6_method_21_code
def y_MD_put : MethodName := ⟨"SealTrustModel", "put", "(II)I"⟩
abbrev b_MD_motion : ByteArray := prog_6_method_22_code
def y_MD_motion : MethodName := ⟨"SealTrustModel", "motion", "()I"⟩
abbrev b_MD_voice : ByteArray := prog_6_method_23_code
def y_MD_voice : MethodName := ⟨"SealTrustModel", "voice", "(II)Z"⟩
abbrev b_MD_consent : ByteArray := prog_6_method_24_code
def y_MD_consent : MethodName := ⟨"SealTrustModel", "consent", "(II)V"⟩
abbrev b_MD_object : ByteArray := prog_6_method_25_code
def y_MD_object : MethodName := ⟨"SealTrustModel", "object", "(II)V"⟩
abbrev b_MD_file : ByteArray := prog_6_method_26_code
def y_MD_file : MethodName := ⟨"SealTrustModel", "file", "(IIJIJ)V"⟩
abbrev b_MD_partial : ByteArray := prog_6_method_27_code
def y_MD_partial : MethodName := ⟨"SealTrustModel", "partial", "(III)J"⟩
abbrev b_MD_notGood : ByteArray := prog_6_method_28_code
def y_MD_notGood : MethodName := ⟨"SealTrustModel", "notGood", "(I)I"⟩
abbrev b_MD_bad : ByteArray := prog_6_method_29_code
def y_MD_bad : MethodName := ⟨"SealTrustModel", "bad", "(I)I"⟩
abbrev b_MD_join : ByteArray := prog_6_method_30_code
def y_MD_join : MethodName := ⟨"SealTrustModel", "join", "(I)J"⟩
abbrev b_MD_verify : ByteArray := prog_6_method_31_code
def y_MD_verify : MethodName := ⟨"SealTrustModel", "verify", "(J)Z"⟩
abbrev b_MD_refresh : ByteArray := prog_6_method_32_code
def y_MD_refresh : MethodName := ⟨"SealTrustModel", "refresh", "(II)V"⟩
abbrev b_MD_suspend : ByteArray := prog_6_method_33_code
def y_MD_suspend : MethodName := ⟨"SealTrustModel", "suspend", "(IZ)Z"⟩
abbrev b_MD_parts : ByteArray := prog_6_method_34_code
def y_MD_parts : MethodName := ⟨"SealTrustModel", "parts", "(I)Z"⟩
abbrev b_MD_told : ByteArray := prog_6_method_35_code
def y_MD_told : MethodName := ⟨"SealTrustModel", "told", "(II)J"⟩
abbrev b_MD_book : ByteArray := prog_6_method_36_code
def y_MD_book : MethodName := ⟨"SealTrustModel", "book", "(I)I"⟩
abbrev b_MD_state : ByteArray := prog_6_method_37_code
def y_MD_state : MethodName := ⟨"SealTrustModel", "state", "(I)J"⟩
abbrev b_BU_init : ByteArray := prog_2_method_1_code
def y_BU_init : MethodName := ⟨"SealTrust$Buffer", "<init>", "()V"⟩
abbrev b_BU_count : ByteArray := prog_2_method_2_code
def y_BU_count : MethodName := ⟨"SealTrust$Buffer", "count", "()I"⟩
abbrev b_BU_room : ByteArray := prog_2_method_3_code
def y_BU_room : MethodName := ⟨"SealTrust$Buffer", "room", "()I"⟩
abbrev b_BU_append : ByteArray := prog_2_method_4_code
def y_BU_append : MethodName := ⟨"SealTrust$Buffer", "append", "(II)V"⟩
abbrev b_BU_clear : ByteArray := prog_2_method_5_code
def y_BU_clear : MethodName := ⟨"SealTrust$Buffer", "clear", "()V"⟩
abbrev b_BU_mix : ByteArray := prog_2_method_6_code
def y_BU_mix : MethodName := ⟨"SealTrust$Buffer", "mix", "()J"⟩
abbrev b_KE_init : ByteArray := prog_3_method_1_code
def y_KE_init : MethodName := ⟨"SealTrust$Key", "<init>", "()V"⟩
abbrev b_KE_begin : ByteArray := prog_3_method_2_code
def y_KE_begin : MethodName := ⟨"SealTrust$Key", "begin", "(JJJ)V"⟩
abbrev b_KE_addPolynomial : ByteArray := prog_3_method_3_code
def y_KE_addPolynomial : MethodName := ⟨"SealTrust$Key", "addPolynomial", "(JJ)V"⟩
abbrev b_KE_isPrimeToModulus : ByteArray := prog_3_method_4_code
def y_KE_isPrimeToModulus : MethodName := ⟨"SealTrust$Key", "isPrimeToModulus", "(J)Z"⟩
abbrev b_KE_blockOf : ByteArray := prog_3_method_5_code
def y_KE_blockOf : MethodName := ⟨"SealTrust$Key", "blockOf", "(LSealTrust$Buffer;)J"⟩
abbrev b_KE_signatureOf : ByteArray := prog_3_method_6_code
def y_KE_signatureOf : MethodName := ⟨"SealTrust$Key", "signatureOf", "(J)J"⟩
abbrev b_KE_isSignature : ByteArray := prog_3_method_7_code
def y_KE_isSignature : MethodName := ⟨"SealTrust$Key", "isSignature", "(JJ)Z"⟩
abbrev b_KE_makePartial : ByteArray := prog_3_method_8_code
def y_KE_makePartial : MethodName := ⟨"SealTrust$Key", "makePartial", "(LSealTrust$Motion;I)V"⟩
abbrev b_KE_isGood : ByteArray := prog_3_method_9_code
def y_KE_isGood : MethodName := ⟨"SealTrust$Key", "isGood", "(LSealTrust$Motion;I)Z"⟩
abbrev b_KE_challenge : ByteArray := prog_3_method_10_code
def y_KE_challenge : MethodName := ⟨"SealTrust$Key", "challenge", "(IJJJJ)I"⟩
abbrev b_KE_isWholeBy : ByteArray := prog_3_method_11_code
def y_KE_isWholeBy : MethodName := ⟨"SealTrust$Key", "isWholeBy", "(I)Z"⟩
abbrev b_KE_weight : ByteArray := prog_3_method_12_code
def y_KE_weight : MethodName := ⟨"SealTrust$Key", "weight", "(II)J"⟩
abbrev b_KE_isBelowModulus : ByteArray := prog_3_method_13_code
def y_KE_isBelowModulus : MethodName := ⟨"SealTrust$Key", "isBelowModulus", "(J)Z"⟩
abbrev b_KE_times : ByteArray := prog_3_method_14_code
def y_KE_times : MethodName := ⟨"SealTrust$Key", "times", "(JJ)J"⟩
abbrev b_KE_power : ByteArray := prog_3_method_15_code
def y_KE_power : MethodName := ⟨"SealTrust$Key", "power", "(JJ)J"⟩
abbrev b_KE_inversePower : ByteArray := prog_3_method_16_code
def y_KE_inversePower : MethodName := ⟨"SealTrust$Key", "inversePower", "(JJ)J"⟩
abbrev b_MO_init : ByteArray := prog_4_method_1_code
def y_MO_init : MethodName := ⟨"SealTrust$Motion", "<init>", "()V"⟩
abbrev b_MO_begin : ByteArray := prog_4_method_2_code
def y_MO_begin : MethodName := ⟨"SealTrust$Motion", "begin", "(J)V"⟩
abbrev b_MO_takePartial : ByteArray := prog_4_method_3_code
def y_MO_takePartial : MethodName := ⟨"SealTrust$Motion", "takePartial", "(IJIJ)V"⟩
abbrev b_MO_dropPartials : ByteArray := prog_4_method_4_code
def y_MO_dropPartials : MethodName := ⟨"SealTrust$Motion", "dropPartials", "()V"⟩
abbrev b_MO_takeObjection : ByteArray := prog_4_method_5_code
def y_MO_takeObjection : MethodName := ⟨"SealTrust$Motion", "takeObjection", "(I)V"⟩
abbrev b_MO_seal : ByteArray := prog_4_method_6_code
def y_MO_seal : MethodName := ⟨"SealTrust$Motion", "seal", "(J)V"⟩
abbrev b_LW_deal : ByteArray := method_3_code
def y_LW_deal : MethodName := ⟨"SealTrustLaw", "deal", "(LSealTrust;IIIII)I"⟩
abbrev b_LW_put : ByteArray := method_4_code
def y_LW_put : MethodName := ⟨"SealTrustLaw", "put", "(LSealTrust;II[J)I"⟩
abbrev b_LW_motion : ByteArray := method_5_code
def y_LW_motion : MethodName := ⟨"SealTrustLaw", "motion", "(LSealTrust;[J)I"⟩
abbrev b_LW_consent : ByteArray := method_6_code
def y_LW_consent : MethodName := ⟨"SealTrustLaw", "consent", "(LSealTrust;II)I"⟩
abbrev b_LW_object : ByteArray := method_7_code
def y_LW_object : MethodName := ⟨"SealTrustLaw", "object", "(LSealTrust;II)I"⟩
abbrev b_LW_file : ByteArray := method_8_code
def y_LW_file : MethodName := ⟨"SealTrustLaw", "file", "(LSealTrust;IIJIJ)I"⟩
abbrev b_LW_partial : ByteArray := method_9_code
def y_LW_partial : MethodName := ⟨"SealTrustLaw", "partial", "(LSealTrust;III[J)I"⟩
abbrev b_LW_bad : ByteArray := method_10_code
def y_LW_bad : MethodName := ⟨"SealTrustLaw", "bad", "(LSealTrust;I[J)I"⟩
abbrev b_LW_join : ByteArray := method_11_code
def y_LW_join : MethodName := ⟨"SealTrustLaw", "join", "(LSealTrust;I[J)I"⟩
abbrev b_LW_verify : ByteArray := method_12_code
def y_LW_verify : MethodName := ⟨"SealTrustLaw", "verify", "(LSealTrust;J[J)I"⟩
abbrev b_LW_refresh : ByteArray := method_13_code
def y_LW_refresh : MethodName := ⟨"SealTrustLaw", "refresh", "(LSealTrust;II)I"⟩
abbrev b_LW_suspend : ByteArray := method_14_code
def y_LW_suspend : MethodName := ⟨"SealTrustLaw", "suspend", "(LSealTrust;IZ[J)I"⟩
abbrev b_LW_parts : ByteArray := method_15_code
def y_LW_parts : MethodName := ⟨"SealTrustLaw", "parts", "(LSealTrust;I[J)I"⟩
abbrev b_LW_told : ByteArray := method_16_code
def y_LW_told : MethodName := ⟨"SealTrustLaw", "told", "(LSealTrust;II[J)I"⟩
abbrev b_LW_book : ByteArray := method_17_code
def y_LW_book : MethodName := ⟨"SealTrustLaw", "book", "(LSealTrust;I[J)I"⟩
abbrev b_LW_state : ByteArray := method_18_code
def y_LW_state : MethodName := ⟨"SealTrustLaw", "state", "(LSealTrust;I[J)I"⟩
abbrev b_LW_law : ByteArray := code
def y_LW_law : MethodName := ⟨"SealTrustLaw", "law", "([I)Z"⟩
end
section
/-! one kind of contract for every method: it returns or throws; what it may write; what it makes -/
section XCA
/-- how a call ended: what it gave back, or the class of what it threw -/
abbrev xc_R : Type := Option Value ⊕ String
/-- since H nothing outside A has changed -/
def xc_F (A : Nat → Prop) (H H1 : Heap) : Prop := H.size ≤ H1.size ∧ ∀ q : Nat, q < H.size → ¬ A q → H1[q]? = H[q]?
theorem xc_F.rf {A : Nat → Prop} {H : Heap} : xc_F A H H := ⟨Nat.le_refl _, fun _ _ _ => rfl⟩
theorem xc_F.weaken {A B : Nat → Prop} {H H1 : Heap} (h : xc_F A H H1) (hAB : ∀ q, q < H.size → A q → B q) : xc_F B H H1 := ⟨h.1, fun q h1 h2 => h.2 q h1 (fun z => h2 (hAB q h1 z))⟩
theorem xc_F.trans {A : Nat → Prop} {H H1 H2 : Heap} (h : xc_F A H H1) (k : xc_F A H1 H2) : xc_F A H H2 :=
  ⟨Nat.le_trans h.1 k.1, fun q h1 h2 => (k.2 q (Nat.lt_of_lt_of_le h1 h.1) h2).trans (h.2 q h1 h2)⟩
def xc_Q (post : xc_R → Heap → Prop) (A : Nat → Prop) (mc ms : Nat) : Array Value → State → Outcome → State → Prop := fun _ st o t =>
  st.WarmedH t.vm ∧ (∃ L : List Loc, st.sameButNew ({ t with vm := st.vm } : State) L mc ms ∧ ∀ q ∈ L, A q.base) ∧ xc_F A st.heap t.heap ∧
    ((∃ v : Option Value, o = .returned v ∧ post (.inl v) t.heap) ∨
      ∃ (q : Addr) (E : String) (ce : Cell), o = .threw q ∧ t.heap[q]? = some ce ∧ ce.vm = .none ∧ st.vm.findClass E = some ce.cls ∧ post (.inr E) t.heap)
def xc_Met (l : Launch) (y : MethodName) (w : Cond) (rm : Room) (Pc : Array Value → State → Prop) (post : xc_R → Heap → Prop) (A : Nat → Prop) : Prop :=
  MetFree l y (headSpec [w] rm) Pc (fun _ _ _ _ _ => True) (xc_Q post A rm.cells rm.slots)
/-- what a body owes at its end -/
def xc_Z (below : List Frame) (post : xc_R → Heap → Prop) (A : Nat → Prop) (a : Array Value) (s : State) (mc ms : Nat) : State → Prop := fun t =>
  ∃ o, t.status = .running ∧ Ended t below o ∧ xc_Q post A mc ms a s o t
section Go
variable {p : Program} {l : Launch} {e : Env} {R : Room} {s : State} {m : MethodId} {args : Array Value} {below : List Frame} {meth : Method} {c : Code} {T : State} {locs : List Loc} {cells slots : Nat}
theorem xc_hp (T : State) (g : JFrame) : (T.setTop g).heap = T.heap := by simp [State.setTop, State.modifyTopJava]
theorem xc_hpc (T : State) (g : JFrame) (mk : MethodId) (a : Array Value) : (T.calling g mk a).heap = T.heap := by simp [State.calling, State.pushFrame, State.setFrames, State.setTop, State.modifyTopJava]
theorem xc_go (X : Stand p l e R s m args below meth c T locs cells slots) {g : JFrame} (hg : g.method = m) (hsize : g.locals.size = c.maxLocals) {ig : Instr} {len : Nat} (hdg : decode c.code g.pc = .ok (ig, len))
    {y : MethodName} {w : Cond} {rm : Room} {Pc : Array Value → State → Prop} {post : xc_R → Heap → Prop} {A : Nat → Prop} (hM : xc_Met l y w rm Pc post A)
    {mk : MethodId} {methY : Method} {cY : Code} {kY : Class} {maxL K : Nat} (hn : T.methodNamed? y = some mk) (hmY : T.vm.method? mk = some methY) (hcY : methY.code = some cY) (hlY : cY.maxLocals = maxL) (hkY : T.vm.classes[mk.cls]? = some kY) (hinitY : kY.init = .initialized)
    (a : Array Value) (hw : w.before a T = true) (hP : Pc a (T.calling g mk a)) (hfr : rm.frames + 1 ≤ R.frames) (hlo : K + (maxL + 11) + rm.locals ≤ R.locals) (hK : 2 * g.monitorRoom + (g.stack.map fun v => v.category).sum ≤ K) (hc : cells + rm.cells ≤ R.cells) (hs : slots + rm.slots ≤ R.slots) :
    ∃ (T' : State) (L : List Loc), (∀ q ∈ L, A q.base) ∧ Stand p l e R s m args below meth c T' (locs ++ L) (cells + rm.cells) (slots + rm.slots) ∧ xc_F A T.heap T'.heap ∧
      ((∃ v : Option Value, post (.inl v) T'.heap ∧ Steps p.tables e below (doInvoke e (T.setTop g) [] mk a).1 (T'.setTop { g with pc := g.pc + len, stack := v.toList ++ g.stack })) ∨
        ∃ (q : Addr) (E : String) (ce : Cell), T'.heap[q]? = some ce ∧ ce.vm = .none ∧ s.vm.findClass E = some ce.cls ∧ post (.inr E) T'.heap ∧ Steps p.tables e below (doInvoke e (T.setTop g) [] mk a).1 ((T'.setTop g).pushFrame (.throwing q))) := by
  have h : At T g.method c below := by rw [hg]; exact X.here
  have happ : (headSpec [w] rm).appliesLoose y e.platform (T.calling g mk a) = true :=
    Spec.appliesLoose_calling (g := g) h hdg hn hkY hinitY (X.room_calling (g := g) (R' := rm) hsize hmY hcY hfr (by rw [hlY]; omega) hc hs) (atoms_intro fun w' hw' => by rw [List.mem_singleton.mp hw']; exact hw)
  have hfr' : (T.setTop g).frames = [Frame.java g] ++ below := by rw [State.frames_setTop' g h.top, X.tail]; rfl
  obtain ⟨o, t, hst, -, hend, hq⟩ := Steps.callFree hM p X.admits X.cas X.clock (acts := []) hfr' happ hP trivial
  rw [hfr'] at hend
  obtain ⟨hW2, ⟨L, hsame, hL⟩, hF, hq⟩ := hq
  have hF : xc_F A T.heap t.heap := by
    have h1 : ((T.setTop g).pushFrame (.invoking mk a)).heap = T.heap := xc_hpc T g mk a
    rw [h1] at hF
    exact hF
  rcases hq with ⟨v, rfl, hp⟩ | ⟨q, E, ce, rfl, hce, hcv, hcl, hp⟩
  · obtain ⟨T', X', -, -, ht⟩ := X.outOf hg hdg (mk := mk) (a := a) (L := L) hend hW2 hsame
    have hh : t.heap = T'.heap := by rw [ht]; exact xc_hp _ _
    rw [hh] at hp hF
    exact ⟨T', L, hL, X', hF, Or.inl ⟨v, hp, by rw [← ht]; exact hst⟩⟩
  · obtain ⟨T', X', -, -, ht⟩ := X.outOfThrown hg (mk := mk) (a := a) (L := L) hend hW2 hsame
    have hh : t.heap = T'.heap := by rw [ht]; exact Stand.throwing_heap _ _ _
    rw [hh] at hp hF hce
    have hcl' : T.vm.findClass E = some ce.cls := hcl
    rw [X.warmed.alike.findClass] at hcl'
    exact ⟨T', L, hL, X', hF, Or.inr ⟨q, E, ce, hce, hcv, hcl', hp, by rw [← ht]; exact hst⟩⟩
end Go
/-- the callee as the tables have it: its method, how many locals, how many arguments -/
def xc_C (U : State) (y : MethodName) (w : Cond) (maxL n : Nat) : Prop :=
  (∀ (a : Array Value) (V : State), U.WarmedH V.vm → w.before a V = true) ∧ ∃ (mk : MethodId) (methY : Method) (cY : Code), U.methodNamed? y = some mk ∧ U.vm.method? mk = some methY ∧ methY.code = some cY ∧ cY.maxLocals = maxL ∧ parseMethodDescriptor y.desc = some methY.sig ∧ methY.sig.parameters.length = n
theorem xc_C.of {U : State} {y : MethodName} {bytes : ByteArray} {maxL n : Nat} {ret : Option FieldType} {a : Array Value} (h : (Cond.code y bytes maxL ret).before a U = true) (hd : (parseMethodDescriptor y.desc).map (fun d => d.parameters.length) = some n) : xc_C U y (.code y bytes maxL ret) maxL n := by
  refine ⟨fun a' V hW => word_at hW (Or.inl (by first | rfl | simp [Cond.onTables, Cond.keeps, Cond.steady])) h, ?_⟩
  obtain ⟨mk, hn⟩ := Cond.code_named h
  obtain ⟨meth, c, h1, h2, -, h4, -, -, -, h8⟩ := Cond.code_spec hn h
  refine ⟨mk, meth, c, hn, h1, h2, h4, h8, ?_⟩
  rw [h8] at hd
  exact Option.some.inj hd
theorem xc_C.ofW {U : State} {y : MethodName} {bytes : ByteArray} {maxL n : Nat} {ret : Option FieldType} {hh : List (Nat × Nat × Nat × Nat)} {a : Array Value} (h : (Cond.codeWith y bytes maxL ret hh).before a U = true) (hd : (parseMethodDescriptor y.desc).map (fun d => d.parameters.length) = some n) : xc_C U y (.codeWith y bytes maxL ret hh) maxL n := by
  refine ⟨fun a' V hW => word_at hW (Or.inl (by first | rfl | simp [Cond.onTables, Cond.keeps, Cond.steady])) h, ?_⟩
  obtain ⟨mk, meth, c, hn, h1, h2, -, h4, -, -, -, h8⟩ := Cond.codeWith_spec h
  refine ⟨mk, meth, c, hn, h1, h2, h4, h8, ?_⟩
  rw [h8] at hd
  exact Option.some.inj hd
section Runs
variable {p : Program} {l : Launch} {e : Env} {R : Room} {s : State} {m : MethodId} {args : Array Value} {below : List Frame} {meth : Method} {c : Code} {H : Heap} {locs : List Loc} {cells slots : Nat}
/-- a call at frame g: it comes back behind the instruction, or something is thrown over g -/
def xc_Run (p : Program) (l : Launch) (e : Env) (R : Room) (s : State) (m : MethodId) (args : Array Value) (below : List Frame) (meth : Method) (c : Code) (H : Heap) (locs : List Loc) (cells slots : Nat) (g : JFrame) (rest : List Value) (mc ms : Nat) (post : xc_R → Heap → Prop) (A : Nat → Prop) : Prop :=
  ∀ T : State, T.heap = H → Stand p l e R s m args below meth c T locs cells slots →
    ∃ (T' : State) (L : List Loc), (∀ q ∈ L, A q.base) ∧ Stand p l e R s m args below meth c T' (locs ++ L) (cells + mc) (slots + ms) ∧ xc_F A H T'.heap ∧
      ((∃ v : Option Value, post (.inl v) T'.heap ∧ ∀ tg, Steps p.tables e below (T'.setTop { g with pc := g.pc + 3, stack := v.toList ++ rest }) tg → Steps p.tables e below (T.setTop g) tg) ∨
        ∃ (q : Addr) (E : String) (ce : Cell), T'.heap[q]? = some ce ∧ ce.vm = .none ∧ s.vm.findClass E = some ce.cls ∧ post (.inr E) T'.heap ∧ Steps p.tables e below (T.setTop g) ((T'.setTop { g with stack := rest }).pushFrame (.throwing q)))
/-- the method's frame g, with q thrown over it -/
def xc_W (p : Program) (l : Launch) (e : Env) (R : Room) (s : State) (m : MethodId) (args : Array Value) (below : List Frame) (meth : Method) (c : Code) (H : Heap) (locs : List Loc) (cells slots : Nat) (Q : State → Prop) (g : JFrame) (q : Addr) : Prop :=
  ∀ T : State, T.heap = H → Stand p l e R s m args below meth c T locs cells slots → ∃ t, Steps p.tables e below ((T.setTop g).pushFrame (.throwing q)) t ∧ Q t
variable {y : MethodName} {cc : ByteArray} {maxL nL n index kw : Nat} {w : Cond} {rm : Room} {Pc : Array Value → State → Prop} {post : xc_R → Heap → Prop} {A : Nat → Prop} {own C host : String} {b : Addr} {As rest : List Value} {g : JFrame}
/-- a caller's own facts -/
abbrev xc_Fix (p : Program) (m : MethodId) (c : Code) (cc : ByteArray) (nL : Nat) (s : State) (own : String) : Prop :=
  p.tables.exec = Jvm.exec ∧ c.code = cc ∧ c.maxLocals = nL ∧ s.vm.findClass own = some m.cls
abbrev xc_Fits (R rm : Room) (maxL kw cells slots : Nat) : Prop := rm.frames + 1 ≤ R.frames ∧ kw + (maxL + 11) + rm.locals ≤ R.locals ∧ cells + rm.cells ≤ R.cells ∧ slots + rm.slots ≤ R.slots
abbrev xc_no (y : MethodName) : Prop := y.cls ≠ "java/lang/invoke/MethodHandle" ∧ y.cls ≠ "java/lang/invoke/VarHandle"
theorem xc_close {T : State} {ig : Instr} {mk : MethodId} {a : Array Value} {vm₁ : Vm} (hT : T.heap = H) (X₁ : Stand p l e R s m args below meth c (T.setVm vm₁) locs cells slots) (hM : xc_Met l y w rm Pc post A) (hC : xc_C s y w maxL n) (hini : (Cond.initialized y.cls).before args s = true) (hn : s.methodNamed? y = some mk)
    (hg : g.method = m) (hsize : g.locals.size = c.maxLocals) (hdg : decode c.code g.pc = .ok (ig, 3)) (hW : 2 * g.monitorRoom + (rest.map fun v => v.category).sum ≤ kw) (hf : xc_Fits R rm maxL kw cells slots)
    (hb : FrameBlind Pc) (hPc : ∀ U : State, U.heap = H → s.WarmedH U.vm → Pc a U) (hstep : ∀ tg, (∀ acts, Steps p.tables e below (doInvoke e ((T.setVm vm₁).setTop { g with stack := rest }) acts mk a).1 tg) → Steps p.tables e below (T.setTop g) tg) :
    ∃ (T' : State) (L : List Loc), (∀ q ∈ L, A q.base) ∧ Stand p l e R s m args below meth c T' (locs ++ L) (cells + rm.cells) (slots + rm.slots) ∧ xc_F A H T'.heap ∧
      ((∃ v : Option Value, post (.inl v) T'.heap ∧ ∀ tg, Steps p.tables e below (T'.setTop { g with pc := g.pc + 3, stack := v.toList ++ rest }) tg → Steps p.tables e below (T.setTop g) tg) ∨
        ∃ (q : Addr) (E : String) (ce : Cell), T'.heap[q]? = some ce ∧ ce.vm = .none ∧ s.vm.findClass E = some ce.cls ∧ post (.inr E) T'.heap ∧ Steps p.tables e below (T.setTop g) ((T'.setTop { g with stack := rest }).pushFrame (.throwing q))) := by
  obtain ⟨hw, mk', methY, cY, hn', hmY, hcY, hlY, -, -⟩ := hC
  cases Option.some.inj (hn.symm.trans hn')
  obtain ⟨kY, hkY, -⟩ := className_of_methodNamed hn
  have hinitY : kY.init = .initialized := Cond.initialized_spec (findClass_of_methodNamed hn) hkY hini
  obtain ⟨kY', hkY', hke⟩ := X₁.warmed.alike.2.2 _ _ hkY
  have hmY' : (T.setVm vm₁).vm.method? mk = some methY := by rw [X₁.warmed.alike.method?]; exact hmY
  obtain ⟨T', L, hL, X', hF, hq⟩ := xc_go X₁ (g := { g with stack := rest }) hg hsize hdg hM (X₁.named hn) hmY' hcY hlY hkY' (by rw [hke]; exact hinitY) a (hw a _ X₁.warmed) (hb _ _ _ _ (hPc (T.setVm vm₁) hT X₁.warmed)) hf.1 hf.2.1 hW hf.2.2.1 hf.2.2.2
  refine ⟨T', L, hL, X', by rw [← hT]; exact hF, ?_⟩
  rcases hq with ⟨v, hp, hst⟩ | ⟨q, E, ce, h1, h2, h3, h4, hst⟩
  · exact Or.inl ⟨v, hp, fun tg h => hstep _ fun acts => by rw [doInvoke_state]; exact hst.trans h⟩
  · exact Or.inr ⟨q, E, ce, h1, h2, h3, h4, hstep _ fun acts => by rw [doInvoke_state]; exact hst⟩
theorem xc_runS (S : xc_Fix p m c cc nL s own) (hM : xc_Met l y w rm Pc post A) (hC : xc_C s y w maxL n) (hlink : (Cond.methodLink own index y).before args s = true) (hstat : (Cond.static y).before args s = true) (hini : (Cond.initialized y.cls).before args s = true) (hy : xc_no y) (hf : xc_Fits R rm maxL kw cells slots)
    (hb : FrameBlind Pc) (hPc : ∀ U : State, U.heap = H → s.WarmedH U.vm → Pc As.toArray U) (hg : g.method = m) (hn : As.length = n) (hsize : g.locals.size = nL) (hstack : g.stack = As.reverse ++ rest) (hW : 2 * g.monitorRoom + (rest.map fun v => v.category).sum ≤ kw) (hdg : decode cc g.pc = .ok (.invokestatic index, 3)) :
    xc_Run p l e R s m args below meth c H locs cells slots g rest rm.cells rm.slots post A := by
  obtain ⟨hx, hbb, hml, ho⟩ := S
  intro T hT X
  obtain ⟨mk, methY, cY, hnm, hmY, -, -, hsig, hlen⟩ := hC.2
  have hstatic : methY.isStatic = true := Cond.static_spec hnm hmY hstat
  obtain ⟨kP, hkP, -⟩ := className_of_methodNamed hnm
  have hinitP : kP.init = .initialized := Cond.initialized_spec (findClass_of_methodNamed hnm) hkP hini
  obtain ⟨vm₁, X₁, hstep₁⟩ := X.invokestatic hx ho hlink hnm hmY hstatic hkP hinitP hy (g := g) hg (argsL := As) (rest := rest) (by rw [hlen]; exact hn) hstack (by rw [hbb]; exact hdg)
  exact xc_close hT X₁ hM hC hini hnm hg (hsize.trans hml.symm) (by rw [hbb]; exact hdg) hW hf hb hPc hstep₁
theorem xc_runSN (S : xc_Fix p m c cc nL s own) (hM : xc_Met l y w rm Pc post A) (hC : xc_C s y w maxL n) (hlink : (Cond.methodLinkNest own index y host).before args s = true) (hstat : (Cond.static y).before args s = true) (hini : (Cond.initialized y.cls).before args s = true) (hy : xc_no y) (hf : xc_Fits R rm maxL kw cells slots)
    (hb : FrameBlind Pc) (hPc : ∀ U : State, U.heap = H → s.WarmedH U.vm → Pc As.toArray U) (hg : g.method = m) (hn : As.length = n) (hsize : g.locals.size = nL) (hstack : g.stack = As.reverse ++ rest) (hW : 2 * g.monitorRoom + (rest.map fun v => v.category).sum ≤ kw) (hdg : decode cc g.pc = .ok (.invokestatic index, 3)) :
    xc_Run p l e R s m args below meth c H locs cells slots g rest rm.cells rm.slots post A := by
  obtain ⟨hx, hbb, hml, ho⟩ := S
  intro T hT X
  obtain ⟨mk, methY, cY, hnm, hmY, -, -, hsig, hlen⟩ := hC.2
  have hstatic : methY.isStatic = true := Cond.static_spec hnm hmY hstat
  obtain ⟨kP, hkP, -⟩ := className_of_methodNamed hnm
  have hinitP : kP.init = .initialized := Cond.initialized_spec (findClass_of_methodNamed hnm) hkP hini
  obtain ⟨vm₁, X₁, hstep₁⟩ := X.invokestaticNest hx ho hlink hnm hmY hstatic hkP hinitP hy (g := g) hg (argsL := As) (rest := rest) (by rw [hlen]; exact hn) hstack (by rw [hbb]; exact hdg)
  exact xc_close hT X₁ hM hC hini hnm hg (hsize.trans hml.symm) (by rw [hbb]; exact hdg) hW hf hb hPc hstep₁
/-- the receiver: an object of the class C at b -/
def xc_O (s : State) (H : Heap) (C : String) (b : Nat) : Prop := ∃ cellB : Cell, H[b]? = some cellB ∧ cellB.vm.isStatics = false ∧ s.vm.findClass C = some cellB.cls
theorem xc_runV (S : xc_Fix p m c cc nL s own) (hM : xc_Met l y w rm Pc post A) (hC : xc_C s y w maxL n) (hlink : (Cond.methodLink own index y).before args s = true) (hinst : (Cond.instanceMethod y).before args s = true) (hsel : (Cond.selects y.cls y y).before args s = true) (hini : (Cond.initialized y.cls).before args s = true) (hy : xc_no y) (hf : xc_Fits R rm maxL kw cells slots)
    (hO : xc_O s H y.cls b) (hb : FrameBlind Pc) (hPc : ∀ U : State, U.heap = H → s.WarmedH U.vm → Pc (Value.ref b :: As).toArray U) (hg : g.method = m) (hn : As.length = n) (hsize : g.locals.size = nL) (hstack : g.stack = As.reverse ++ .ref b :: rest) (hW : 2 * g.monitorRoom + (rest.map fun v => v.category).sum ≤ kw) (hdg : decode cc g.pc = .ok (.invokevirtual index, 3)) :
    xc_Run p l e R s m args below meth c H locs cells slots g rest rm.cells rm.slots post A := by
  obtain ⟨hx, hbb, hml, ho⟩ := S
  obtain ⟨cellB, hcB, hoB, hclB⟩ := hO
  intro T hT X
  obtain ⟨mk, methY, cY, hnm, hmY, -, -, hsig, hlen⟩ := hC.2
  obtain ⟨mk', methM, hnm', hmM, hstM, habM⟩ := Cond.instanceMethod_spec hinst
  cases Option.some.inj (hnm.symm.trans hnm')
  cases Option.some.inj (hmY.symm.trans hmM)
  obtain ⟨c2, r2, m2, q1, q2, q3, q4, kP, hkP, hkPi⟩ := Cond.selects_spec hsel
  cases hclB.symm.trans q1
  cases (State.methodFound?_of_named hnm hy).symm.trans q2
  cases hnm.symm.trans q3
  have hselP : selectMethod e.platform s.vm cellB.cls mk = .method mk := by rw [Launch.admits_selectMethod X.admits]; exact q4
  obtain ⟨vm₁, X₁, hstep₁⟩ := X.invokevirtual hx ho hlink hnm hmY hstM hkP hkPi hy (a := b) (cell := cellB) (by rw [hT]; exact hcB)
    (fun z h => by rw [h] at hoB; cases hoB) hselP hmY habM hkP hkPi (g := g) hg (argsL := As) (rest := rest) (by rw [hlen]; exact hn) hstack (by rw [hbb]; exact hdg)
  exact xc_close hT X₁ hM hC hini hnm hg (hsize.trans hml.symm) (by rw [hbb]; exact hdg) hW hf hb hPc hstep₁
theorem xc_runVN (S : xc_Fix p m c cc nL s own) (hM : xc_Met l y w rm Pc post A) (hC : xc_C s y w maxL n) (hlink : (Cond.methodLinkNest own index y host).before args s = true) (hinst : (Cond.instanceMethod y).before args s = true) (hsel : (Cond.selects y.cls y y).before args s = true) (hini : (Cond.initialized y.cls).before args s = true) (hy : xc_no y) (hf : xc_Fits R rm maxL kw cells slots)
    (hO : xc_O s H y.cls b) (hb : FrameBlind Pc) (hPc : ∀ U : State, U.heap = H → s.WarmedH U.vm → Pc (Value.ref b :: As).toArray U) (hg : g.method = m) (hn : As.length = n) (hsize : g.locals.size = nL) (hstack : g.stack = As.reverse ++ .ref b :: rest) (hW : 2 * g.monitorRoom + (rest.map fun v => v.category).sum ≤ kw) (hdg : decode cc g.pc = .ok (.invokevirtual index, 3)) :
    xc_Run p l e R s m args below meth c H locs cells slots g rest rm.cells rm.slots post A := by
  obtain ⟨hx, hbb, hml, ho⟩ := S
  obtain ⟨cellB, hcB, hoB, hclB⟩ := hO
  intro T hT X
  obtain ⟨mk, methY, cY, hnm, hmY, -, -, hsig, hlen⟩ := hC.2
  obtain ⟨mk', methM, hnm', hmM, hstM, habM⟩ := Cond.instanceMethod_spec hinst
  cases Option.some.inj (hnm.symm.trans hnm')
  cases Option.some.inj (hmY.symm.trans hmM)
  obtain ⟨c2, r2, m2, q1, q2, q3, q4, kP, hkP, hkPi⟩ := Cond.selects_spec hsel
  cases hclB.symm.trans q1
  cases (State.methodFound?_of_named hnm hy).symm.trans q2
  cases hnm.symm.trans q3
  have hselP : selectMethod e.platform s.vm cellB.cls mk = .method mk := by rw [Launch.admits_selectMethod X.admits]; exact q4
  obtain ⟨vm₁, X₁, hstep₁⟩ := X.invokevirtualNest hx ho hlink hnm hmY hstM hkP hkPi hy (a := b) (cell := cellB) (by rw [hT]; exact hcB)
    (fun z h => by rw [h] at hoB; cases hoB) hselP hmY habM hkP hkPi (g := g) hg (argsL := As) (rest := rest) (by rw [hlen]; exact hn) hstack (by rw [hbb]; exact hdg)
  exact xc_close hT X₁ hM hC hini hnm hg (hsize.trans hml.symm) (by rw [hbb]; exact hdg) hW hf hb hPc hstep₁
theorem xc_runI (S : xc_Fix p m c cc nL s own) {bytes : ByteArray} (hM : xc_Met l y (.code y bytes maxL none) rm Pc post A) (hcode : (Cond.code y bytes maxL none).before args s = true) (hd : (parseMethodDescriptor y.desc).map (fun d => d.parameters.length) = some n) (hlink : (Cond.methodLink own index y).before args s = true) (hinst : (Cond.instanceMethod y).before args s = true) (hini : (Cond.initialized y.cls).before args s = true) (hy1 : y.name = "<init>") (hy : xc_no y) (hf : xc_Fits R rm maxL kw cells slots)
    (hb : FrameBlind Pc) (hPc : ∀ U : State, U.heap = H → s.WarmedH U.vm → Pc (Value.ref b :: As).toArray U) (hg : g.method = m) (hn : As.length = n) (hsize : g.locals.size = nL) (hstack : g.stack = As.reverse ++ .ref b :: rest) (hW : 2 * g.monitorRoom + (rest.map fun v => v.category).sum ≤ kw) (hdg : decode cc g.pc = .ok (.invokespecial index, 3)) :
    xc_Run p l e R s m args below meth c H locs cells slots g rest rm.cells rm.slots post A := by
  have hC : xc_C s y (.code y bytes maxL none) maxL n := xc_C.of hcode hd
  obtain ⟨hx, hbb, hml, ho⟩ := S
  subst hg
  intro T hT X
  have hpl : e.platform.magicAccessors = ({} : Platform).magicAccessors := by rw [X.admits.platform]
  have hlen : ∀ sig, parseMethodDescriptor y.desc = some sig → As.length = sig.parameters.length := fun sig h => by
    rw [h] at hd
    exact hn.trans (Option.some.inj hd).symm
  obtain ⟨mk, methM, cM, kP, vm₁, hnm, hmM, -, -, -, -, hkP, -, hW₁, hstep₁⟩ := Steps.initColdArgs (e := e) X.here hx X.warmed hpl ho hy1 hy hlink hinst hcode (f := g) rfl hlen hstack (by rw [hbb]; exact hdg)
  have X₁ := X.noted hW₁
  exact xc_close hT X₁ hM hC hini hnm rfl (hsize.trans hml.symm) (by rw [hbb]; exact hdg) hW hf hb hPc hstep₁
end Runs
section Uses
variable {p : Program} {l : Launch} {e : Env} {R : Room} {s : State} {m : MethodId} {args : Array Value} {below : List Frame} {meth : Method} {c : Code} {H : Heap} {locs : List Loc} {cells slots : Nat} {Q : State → Prop}
variable {post : xc_R → Heap → Prop} {A : Nat → Prop} {rest : List Value} {pc mc ms : Nat} {ls : Array Slot} {st0 : List Value}
theorem xc_use (hr : xc_Run p l e R s m args below meth c H locs cells slots (F0 m pc ls st0) rest mc ms post A)
    (kr : ∀ (v : Option Value) (H1 : Heap) (L : List Loc), post (.inl v) H1 → xc_F A H H1 → (∀ q ∈ L, A q.base) → W p l e R s m args below meth c H1 (locs ++ L) (cells + mc) (slots + ms) Q (F0 m (pc + 3) ls (v.toList ++ rest)))
    (kx : ∀ (q : Addr) (E : String) (ce : Cell) (H1 : Heap) (L : List Loc), post (.inr E) H1 → xc_F A H H1 → (∀ q ∈ L, A q.base) → H1[q]? = some ce → ce.vm = .none → s.vm.findClass E = some ce.cls → xc_W p l e R s m args below meth c H1 (locs ++ L) (cells + mc) (slots + ms) Q (F0 m pc ls rest) q) :
    W p l e R s m args below meth c H locs cells slots Q (F0 m pc ls st0) := by
  intro T hT X
  obtain ⟨T', L, hL, X', hF, hq⟩ := hr T hT X
  rcases hq with ⟨v, hp, hst⟩ | ⟨q, E, ce, h1, h2, h3, h4, hst⟩
  · obtain ⟨t, a1, b1⟩ := kr v T'.heap L hp hF hL T' rfl X'
    exact ⟨t, hst t a1, b1⟩
  · obtain ⟨t, a1, b1⟩ := kx q E ce T'.heap L h4 hF hL h1 h2 h3 T' rfl X'
    exact ⟨t, hst.trans a1, b1⟩
/-- the call changes nothing and gives back v -/
def xc_ro (v : Option Value) (H : Heap) : xc_R → Heap → Prop := fun r H1 => r = .inl v ∧ H1 = H
theorem xc_nil {L : List Loc} (h : ∀ q ∈ L, False) : L = [] := by
  cases L with
  | nil => rfl
  | cons a t => exact (h a List.mem_cons_self).elim
theorem xc_read {v : Option Value} (hr : xc_Run p l e R s m args below meth c H locs cells slots (F0 m pc ls st0) rest 0 0 (xc_ro v H) (fun _ => False))
    (k : W p l e R s m args below meth c H locs cells slots Q (F0 m (pc + 3) ls (v.toList ++ rest))) : W p l e R s m args below meth c H locs cells slots Q (F0 m pc ls st0) := by
  refine xc_use hr (fun v' H1 L hp _ hL => ?_) (fun q E ce H1 L hp => nomatch hp.1)
  obtain ⟨h1, rfl⟩ := hp
  cases h1
  rw [xc_nil hL, List.append_nil]
  exact k
theorem xc_mono {Q' : State → Prop} {g : JFrame} (h : ∀ t, Q t → Q' t) (k : W p l e R s m args below meth c H locs cells slots Q g) : W p l e R s m args below meth c H locs cells slots Q' g := by
  intro T hT X
  obtain ⟨t, a, b⟩ := k T hT X
  exact ⟨t, a, h t b⟩
/-- out of the kit's end of a body the end here -/
theorem xc_end {r : xc_R} {v : Option Value} (hr : r = .inl v) (hp : post r H) (hF : xc_F A s.heap H) {t : State} (h : MQ below (fun _ _ o t => o = .returned v ∧ t.heap = H ∧ s.WarmedH t.vm) args s cells slots A t) : xc_Z below post A args s cells slots t := by
  obtain ⟨o, h1, h2, ⟨h3, h4, h5⟩, L, h6, h7⟩ := h
  subst h3
  refine ⟨_, h1, h2, h5, ⟨L, h6.2.2, h7⟩, by rw [h4]; exact hF, Or.inl ⟨v, rfl, ?_⟩⟩
  rw [h4, ← hr]
  exact hp
end Uses
section Ends
variable {p : Program} {l : Launch} {e : Env} {R : Room} {s : State} {m : MethodId} {args : Array Value} {below : List Frame} {meth : Method} {c : Code} {H : Heap} {locs : List Loc} {cells slots : Nat}
variable {post : xc_R → Heap → Prop} {A : Nat → Prop} {pc : Nat} {ls : Array Slot} {cc : ByteArray}
theorem xc_iret {v : Int32} (hx : p.tables.exec = Jvm.exec) (hb : c.code = cc) (hr : meth.sig.returnType = some .int) (hl : meth.locks = false) (hF : xc_F A s.heap H) (hL : ∀ q ∈ locs, A q.base) (hp : post (.inl (some (.int v))) H) (hdg : decode cc pc = .ok (.ireturn, 1)) :
    W p l e R s m args below meth c H locs cells slots (xc_Z below post A args s cells slots) (F0 m pc ls [.int v]) :=
  xc_mono (fun t h => xc_end rfl hp hF h) (W.iret (Qc := fun _ _ o t => o = .returned (some (.int v)) ∧ t.heap = H ∧ s.WarmedH t.vm) (free := A) hx hb hr (fun t ht hW => ⟨rfl, ht, hW⟩) hL hdg hl)
theorem xc_lret {v : Int64} (hx : p.tables.exec = Jvm.exec) (hb : c.code = cc) (hr : meth.sig.returnType = some .long) (hl : meth.locks = false) (hF : xc_F A s.heap H) (hL : ∀ q ∈ locs, A q.base) (hp : post (.inl (some (.long v))) H) (hdg : decode cc pc = .ok (.lreturn, 1)) :
    W p l e R s m args below meth c H locs cells slots (xc_Z below post A args s cells slots) (F0 m pc ls [.long v]) :=
  xc_mono (fun t h => xc_end rfl hp hF h) (W.lret (Qc := fun _ _ o t => o = .returned (some (.long v)) ∧ t.heap = H ∧ s.WarmedH t.vm) (free := A) hx hb hr (fun t ht hW => ⟨rfl, ht, hW⟩) hL hdg hl)
theorem xc_vret (hx : p.tables.exec = Jvm.exec) (hb : c.code = cc) (hr : meth.sig.returnType = none) (hl : meth.locks = false) (hF : xc_F A s.heap H) (hL : ∀ q ∈ locs, A q.base) (hp : post (.inl none) H) (hdg : decode cc pc = .ok (.return_, 1)) :
    W p l e R s m args below meth c H locs cells slots (xc_Z below post A args s cells slots) (F0 m pc ls []) :=
  xc_mono (fun t h => xc_end rfl hp hF h) (W.vret (Qc := fun _ _ o t => o = .returned none ∧ t.heap = H ∧ s.WarmedH t.vm) (free := A) hx hb hr (fun t ht hW => ⟨rfl, ht, hW⟩) hL hdg hl)
theorem xc_zret {v : Int32} {ty : FieldType} (hx : p.tables.exec = Jvm.exec) (hb : c.code = cc) (hr : meth.sig.returnType = some ty) (hn : narrow ty (.int v) = .int v) (hl : meth.locks = false) (hF : xc_F A s.heap H) (hL : ∀ q ∈ locs, A q.base) (hp : post (.inl (some (.int v))) H) (hdg : decode cc pc = .ok (.ireturn, 1)) :
    W p l e R s m args below meth c H locs cells slots (xc_Z below post A args s cells slots) (F0 m pc ls [.int v]) :=
  xc_mono (fun t h => xc_end rfl hp hF h) (W.zret (Qc := fun _ _ o t => o = .returned (some (.int v)) ∧ t.heap = H ∧ s.WarmedH t.vm) (free := A) hx hb hr hn (fun t ht hW => ⟨rfl, ht, hW⟩) hL hdg hl)
theorem xc_aret {a : Nat} {nm : String} (hx : p.tables.exec = Jvm.exec) (hb : c.code = cc) (hr : meth.sig.returnType = some (.object nm)) (hl : meth.locks = false) (hF : xc_F A s.heap H) (hL : ∀ q ∈ locs, A q.base) (hp : post (.inl (some (.ref a))) H) (hdg : decode cc pc = .ok (.areturn, 1)) :
    W p l e R s m args below meth c H locs cells slots (xc_Z below post A args s cells slots) (F0 m pc ls [.ref a]) :=
  xc_mono (fun t h => xc_end rfl hp hF h) (W.aret (Qc := fun _ _ o t => o = .returned (some (.ref a)) ∧ t.heap = H ∧ s.WarmedH t.vm) (free := A) hx hb hr (Or.inl ⟨nm, rfl⟩) (Or.inr ⟨a, rfl⟩) (fun t ht hW => ⟨rfl, ht, hW⟩) hL hdg hl)
/-- what is thrown over the frame goes out of the method -/
theorem xc_thru {rest : List Value} {q : Addr} {E : String} {ce : Cell} (hl : meth.locks = false) (hout : ∀ x ∈ c.exceptionTable.toList, covers x pc = false) (hF : xc_F A s.heap H) (hL : ∀ q ∈ locs, A q.base) (hce : H[q]? = some ce) (hcv : ce.vm = .none) (hcl : s.vm.findClass E = some ce.cls) (hp : post (.inr E) H) :
    xc_W p l e R s m args below meth c H locs cells slots (xc_Z below post A args s cells slots) (F0 m pc ls rest) q := by
  intro T hT X
  obtain ⟨hst, hrun, hend, hW, hsm⟩ := X.leaveThrown q (g := F0 m pc ls rest) rfl rfl rfl hout hl
  have hh : (T.setFrames (.throwing q :: below)).heap = H := hT
  exact ⟨_, hst, _, hrun, hend, hW, ⟨locs, hsm, hL⟩, by rw [hh]; exact hF, Or.inr ⟨q, E, ce, rfl, by rw [hh]; exact hce, hcv, hcl, by rw [hh]; exact hp⟩⟩
theorem xc_widen {Q : State → Prop} {g : JFrame} {q : Addr} {k n : Nat} (h1 : cells ≤ k) (h2 : slots ≤ n) (kk : xc_W p l e R s m args below meth c H locs k n Q g q) : xc_W p l e R s m args below meth c H locs cells slots Q g q :=
  fun T hT X => kk T hT (stand_widen X h1 h2)
/-- a table without rows covers nothing -/
theorem xc_none (h : c.exceptionTable.isEmpty = true) : ∀ x ∈ c.exceptionTable.toList, covers x pc = false := by
  intro x hx
  have h1 : c.exceptionTable = #[] := by simpa using h
  rw [h1] at hx
  simp at hx
/-- what a walk without writes leaves of the old cells: all of them -/
theorem xc_kept {k n : Nat} {U : State} (h : s.sameButNew ({ U with vm := s.vm } : State) [] k n) : xc_F (fun _ => False) s.heap U.heap := by
  obtain ⟨-, h2, -, -, -, h6⟩ := h
  refine ⟨h2, fun q hq _ => ?_⟩
  obtain ⟨c9, e1, e2, e3, e4⟩ := h6 q _ (Array.getElem?_eq_getElem hq)
  have hs : c9.slots = (s.heap[q]).slots := Array.ext_getElem? fun i => e4 i (fun hm => nomatch hm)
  have h9 : c9 = s.heap[q] := by
    rw [hs] at e2
    exact e2
  have e5 : U.heap[q]? = some c9 := e1
  rw [e5, h9, Array.getElem?_eq_getElem hq]
/-- 'throw new E("text")' in a method that has written nothing: new; dup; ldc; invokespecial; athrow -/
theorem xc_throw {own cls text : String} {names : List String} {ik is ic mc ms : Nat} (hx : p.tables.exec = Jvm.exec) (hb : c.code = cc) (hl : l.stackTraces = false) (hlocks : meth.locks = false) (hE : c.exceptionTable.isEmpty = true) (hown : s.vm.findClass own = some m.cls)
    (hcls : Bundle.fit cls = true) (hnames : ∀ n ∈ names, Bundle.fit n = true) (hk : (Cond.classLink own ik cls).before args s = true) (hini : (Cond.initialized cls).before args s = true) (hst : (Cond.stringRef own is text).before args s = true) (hat : ∀ w ∈ Bundle.ownAtoms own ic cls names, w.before args s = true)
    (hsize : ls.size = c.maxLocals) (d0 : decode cc pc = .ok (.new ik, 3)) (d3 : decode cc (pc + 3) = .ok (.dup, 1)) (d4 : decode cc (pc + 4) = .ok (.ldc is, 2)) (d6 : decode cc (pc + 6) = .ok (.invokespecial ic, 3)) (d9 : decode cc (pc + 9) = .ok (.athrow, 1))
    (hf : names.length + 3 < R.frames ∧ 13 * (names.length + 1) + 43 ≤ R.locals ∧ cells + 1 ≤ R.cells ∧ slots + 6 ≤ R.slots) (hm : cells + 1 ≤ mc ∧ slots + 6 ≤ ms) (hp : ∀ H1 : Heap, xc_F (fun _ => False) s.heap H1 → post (.inr cls) H1) :
    W p l e R s m args below meth c s.heap [] cells slots (xc_Z below post A args s mc ms) (F0 m pc ls []) := by
  intro T hT X
  have htr : e.platform.stackTraces = false := (show e.platform.stackTraces = l.stackTraces by rw [X.admits.platform]).trans hl
  have hins : (Cond.instantiable cls 6).before args s = true := hat _ (by simp [Bundle.ownAtoms])
  obtain ⟨vm₁, cX, kX, hfX, hkX, -, -, X₁, st1⟩ := X.newCold hx (own := own) (C := cls) (index := ik) (n := 6) hown hk hins hini (g := F0 m pc ls []) rfl (by rw [hb]; exact d0) hf.2.2.1 hf.2.2.2
  generalize hT1 : (T.setVm vm₁).pushCell { cls := cX, slots := kX.instanceTypes.map defaultValue, vm := .none } = T1 at X₁ st1
  have hcellA : T1.heap[T.heap.size]? = some (freshCell cX kX) := by rw [← hT1]; exact State.heap_pushCell_size _ _
  obtain ⟨k9, cf9, i9, a9, -, -, -, -, -, hev⟩ := Cond.stringRef_spec hown hst
  have d3' : decode c.code (pc + 3) = .ok (.dup, 1) := by rw [hb]; exact d3
  obtain ⟨U, hsteps, hrun, hend, hW, hsame, ce, hce, hO⟩ := X₁.ctorThrowS hx htr (own := own) (cls := cls) (names := names) (ic := ic) hown hcls hnames hat (fun x hx => nomatch hx) hfX hkX hcellA (by rw [hT]; exact Nat.le_refl _) (msg := .ref a9) rfl
    (g := { method := m, pc := pc + 6, locals := ls, stack := .ref a9 :: .ref T.heap.size :: .ref T.heap.size :: [], locked := none }) rfl hsize rfl rfl (rest := []) rfl (by rw [hb]; exact d6) (by rw [hb]; exact d9) (xc_none hE) hf.1 (by
      have h1 : (F0 m (pc + 6) ls ([] : List Value)).monitorRoom = 0 := rfl
      have h2 : ({ method := m, pc := pc + 6, locals := ls, stack := .ref a9 :: .ref T.heap.size :: .ref T.heap.size :: [], locked := none } : JFrame).monitorRoom = 0 := rfl
      rw [h2]
      simp only [List.map_cons, List.map_nil, List.sum_cons, List.sum_nil, Value.category]
      have := hf.2.1
      omega) hlocks
  have hK := xc_kept hsame
  have hall : s.sameButNew ({ U with vm := s.vm } : State) [] mc ms := hsame.mono hm.1 hm.2
  refine ⟨U, ?_, .threw T.heap.size, hrun, hend, hW, ⟨[], hall, fun q hq => nomatch hq⟩, hK.weaken (fun _ _ h => h.elim), Or.inr ⟨T.heap.size, cls, ce, rfl, hce, hO.vm, hO.cls, hp _ hK⟩⟩
  refine st1 _ ?_
  show Steps p.tables e below (T1.setTop { method := m, pc := pc + 3, locals := ls, stack := .ref T.heap.size :: [], locked := none }) _
  jvm_step X₁.here [X₁.here.top, hx, d3', Value.category]
  exact X₁.ldcString hx hown hst hev (g := { method := m, pc := pc + 4, locals := ls, stack := .ref T.heap.size :: .ref T.heap.size :: [], locked := none }) rfl (by rw [hb]; exact d4) _ hsteps
/-- caught by the row x of this method's table; the rows ahead don't take it -/
theorem xc_catch {Q : State → Prop} {rest : List Value} {own name E : String} {ce : Cell} {q : Addr} (hown : s.vm.findClass own = some m.cls) (pre : List ExceptionTableEntry) (x : ExceptionTableEntry) (suf : List ExceptionTableEntry) (hsplit : c.exceptionTable.toList = pre ++ x :: suf)
    (hpass : ∀ z ∈ pre, z.catchType ≠ 0 ∧ ∃ nm : String, (Cond.classLink own z.catchType nm).before args s = true ∧ (Cond.not (.castable E nm)).before args s = true) (hx : covers x pc = true) (h0 : x.catchType ≠ 0)
    (hlink : (Cond.classLink own x.catchType name).before args s = true) (hcast : (Cond.castable E name).before args s = true) (hce : H[q]? = some ce) (hcv : ce.vm = .none) (hcl : s.vm.findClass E = some ce.cls)
    (kk : W p l e R s m args below meth c H locs cells slots Q (F0 m x.handlerPc ls [.ref q])) : xc_W p l e R s m args below meth c H locs cells slots Q (F0 m pc ls rest) q := by
  intro T hT X
  have hpl : e.platform.magicAccessors = ({} : Platform).magicAccessors := by rw [X.admits.platform]
  obtain ⟨c3, c4, hc3, hc4, hasg⟩ := Cond.castable_spec hcast
  cases Option.some.inj (hc3.symm.trans hcl)
  obtain ⟨k9, h9, -⟩ := Vm.findClass_spec hcl
  obtain ⟨vm', X', st⟩ := X.thenCaughtThrough q (g := F0 m pc ls rest) rfl (Steps.refl _) (by rw [hT]; exact hce) (by rw [hcv]; rfl) ⟨k9, h9⟩ pre x suf hsplit
    (fun z hz => RowPassed.of_words hpl hown (hpass z hz).1 (hpass z hz).2.choose_spec.1 hcl (hpass z hz).2.choose_spec.2) hx (X.catches_of_link hown h0 hlink hc4 hasg).1
  obtain ⟨t, a1, b1⟩ := kk (T.setVm vm') hT X'
  exact ⟨t, st.trans a1, b1⟩
end Ends
section Bodies
variable {l : Launch} {y : MethodName} {rm : Room} {Pc : Array Value → State → Prop} {post : xc_R → Heap → Prop} {A : Nat → Prop} {cc : ByteArray} {maxL : Nat} {ret : Option FieldType}
/-- a contract out of a walk of the body -/
theorem xc_ofW (hy : plainName y.cls = true)
    (body : ∀ p e s m args below meth c s₁, BodyLoose p l y (headSpec [Cond.code y cc maxL ret] rm) cc maxL ret e s m args below meth c s₁ → c.maxLocals = maxL → c.exceptionTable.isEmpty = true → Pc args s →
      W p l e rm s m args below meth c s.heap [] 0 0 (xc_Z below post A args s rm.cells rm.slots) (entryFrame m args maxL)) : xc_Met l y (.code y cc maxL ret) rm Pc post A := by
  refine MetFree.of_bodyS (code := cc) (maxLocals := maxL) (ret := ret) hy ?_ ?_
  · intro args s m h hn
    obtain ⟨meth, c, h1, h2, h3, h4, h5, h6, -, -⟩ := Cond.code_spec hn (atoms_spec (ws := [Cond.code y cc maxL ret]) h _ List.mem_cons_self)
    exact ⟨meth, c, h1, h2, h3, h4, h5, h6⟩
  · intro p e s m args below meth c s₁ B hml hP _
    have hh0 : s₁.heap = s.heap := by rw [B.state]; rfl
    have hE := B.noHandlers (atoms_spec (ws := [Cond.code y cc maxL ret]) B.pre _ List.mem_cons_self)
    obtain ⟨t, a1, o, b1, b2, b3⟩ := body p e s m args below meth c s₁ B hml hE hP s₁ hh0 (Stand.of_body B)
    exact ⟨t, o, a1, b1, b2, b3⟩
/-- .. where the method has a table of handlers -/
theorem xc_ofWH {hh : List (Nat × Nat × Nat × Nat)} (hy : plainName y.cls = true)
    (body : ∀ p e s m args below meth c s₁, BodyLoose p l y (headSpec [Cond.codeWith y cc maxL ret hh] rm) cc maxL ret e s m args below meth c s₁ → c.maxLocals = maxL → c.exceptionTable.toList.map (fun h => (h.startPc, h.endPc, h.handlerPc, h.catchType)) = hh → Pc args s →
      W p l e rm s m args below meth c s.heap [] 0 0 (xc_Z below post A args s rm.cells rm.slots) (entryFrame m args maxL)) : xc_Met l y (.codeWith y cc maxL ret hh) rm Pc post A := by
  refine MetFree.of_bodyS (code := cc) (maxLocals := maxL) (ret := ret) hy ?_ ?_
  · intro args s m h hn
    obtain ⟨m9, meth, c, hn9, h1, h2, h3, h4, -, h5, h6, -⟩ := Cond.codeWith_spec (atoms_spec (ws := [Cond.codeWith y cc maxL ret hh]) h _ List.mem_cons_self)
    cases Option.some.inj (hn.symm.trans hn9)
    exact ⟨meth, c, h1, h2, h3, h4, h5, h6⟩
  · intro p e s m args below meth c s₁ B hml hP _
    have hh0 : s₁.heap = s.heap := by rw [B.state]; rfl
    have hE : c.exceptionTable.toList.map (fun h => (h.startPc, h.endPc, h.handlerPc, h.catchType)) = hh := by
      obtain ⟨m9, meth9, c9, hn9, h1, h2, -, -, h6, -⟩ := Cond.codeWith_spec (atoms_spec (ws := [Cond.codeWith y cc maxL ret hh]) B.pre _ List.mem_cons_self)
      cases Option.some.inj (hn9.symm.trans B.named)
      cases Option.some.inj (h1.symm.trans B.method)
      cases Option.some.inj (h2.symm.trans (Stand.of_body B).code)
      exact h6
    obtain ⟨t, a1, o, b1, b2, b3⟩ := body p e s m args below meth c s₁ B hml hE hP s₁ hh0 (Stand.of_body B)
    exact ⟨t, o, a1, b1, b2, b3⟩
end Bodies
end XCA
end
section
/-! numbers: congruences, Fermat, the exponent of N = p q, inverses -/
/-- a and b leave the same rest by n -/
def nt_eq (n a b : Nat) : Prop := a % n = b % n
theorem nt_rfl {n a : Nat} : nt_eq n a a := rfl
theorem nt_sym {n a b : Nat} (h : nt_eq n a b) : nt_eq n b a := Eq.symm h
theorem nt_trans {n a b c : Nat} (h : nt_eq n a b) (k : nt_eq n b c) : nt_eq n a c := Eq.trans h k
theorem nt_mod (n a : Nat) : nt_eq n (a % n) a := Nat.mod_mod a n
theorem nt_mul {n a b c d : Nat} (h : nt_eq n a b) (k : nt_eq n c d) : nt_eq n (a * c) (b * d) := by
  unfold nt_eq at *
  rw [Nat.mul_mod, h, k, ← Nat.mul_mod]
theorem nt_add {n a b c d : Nat} (h : nt_eq n a b) (k : nt_eq n c d) : nt_eq n (a + c) (b + d) := by
  unfold nt_eq at *
  rw [Nat.add_mod, h, k, ← Nat.add_mod]
theorem nt_pow {n a b : Nat} (k : Nat) (h : nt_eq n a b) : nt_eq n (a ^ k) (b ^ k) := by
  unfold nt_eq at *
  rw [Nat.pow_mod, h, ← Nat.pow_mod]
theorem nt_iff {n a b : Nat} : nt_eq n a b ↔ (n : Int) ∣ (a : Int) - b := by
  unfold nt_eq
  rw [Int.dvd_iff_emod_eq_zero, ← Int.emod_eq_emod_iff_emod_sub_eq_zero]
  constructor
  · intro h
    rw [← Int.natCast_emod, ← Int.natCast_emod, h]
  · intro h
    rw [← Int.natCast_emod, ← Int.natCast_emod] at h
    omega
theorem nt_iffA {n a b : Nat} : nt_eq n a b ↔ n ∣ ((a : Int) - b).natAbs := by
  rw [nt_iff, Int.ofNat_dvd_left]
theorem nt_cancel {n a b c : Nat} (hc : Nat.Coprime n a) (h : nt_eq n (a * b) (a * c)) : nt_eq n b c := by
  rw [nt_iffA] at h ⊢
  have e : ((a * b : Nat) : Int) - ((a * c : Nat) : Int) = (a : Int) * ((b : Int) - c) := by
    rw [Int.natCast_mul, Int.natCast_mul, Int.mul_sub]
  rw [e, Int.natAbs_mul, Int.natAbs_natCast] at h
  exact hc.dvd_of_dvd_mul_left h
theorem nt_lt {n a b : Nat} (h : nt_eq n a b) (ha : a < n) (hb : b < n) : a = b := by
  unfold nt_eq at h
  rwa [Nat.mod_eq_of_lt ha, Nat.mod_eq_of_lt hb] at h
theorem nt_dvd {m n a b : Nat} (hd : m ∣ n) (h : nt_eq n a b) : nt_eq m a b := by
  rw [nt_iffA] at h ⊢
  exact Nat.dvd_trans hd h
theorem nt_crt {m n a b : Nat} (hc : Nat.Coprime m n) (h : nt_eq m a b) (k : nt_eq n a b) : nt_eq (m * n) a b := by
  rw [nt_iffA] at h k ⊢
  exact hc.mul_dvd_of_dvd_of_dvd h k
theorem nt_pow1 {n a k : Nat} (j : Nat) (h : nt_eq n (a ^ k) 1) : nt_eq n (a ^ (k * j)) 1 := by
  rw [Nat.pow_mul]
  have h1 := nt_pow j h
  rwa [Nat.one_pow] at h1
/-- a prime -/
def nt_P (p : Nat) : Prop := 2 ≤ p ∧ ∀ d, d ∣ p → d = 1 ∨ d = p
theorem nt_P_cop {p a : Nat} (h : nt_P p) (ha : ¬ p ∣ a) : Nat.Coprime p a := by
  rcases h.2 (Nat.gcd p a) (Nat.gcd_dvd_left p a) with e | e
  · exact e
  · have h1 := Nat.gcd_dvd_right p a
    rw [e] at h1
    exact absurd h1 ha
theorem nt_P_ne {p q : Nat} (P : nt_P p) (Q : nt_P q) (h : p ≠ q) : Nat.Coprime p q := by
  refine nt_P_cop P (fun z => ?_)
  rcases Q.2 p z with e | e
  · have := P.1
    omega
  · exact h e
theorem nt_P_mul {p a b : Nat} (P : nt_P p) (h : p ∣ a * b) : p ∣ a ∨ p ∣ b := by
  by_cases ha : p ∣ a
  · exact Or.inl ha
  · exact Or.inr ((nt_P_cop P ha).dvd_of_dvd_mul_left h)
theorem nt_P_pow {p a : Nat} (P : nt_P p) : ∀ k : Nat, p ∣ a ^ k → p ∣ a
  | 0, h => by
    rw [Nat.pow_zero] at h
    have h1 := Nat.le_of_dvd (by decide) h
    have := P.1
    omega
  | k + 1, h => by
    rw [Nat.pow_succ] at h
    rcases nt_P_mul P h with h | h
    · exact nt_P_pow P k h
    · exact h
/-- Pascal's numbers -/
def nt_ch : Nat → Nat → Nat
  | _, 0 => 1
  | 0, _ + 1 => 0
  | n + 1, k + 1 => nt_ch n k + nt_ch n (k + 1)
theorem nt_ch_0 (n : Nat) : nt_ch n 0 = 1 := by cases n <;> simp [nt_ch]
theorem nt_ch_z (k : Nat) : nt_ch 0 (k + 1) = 0 := by simp [nt_ch]
theorem nt_ch_s (n k : Nat) : nt_ch (n + 1) (k + 1) = nt_ch n k + nt_ch n (k + 1) := by simp [nt_ch]
theorem nt_ch_big : ∀ n k : Nat, n < k → nt_ch n k = 0
  | 0, 0, h => absurd h (by omega)
  | _ + 1, 0, h => absurd h (by omega)
  | 0, k + 1, _ => nt_ch_z k
  | n + 1, k + 1, h => by rw [nt_ch_s, nt_ch_big n k (by omega), nt_ch_big n (k + 1) (by omega)]
theorem nt_ch_nn : ∀ n : Nat, nt_ch n n = 1
  | 0 => nt_ch_0 0
  | n + 1 => by rw [nt_ch_s, nt_ch_nn n, nt_ch_big n (n + 1) (by omega)]
theorem nt_ch_mul : ∀ n k : Nat, (n + 1) * nt_ch n k = nt_ch (n + 1) (k + 1) * (k + 1)
  | 0, 0 => by rw [nt_ch_s, nt_ch_0, nt_ch_z]
  | 0, k + 1 => by rw [nt_ch_s, nt_ch_z, nt_ch_z]; simp
  | n + 1, 0 => by
    have h := nt_ch_mul n 0
    rw [nt_ch_0] at h
    rw [nt_ch_s, nt_ch_0]
    omega
  | n + 1, k + 1 => by
    have h1 := nt_ch_mul n k
    have h2 := nt_ch_mul n (k + 1)
    have e1 := nt_ch_s n k
    have e2 := nt_ch_s (n + 1) (k + 1)
    have a1 : (n + 1 + 1) * nt_ch (n + 1) (k + 1) = (n + 1) * nt_ch (n + 1) (k + 1) + nt_ch (n + 1) (k + 1) := Nat.succ_mul _ _
    have a2 : (n + 1) * nt_ch (n + 1) (k + 1) = (n + 1) * nt_ch n k + (n + 1) * nt_ch n (k + 1) := by rw [e1, Nat.mul_add]
    have a3 : nt_ch (n + 1 + 1) (k + 1 + 1) * (k + 1 + 1) = nt_ch (n + 1) (k + 1) * (k + 1 + 1) + nt_ch (n + 1) (k + 1 + 1) * (k + 1 + 1) := by rw [e2, Nat.add_mul]
    have a4 : nt_ch (n + 1) (k + 1) * (k + 1 + 1) = nt_ch (n + 1) (k + 1) * (k + 1) + nt_ch (n + 1) (k + 1) := Nat.mul_succ _ _
    omega
theorem nt_ch_p {p k : Nat} (h : nt_P p) (hk : k + 1 < p) : p ∣ nt_ch p (k + 1) := by
  obtain ⟨n, rfl⟩ : ∃ n, p = n + 1 := ⟨p - 1, by omega⟩
  have h1 := nt_ch_mul n k
  have h2 : (n + 1) ∣ nt_ch (n + 1) (k + 1) * (k + 1) := ⟨nt_ch n k, h1.symm⟩
  have h3 : ¬ (n + 1) ∣ (k + 1) := fun z => by
    have := Nat.le_of_dvd (by omega) z
    omega
  exact (nt_P_cop h h3).dvd_of_dvd_mul_right h2
def nt_bs (a n : Nat) : Nat → Nat
  | 0 => 1
  | k + 1 => nt_bs a n k + nt_ch n (k + 1) * a ^ (k + 1)
theorem nt_bs_0 (a n : Nat) : nt_bs a n 0 = 1 := rfl
theorem nt_bs_k (a n k : Nat) : nt_bs a n (k + 1) = nt_bs a n k + nt_ch n (k + 1) * a ^ (k + 1) := rfl
theorem nt_bs_s (a n : Nat) : ∀ k : Nat, nt_bs a (n + 1) (k + 1) = nt_bs a n (k + 1) + a * nt_bs a n k
  | 0 => by
    rw [nt_bs_k, nt_bs_k, nt_bs_0, nt_bs_0, nt_ch_s, nt_ch_0, Nat.add_mul, Nat.one_mul, Nat.mul_one]
    simp only [Nat.zero_add, Nat.pow_one]
    omega
  | k + 1 => by
    rw [nt_bs_k a (n + 1) (k + 1), nt_bs_s a n k, nt_ch_s n (k + 1), nt_bs_k a n (k + 1)]
    have e : a * nt_bs a n (k + 1) = a * nt_bs a n k + nt_ch n (k + 1) * a ^ (k + 1 + 1) := by
      rw [nt_bs_k, Nat.mul_add, Nat.pow_succ a (k + 1), Nat.mul_comm a (nt_ch n (k + 1) * a ^ (k + 1)), Nat.mul_assoc]
    have e2 : (nt_ch n (k + 1) + nt_ch n (k + 1 + 1)) * a ^ (k + 1 + 1) = nt_ch n (k + 1) * a ^ (k + 1 + 1) + nt_ch n (k + 1 + 1) * a ^ (k + 1 + 1) := Nat.add_mul _ _ _
    omega
theorem nt_binom (a : Nat) : ∀ n : Nat, (a + 1) ^ n = nt_bs a n n
  | 0 => rfl
  | n + 1 => by
    rw [Nat.pow_succ, nt_binom a n, nt_bs_s, nt_bs_k, nt_ch_big n (n + 1) (by omega), Nat.zero_mul, Nat.add_zero, Nat.mul_add, Nat.mul_one, Nat.mul_comm a, Nat.add_comm, Nat.add_zero]
theorem nt_bs_p {p : Nat} (h : nt_P p) (a : Nat) : ∀ k : Nat, k < p → nt_eq p (nt_bs a p k) 1
  | 0, _ => rfl
  | k + 1, hk => by
    have ih := nt_bs_p h a k (by omega)
    obtain ⟨c, hc⟩ := nt_ch_p h hk
    rw [nt_bs_k, hc, Nat.mul_assoc]
    unfold nt_eq at *
    rw [Nat.add_mul_mod_self_left]
    exact ih
theorem nt_flt {p : Nat} (h : nt_P p) : ∀ a : Nat, nt_eq p (a ^ p) a
  | 0 => by
    rw [Nat.zero_pow (by have := h.1; omega)]
    exact rfl
  | a + 1 => by
    have ih := nt_flt h a
    rw [nt_binom]
    obtain ⟨n, rfl⟩ : ∃ n, p = n + 1 := ⟨p - 1, by have := h.1; omega⟩
    rw [nt_bs_k, nt_ch_nn, Nat.one_mul, Nat.add_comm a 1]
    exact nt_add (nt_bs_p h a n (by omega)) ih
theorem nt_fermat {p a : Nat} (h : nt_P p) (ha : ¬ p ∣ a) : nt_eq p (a ^ (p - 1)) 1 := by
  refine nt_cancel (a := a) (nt_P_cop h ha) ?_
  have e : a * a ^ (p - 1) = a ^ p := by
    have h2 : p = (p - 1) + 1 := by have := h.1; omega
    rw [Nat.mul_comm, ← Nat.pow_succ]
    exact congrArg (fun k => a ^ k) h2.symm
  rw [e, Nat.mul_one]
  exact nt_flt h a
/-- N = p q with p = 2 p' + 1, q = 2 q' + 1: a number prime to N to the power of 2 p' q' is 1 -/
theorem nt_euler {p q a b x : Nat} (P : nt_P p) (Q : nt_P q) (hne : p ≠ q) (ep : p = 2 * a + 1) (eq : q = 2 * b + 1) (hp : ¬ p ∣ x) (hq : ¬ q ∣ x) : nt_eq (p * q) (x ^ (2 * (a * b))) 1 := by
  refine nt_crt (nt_P_ne P Q hne) ?_ ?_
  · have h1 := nt_pow1 b (nt_fermat P hp)
    have e : (p - 1) * b = 2 * (a * b) := by rw [ep, Nat.add_sub_cancel, Nat.mul_assoc]
    rwa [e] at h1
  · have h1 := nt_pow1 a (nt_fermat Q hq)
    have e : (q - 1) * a = 2 * (a * b) := by rw [eq, Nat.add_sub_cancel, Nat.mul_assoc, Nat.mul_comm b a]
    rwa [e] at h1
theorem nt_P2 : nt_P 2 := ⟨Nat.le_refl 2, fun d h => by
  have := Nat.le_of_dvd (by decide) h
  match d, h with
  | 0, h => simp at h
  | 1, _ => exact Or.inl rfl
  | 2, _ => exact Or.inr rfl
  | d + 3, _ => omega⟩
/-- of a number prime to 2 a b the power (a - 1)(b - 1) is 1 modulo 2 a b -/
theorem nt_tot {a b e : Nat} (P : nt_P a) (Q : nt_P b) (hne : a ≠ b) (ha : 2 < a) (hb : 2 < b) (h1 : ¬ a ∣ e) (h2 : ¬ b ∣ e) (h3 : ¬ 2 ∣ e) : nt_eq (2 * (a * b)) (e ^ ((a - 1) * (b - 1))) 1 := by
  have c1 : Nat.Coprime a b := nt_P_ne P Q hne
  have c2 : Nat.Coprime 2 (a * b) := Nat.Coprime.mul_right (nt_P_ne nt_P2 P (by omega)) (nt_P_ne nt_P2 Q (by omega))
  refine nt_crt c2 ?_ (nt_crt c1 ?_ ?_)
  · have h := nt_pow1 ((a - 1) * (b - 1)) (nt_fermat nt_P2 h3)
    rwa [show (2 - 1) * ((a - 1) * (b - 1)) = (a - 1) * (b - 1) from Nat.one_mul _] at h
  · exact nt_pow1 (b - 1) (nt_fermat P h1)
  · have h := nt_pow1 (a - 1) (nt_fermat Q h2)
    rwa [Nat.mul_comm (b - 1) (a - 1)] at h
/-- .. so its power (a - 1)(b - 1) - 1 is its inverse -/
theorem nt_inv {a b e : Nat} (P : nt_P a) (Q : nt_P b) (hne : a ≠ b) (ha : 2 < a) (hb : 2 < b) (h1 : ¬ a ∣ e) (h2 : ¬ b ∣ e) (h3 : ¬ 2 ∣ e) : nt_eq (2 * (a * b)) (e * (e ^ ((a - 1) * (b - 1) - 1) % (2 * (a * b)))) 1 := by
  have hk : 1 ≤ (a - 1) * (b - 1) := Nat.mul_le_mul (by omega : 1 ≤ a - 1) (by omega : 1 ≤ b - 1)
  have e1 : e * e ^ ((a - 1) * (b - 1) - 1) = e ^ ((a - 1) * (b - 1)) := by
    rw [Nat.mul_comm, ← Nat.pow_succ]
    congr 1
    omega
  refine nt_trans (nt_mul nt_rfl (nt_mod _ _)) ?_
  rw [e1]
  exact nt_tot P Q hne ha hb h1 h2 h3
/-- inverses are one -/
theorem nt_inv1 {n e s t : Nat} (hs : nt_eq n (e * s) 1) (ht : nt_eq n (e * t) 1) : nt_eq n s t := by
  have h1 : nt_eq n (s * (e * t)) (s * 1) := nt_mul nt_rfl ht
  have h2 : nt_eq n ((e * s) * t) (1 * t) := nt_mul hs nt_rfl
  rw [Nat.mul_one] at h1
  rw [Nat.one_mul] at h2
  have e1 : s * (e * t) = (e * s) * t := by rw [← Nat.mul_assoc, Nat.mul_comm s e]
  rw [e1] at h1
  exact nt_trans (nt_sym h1) h2
/-- exponents may be taken modulo a number k with x^k = 1 -/
theorem nt_exp {n x k a b : Nat} (h : nt_eq n (x ^ k) 1) (hab : nt_eq k a b) : nt_eq n (x ^ a) (x ^ b) := by
  have e : ∀ c : Nat, nt_eq n (x ^ c) (x ^ (c % k)) := fun c => by
    have h1 := nt_pow1 (c / k) h
    have h2 : nt_eq n (x ^ (k * (c / k)) * x ^ (c % k)) (1 * x ^ (c % k)) := nt_mul h1 nt_rfl
    rw [← Nat.pow_add, Nat.one_mul, Nat.div_add_mod] at h2
    exact h2
  have h1 := e a
  have h2 := e b
  unfold nt_eq at hab
  rw [hab] at h1
  exact nt_trans h1 (nt_sym h2)
/-- trial division -/
theorem nt_P_iff {n : Nat} : nt_P n ↔ 2 ≤ n ∧ ∀ d : Nat, 2 ≤ d → d * d ≤ n → n % d ≠ 0 := by
  constructor
  · rintro ⟨h2, h⟩
    refine ⟨h2, fun d hd hdd hz => ?_⟩
    rcases h d (Nat.dvd_of_mod_eq_zero hz) with e | e
    · omega
    · subst e
      have : d * 2 ≤ d * d := Nat.mul_le_mul_left d hd
      omega
  · rintro ⟨h2, h⟩
    refine ⟨h2, fun d hd => ?_⟩
    obtain ⟨k, hk⟩ := hd
    by_cases d1 : d = 1
    · exact Or.inl d1
    · by_cases k1 : k = 1
      · subst k1
        right
        omega
      · exfalso
        have d0 : d ≠ 0 := fun z => by subst z; simp at hk; omega
        have k0 : k ≠ 0 := fun z => by subst z; simp at hk; omega
        by_cases hle : d ≤ k
        · refine h d (by omega) ?_ ?_
          · rw [hk]; exact Nat.mul_le_mul_left d hle
          · rw [hk]; exact Nat.mul_mod_right d k
        · refine h k (by omega) ?_ ?_
          · rw [hk]; exact Nat.mul_le_mul_right k (by omega)
          · rw [hk]; exact Nat.mul_mod_left d k
theorem nt_e_all : (List.range 16384).all (fun d => decide (d < 2) || decide (65537 % d ≠ 0)) = true := by decide +kernel
/-- 65537 has no divisor of 2 .. 16383 -/
theorem nt_e {d : Nat} (h2 : 2 ≤ d) (h : d < 16384) : ¬ d ∣ 65537 := by
  intro hd
  have h1 := List.all_eq_true.mp nt_e_all d (List.mem_range.mpr h)
  have h3 := Nat.mod_eq_zero_of_dvd hd
  simp only [Bool.or_eq_true, decide_eq_true_eq] at h1
  omega
end
