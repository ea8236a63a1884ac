section
/-- a private method of a class that the tables say can be made, by its rows of tables_1 -/
def lw_okq (q : MethodName × Nat) : Prop := (q.1.cls ≠ "java/lang/invoke/MethodHandle" ∧ q.1.cls ≠ "java/lang/invoke/VarHandle") ∧ Cond.instantiable q.1.cls q.2 ∈ tables_1 ∧ Cond.privateMethod q.1 ∈ tables_1 ∧ Cond.instanceMethod q.1 ∈ tables_1
theorem lw_p0 : lw_okq (⟨"java/lang/Throwable", "fillInStackTrace", "(I)Ljava/lang/Throwable;"⟩, 6) := ⟨⟨by decide +kernel, by decide +kernel⟩, List.mem_of_getElem? (i := 201) (by decide +kernel), List.mem_of_getElem? (i := 199) (by decide +kernel), List.mem_of_getElem? (i := 200) (by decide +kernel)⟩
theorem lw_p1 : lw_okq (⟨"SealTrust$Key", "power", "(JJ)J"⟩, 11) := ⟨⟨by decide +kernel, by decide +kernel⟩, List.mem_of_getElem? (i := 23) (by decide +kernel), List.mem_of_getElem? (i := 250) (by decide +kernel), List.mem_of_getElem? (i := 251) (by decide +kernel)⟩
theorem lw_p2 : lw_okq (⟨"SealTrust", "requireDocument", "()V"⟩, 7) := ⟨⟨by decide +kernel, by decide +kernel⟩, List.mem_of_getElem? (i := 15) (by decide +kernel), List.mem_of_getElem? (i := 282) (by decide +kernel), List.mem_of_getElem? (i := 283) (by decide +kernel)⟩
theorem lw_p3 : lw_okq (⟨"SealTrust", "requireKey", "()V"⟩, 7) := ⟨⟨by decide +kernel, by decide +kernel⟩, List.mem_of_getElem? (i := 15) (by decide +kernel), List.mem_of_getElem? (i := 286) (by decide +kernel), List.mem_of_getElem? (i := 287) (by decide +kernel)⟩
theorem lw_p4 : lw_okq (⟨"SealTrust", "motionAt", "(I)LSealTrust$Motion;"⟩, 7) := ⟨⟨by decide +kernel, by decide +kernel⟩, List.mem_of_getElem? (i := 15) (by decide +kernel), List.mem_of_getElem? (i := 342) (by decide +kernel), List.mem_of_getElem? (i := 343) (by decide +kernel)⟩
theorem lw_p5 : lw_okq (⟨"SealTrust$Key", "times", "(JJ)J"⟩, 11) := ⟨⟨by decide +kernel, by decide +kernel⟩, List.mem_of_getElem? (i := 23) (by decide +kernel), List.mem_of_getElem? (i := 387) (by decide +kernel), List.mem_of_getElem? (i := 388) (by decide +kernel)⟩
theorem lw_p6 : lw_okq (⟨"SealTrust$Key", "challenge", "(IJJJJ)I"⟩, 11) := ⟨⟨by decide +kernel, by decide +kernel⟩, List.mem_of_getElem? (i := 23) (by decide +kernel), List.mem_of_getElem? (i := 391) (by decide +kernel), List.mem_of_getElem? (i := 392) (by decide +kernel)⟩
theorem lw_p7 : lw_okq (⟨"SealTrust", "goodPartials", "(LSealTrust$Motion;)I"⟩, 7) := ⟨⟨by decide +kernel, by decide +kernel⟩, List.mem_of_getElem? (i := 15) (by decide +kernel), List.mem_of_getElem? (i := 441) (by decide +kernel), List.mem_of_getElem? (i := 442) (by decide +kernel)⟩
theorem lw_p8 : lw_okq (⟨"SealTrust$Key", "isBelowModulus", "(J)Z"⟩, 11) := ⟨⟨by decide +kernel, by decide +kernel⟩, List.mem_of_getElem? (i := 23) (by decide +kernel), List.mem_of_getElem? (i := 449) (by decide +kernel), List.mem_of_getElem? (i := 450) (by decide +kernel)⟩
theorem lw_p9 : lw_okq (⟨"SealTrust$Key", "inversePower", "(JJ)J"⟩, 11) := ⟨⟨by decide +kernel, by decide +kernel⟩, List.mem_of_getElem? (i := 23) (by decide +kernel), List.mem_of_getElem? (i := 458) (by decide +kernel), List.mem_of_getElem? (i := 459) (by decide +kernel)⟩
theorem lw_p10 : lw_okq (⟨"SealTrust", "enter", "(I)V"⟩, 7) := ⟨⟨by decide +kernel, by decide +kernel⟩, List.mem_of_getElem? (i := 15) (by decide +kernel), List.mem_of_getElem? (i := 497) (by decide +kernel), List.mem_of_getElem? (i := 498) (by decide +kernel)⟩
theorem lw_p11 : lw_okq (⟨"SealTrust", "dropOpenPartials", "()V"⟩, 7) := ⟨⟨by decide +kernel, by decide +kernel⟩, List.mem_of_getElem? (i := 15) (by decide +kernel), List.mem_of_getElem? (i := 519) (by decide +kernel), List.mem_of_getElem? (i := 520) (by decide +kernel)⟩
theorem lw_p12 : lw_okq (⟨"SealTrustModel", "blockOf", "()J"⟩, 23) := ⟨⟨by decide +kernel, by decide +kernel⟩, List.mem_of_getElem? (i := 575) (by decide +kernel), List.mem_of_getElem? (i := 677) (by decide +kernel), List.mem_of_getElem? (i := 678) (by decide +kernel)⟩
theorem lw_p13 : lw_okq (⟨"SealTrustModel", "begin", "()V"⟩, 23) := ⟨⟨by decide +kernel, by decide +kernel⟩, List.mem_of_getElem? (i := 575) (by decide +kernel), List.mem_of_getElem? (i := 681) (by decide +kernel), List.mem_of_getElem? (i := 682) (by decide +kernel)⟩
theorem lw_p14 : lw_okq (⟨"SealTrustModel", "mix", "(J)V"⟩, 23) := ⟨⟨by decide +kernel, by decide +kernel⟩, List.mem_of_getElem? (i := 575) (by decide +kernel), List.mem_of_getElem? (i := 686) (by decide +kernel), List.mem_of_getElem? (i := 687) (by decide +kernel)⟩
theorem lw_p15 : lw_okq (⟨"SealTrustModel", "mixed", "()J"⟩, 23) := ⟨⟨by decide +kernel, by decide +kernel⟩, List.mem_of_getElem? (i := 575) (by decide +kernel), List.mem_of_getElem? (i := 693) (by decide +kernel), List.mem_of_getElem? (i := 694) (by decide +kernel)⟩
def lw_privs_1 : List (MethodName × Nat) := [(⟨"java/lang/Throwable", "fillInStackTrace", "(I)Ljava/lang/Throwable;"⟩, 6), (⟨"SealTrust$Key", "power", "(JJ)J"⟩, 11), (⟨"SealTrust", "requireDocument", "()V"⟩, 7), (⟨"SealTrust", "requireKey", "()V"⟩, 7), (⟨"SealTrust", "motionAt", "(I)LSealTrust$Motion;"⟩, 7), (⟨"SealTrust$Key", "times", "(JJ)J"⟩, 11), (⟨"SealTrust$Key", "challenge", "(IJJJJ)I"⟩, 11), (⟨"SealTrust", "goodPartials", "(LSealTrust$Motion;)I"⟩, 7), (⟨"SealTrust$Key", "isBelowModulus", "(J)Z"⟩, 11), (⟨"SealTrust$Key", "inversePower", "(JJ)J"⟩, 11), (⟨"SealTrust", "enter", "(I)V"⟩, 7), (⟨"SealTrust", "dropOpenPartials", "()V"⟩, 7), (⟨"SealTrustModel", "blockOf", "()J"⟩, 23), (⟨"SealTrustModel", "begin", "()V"⟩, 23), (⟨"SealTrustModel", "mix", "(J)V"⟩, 23), (⟨"SealTrustModel", "mixed", "()J"⟩, 23)]
theorem lw_r1 : ∀ q ∈ lw_privs_1, lw_okq q := List.forall_mem_cons.mpr ⟨lw_p0, List.forall_mem_cons.mpr ⟨lw_p1, List.forall_mem_cons.mpr ⟨lw_p2, List.forall_mem_cons.mpr ⟨lw_p3, List.forall_mem_cons.mpr ⟨lw_p4, List.forall_mem_cons.mpr ⟨lw_p5, List.forall_mem_cons.mpr ⟨lw_p6, List.forall_mem_cons.mpr ⟨lw_p7, List.forall_mem_cons.mpr ⟨lw_p8, List.forall_mem_cons.mpr ⟨lw_p9, List.forall_mem_cons.mpr ⟨lw_p10, List.forall_mem_cons.mpr ⟨lw_p11, List.forall_mem_cons.mpr ⟨lw_p12, List.forall_mem_cons.mpr ⟨lw_p13, List.forall_mem_cons.mpr ⟨lw_p14, List.forall_mem_cons.mpr ⟨lw_p15, fun _ h => absurd h List.not_mem_nil⟩⟩⟩⟩⟩⟩⟩⟩⟩⟩⟩⟩⟩⟩⟩⟩
theorem lw_p16 : lw_okq (⟨"SealTrustModel", "isMotion", "(I)Z"⟩, 23) := ⟨⟨by decide +kernel, by decide +kernel⟩, List.mem_of_getElem? (i := 575) (by decide +kernel), List.mem_of_getElem? (i := 702) (by decide +kernel), List.mem_of_getElem? (i := 703) (by decide +kernel)⟩
theorem lw_p17 : lw_okq (⟨"SealTrustModel", "voice", "(II)Z"⟩, 23) := ⟨⟨by decide +kernel, by decide +kernel⟩, List.mem_of_getElem? (i := 575) (by decide +kernel), List.mem_of_getElem? (i := 709) (by decide +kernel), List.mem_of_getElem? (i := 710) (by decide +kernel)⟩
theorem lw_p18 : lw_okq (⟨"SealTrustModel", "make", "(II)V"⟩, 23) := ⟨⟨by decide +kernel, by decide +kernel⟩, List.mem_of_getElem? (i := 575) (by decide +kernel), List.mem_of_getElem? (i := 713) (by decide +kernel), List.mem_of_getElem? (i := 714) (by decide +kernel)⟩
theorem lw_p19 : lw_okq (⟨"SealTrustModel", "part", "(I)J"⟩, 23) := ⟨⟨by decide +kernel, by decide +kernel⟩, List.mem_of_getElem? (i := 575) (by decide +kernel), List.mem_of_getElem? (i := 717) (by decide +kernel), List.mem_of_getElem? (i := 718) (by decide +kernel)⟩
theorem lw_p20 : lw_okq (⟨"SealTrustModel", "check", "(I)J"⟩, 23) := ⟨⟨by decide +kernel, by decide +kernel⟩, List.mem_of_getElem? (i := 575) (by decide +kernel), List.mem_of_getElem? (i := 726) (by decide +kernel), List.mem_of_getElem? (i := 727) (by decide +kernel)⟩
theorem lw_p21 : lw_okq (⟨"SealTrustModel", "challenge", "(JJJJJ)I"⟩, 23) := ⟨⟨by decide +kernel, by decide +kernel⟩, List.mem_of_getElem? (i := 575) (by decide +kernel), List.mem_of_getElem? (i := 730) (by decide +kernel), List.mem_of_getElem? (i := 731) (by decide +kernel)⟩
theorem lw_p22 : lw_okq (⟨"SealTrustModel", "notGood", "(I)I"⟩, 23) := ⟨⟨by decide +kernel, by decide +kernel⟩, List.mem_of_getElem? (i := 575) (by decide +kernel), List.mem_of_getElem? (i := 753) (by decide +kernel), List.mem_of_getElem? (i := 754) (by decide +kernel)⟩
theorem lw_p23 : lw_okq (⟨"SealTrustModel", "good", "(II)Z"⟩, 23) := ⟨⟨by decide +kernel, by decide +kernel⟩, List.mem_of_getElem? (i := 575) (by decide +kernel), List.mem_of_getElem? (i := 757) (by decide +kernel), List.mem_of_getElem? (i := 758) (by decide +kernel)⟩
def lw_privs_2 : List (MethodName × Nat) := [(⟨"SealTrustModel", "isMotion", "(I)Z"⟩, 23), (⟨"SealTrustModel", "voice", "(II)Z"⟩, 23), (⟨"SealTrustModel", "make", "(II)V"⟩, 23), (⟨"SealTrustModel", "part", "(I)J"⟩, 23), (⟨"SealTrustModel", "check", "(I)J"⟩, 23), (⟨"SealTrustModel", "challenge", "(JJJJJ)I"⟩, 23), (⟨"SealTrustModel", "notGood", "(I)I"⟩, 23), (⟨"SealTrustModel", "good", "(II)Z"⟩, 23)]
theorem lw_r2 : ∀ q ∈ lw_privs_2, lw_okq q := List.forall_mem_cons.mpr ⟨lw_p16, List.forall_mem_cons.mpr ⟨lw_p17, List.forall_mem_cons.mpr ⟨lw_p18, List.forall_mem_cons.mpr ⟨lw_p19, List.forall_mem_cons.mpr ⟨lw_p20, List.forall_mem_cons.mpr ⟨lw_p21, List.forall_mem_cons.mpr ⟨lw_p22, List.forall_mem_cons.mpr ⟨lw_p23, fun _ h => absurd h List.not_mem_nil⟩⟩⟩⟩⟩⟩⟩⟩
def lw_privs : List (MethodName × Nat) := lw_privs_1 ++ (lw_privs_2)
def lw_tbl : List Cond := k2_sels lw_privs ++ tables_1
theorem lw_privs_ok : ∀ q ∈ lw_privs, lw_okq q := by
  show ∀ q ∈ lw_privs_1 ++ (lw_privs_2), lw_okq q
  exact List.forall_mem_append.mpr ⟨lw_r1, lw_r2⟩
end
section
/-! names: classes, fields in the order of their slots, methods and their code -/
def T_ST : u_T := fun k => match k with
  | 0 => ("SealTrust", "key", "LSealTrust$Key;", true)
  | 1 => ("SealTrust", "buffer", "LSealTrust$Buffer;", true)
  | 2 => ("SealTrust", "motions", "[LSealTrust$Motion;", true)
  | 3 => ("SealTrust", "sealed", "[I", true)
  | 4 => ("SealTrust", "motionCount", "I", false)
  | 5 => ("SealTrust", "sealedCount", "I", false)
  | _ => ("SealTrust", "suspended", "I", false)
def t_ST : Nat → FieldType := fun k => match k with
  | 0 => .object "SealTrust$Key"
  | 1 => .object "SealTrust$Buffer"
  | 2 => .array (.object "SealTrust$Motion")
  | 3 => .array .int
  | 4 => .int
  | 5 => .int
  | _ => .int
theorem n_ST : ∀ a, a < 7 → ∀ b, b < 7 → a ≠ b → (T_ST a).2.1 ≠ (T_ST b).2.1 := by decide +kernel
theorem o_ST : ∀ k, k < 7 → parseFieldDescriptor (T_ST k).2.2.1 = some (t_ST k) := by decide +kernel
def T_MD : u_T := fun k => match k with
  | 0 => ("SealTrustModel", "thrownCode", "I", false)
  | 1 => ("SealTrustModel", "n", "J", false)
  | 2 => ("SealTrustModel", "m", "J", false)
  | 3 => ("SealTrustModel", "d", "J", false)
  | 4 => ("SealTrustModel", "a", "J", false)
  | 5 => ("SealTrustModel", "b", "J", false)
  | 6 => ("SealTrustModel", "v", "J", false)
  | 7 => ("SealTrustModel", "epoch", "I", false)
  | 8 => ("SealTrustModel", "suspended", "I", false)
  | 9 => ("SealTrustModel", "buffer", "[I", true)
  | 10 => ("SealTrustModel", "bytes", "I", false)
  | 11 => ("SealTrustModel", "motions", "I", false)
  | 12 => ("SealTrustModel", "state", "[I", true)
  | 13 => ("SealTrustModel", "block", "[J", true)
  | 14 => ("SealTrustModel", "filed", "[I", true)
  | 15 => ("SealTrustModel", "objected", "[I", true)
  | 16 => ("SealTrustModel", "signature", "[J", true)
  | 17 => ("SealTrustModel", "power", "[J", true)
  | 18 => ("SealTrustModel", "proof", "[I", true)
  | 19 => ("SealTrustModel", "answer", "[J", true)
  | 20 => ("SealTrustModel", "booked", "I", false)
  | 21 => ("SealTrustModel", "book", "[I", true)
  | _ => ("SealTrustModel", "h", "J", false)
def t_MD : Nat → FieldType := fun k => match k with
  | 0 => .int
  | 1 => .long
  | 2 => .long
  | 3 => .long
  | 4 => .long
  | 5 => .long
  | 6 => .long
  | 7 => .int
  | 8 => .int
  | 9 => .array .int
  | 10 => .int
  | 11 => .int
  | 12 => .array .int
  | 13 => .array .long
  | 14 => .array .int
  | 15 => .array .int
  | 16 => .array .long
  | 17 => .array .long
  | 18 => .array .int
  | 19 => .array .long
  | 20 => .int
  | 21 => .array .int
  | _ => .long
theorem n_MD : ∀ a, a < 23 → ∀ b, b < 23 → a ≠ b → (T_MD a).2.1 ≠ (T_MD b).2.1 := by decide +kernel
theorem o_MD : ∀ k, k < 23 → parseFieldDescriptor (T_MD k).2.2.1 = some (t_MD k) := by decide +kernel
def T_BU : u_T := fun k => match k with
  | 0 => ("SealTrust$Buffer", "bytes", "[I", true)
  | _ => ("SealTrust$Buffer", "size", "I", false)
def t_BU : Nat → FieldType := fun k => match k with
  | 0 => .array .int
  | _ => .int
theorem n_BU : ∀ a, a < 2 → ∀ b, b < 2 → a ≠ b → (T_BU a).2.1 ≠ (T_BU b).2.1 := by decide +kernel
theorem o_BU : ∀ k, k < 2 → parseFieldDescriptor (T_BU k).2.2.1 = some (t_BU k) := by decide +kernel
def T_KE : u_T := fun k => match k with
  | 0 => ("SealTrust$Key", "shares", "[J", true)
  | 1 => ("SealTrust$Key", "checks", "[J", true)
  | 2 => ("SealTrust$Key", "dealt", "Z", false)
  | 3 => ("SealTrust$Key", "epoch", "J", false)
  | 4 => ("SealTrust$Key", "base", "J", false)
  | 5 => ("SealTrust$Key", "whole", "J", false)
  | 6 => ("SealTrust$Key", "signing", "J", false)
  | 7 => ("SealTrust$Key", "p", "J", false)
  | 8 => ("SealTrust$Key", "q", "J", false)
  | 9 => ("SealTrust$Key", "modulus", "J", false)
  | _ => ("SealTrust$Key", "order", "J", false)
def t_KE : Nat → FieldType := fun k => match k with
  | 0 => .array .long
  | 1 => .array .long
  | 2 => .boolean
  | 3 => .long
  | 4 => .long
  | 5 => .long
  | 6 => .long
  | 7 => .long
  | 8 => .long
  | 9 => .long
  | _ => .long
theorem n_KE : ∀ a, a < 11 → ∀ b, b < 11 → a ≠ b → (T_KE a).2.1 ≠ (T_KE b).2.1 := by decide +kernel
theorem o_KE : ∀ k, k < 11 → parseFieldDescriptor (T_KE k).2.2.1 = some (t_KE k) := by decide +kernel
def T_MO : u_T := fun k => match k with
  | 0 => ("SealTrust$Motion", "powers", "[J", true)
  | 1 => ("SealTrust$Motion", "challenges", "[I", true)
  | 2 => ("SealTrust$Motion", "answers", "[J", true)
  | 3 => ("SealTrust$Motion", "standing", "I", false)
  | 4 => ("SealTrust$Motion", "block", "J", false)
  | 5 => ("SealTrust$Motion", "partials", "I", false)
  | 6 => ("SealTrust$Motion", "objections", "I", false)
  | _ => ("SealTrust$Motion", "signature", "J", false)
def t_MO : Nat → FieldType := fun k => match k with
  | 0 => .array .long
  | 1 => .array .int
  | 2 => .array .long
  | 3 => .int
  | 4 => .long
  | 5 => .int
  | 6 => .int
  | _ => .long
theorem n_MO : ∀ a, a < 8 → ∀ b, b < 8 → a ≠ b → (T_MO a).2.1 ≠ (T_MO b).2.1 := by decide +kernel
theorem o_MO : ∀ k, k < 8 → parseFieldDescriptor (T_MO k).2.2.1 = some (t_MO k) := by decide +kernel
abbrev cl_all : List vw_C := [("SealTrust$Buffer", T_BU, 2), ("SealTrust$Key", T_KE, 11), ("SealTrust$Motion", T_MO, 8), ("SealTrust", T_ST, 7), ("SealTrustModel", T_MD, 23)]
abbrev b_ST_init : ByteArray := prog_1_method_1_code
def y_ST_init : MethodName := ⟨"SealTrust", "<init>", "()V"⟩
abbrev b_ST_deal : ByteArray := prog_1_method_2_code
def y_ST_deal : MethodName := ⟨"SealTrust", "deal", "(IIIII)V"⟩
abbrev b_ST_put : ByteArray := prog_1_method_3_code
def y_ST_put : MethodName := ⟨"SealTrust", "put", "(II)I"⟩
abbrev b_ST_motion : ByteArray := prog_1_method_4_code
def y_ST_motion : MethodName := ⟨"SealTrust", "motion", "()I"⟩
abbrev b_ST_consent : ByteArray := prog_1_method_5_code
def y_ST_consent : MethodName := ⟨"SealTrust", "consent", "(II)V"⟩
abbrev b_ST_object : ByteArray := prog_1_method_6_code
def y_ST_object : MethodName := ⟨"SealTrust", "object", "(II)V"⟩
abbrev b_ST_file : ByteArray := prog_1_method_7_code
def y_ST_file : MethodName := ⟨"SealTrust", "file", "(IIJIJ)V"⟩
abbrev b_ST_partial : ByteArray := prog_1_method_8_code
def y_ST_partial : MethodName := ⟨"SealTrust", "partial", "(III)J"⟩
abbrev b_ST_bad : ByteArray := prog_1_method_9_code
def y_ST_bad : MethodName := ⟨"SealTrust", "bad", "(I)I"⟩
abbrev b_ST_join : ByteArray := prog_1_method_10_code
def y_ST_join : MethodName := ⟨"SealTrust", "join", "(I)J"⟩
abbrev b_ST_verify : ByteArray := prog_1_method_11_code
def y_ST_verify : MethodName := ⟨"SealTrust", "verify", "(J)Z"⟩
abbrev b_ST_refresh : ByteArray := prog_1_method_12_code
def y_ST_refresh : MethodName := ⟨"SealTrust", "refresh", "(II)V"⟩
abbrev b_ST_suspend : ByteArray := prog_1_method_13_code
def y_ST_suspend : MethodName := ⟨"SealTrust", "suspend", "(IZ)Z"⟩
abbrev b_ST_parts : ByteArray := prog_1_method_14_code
def y_ST_parts : MethodName := ⟨"SealTrust", "parts", "(I)Z"⟩
abbrev b_ST_told : ByteArray := prog_1_method_15_code
def y_ST_told : MethodName := ⟨"SealTrust", "told", "(II)J"⟩
abbrev b_ST_book : ByteArray := prog_1_method_16_code
def y_ST_book : MethodName := ⟨"SealTrust", "book", "(I)I"⟩
abbrev b_ST_state : ByteArray := prog_1_method_17_code
def y_ST_state : MethodName := ⟨"SealTrust", "state", "(I)J"⟩
abbrev b_ST_requireKey : ByteArray := prog_1_method_18_code
def y_ST_requireKey : MethodName := ⟨"SealTrust", "requireKey", "()V"⟩
abbrev b_ST_requireDocument : ByteArray := prog_1_method_19_code
def y_ST_requireDocument : MethodName := ⟨"SealTrust", "requireDocument", "()V"⟩
abbrev b_ST_motionAt : ByteArray := prog_1_method_20_code
def y_ST_motionAt : MethodName := ⟨"SealTrust", "motionAt", "(I)LSealTrust$Motion;"⟩
abbrev b_ST_requireTrustee : ByteArray := prog_1_method_21_code
def y_ST_requireTrustee : MethodName := ⟨"SealTrust", "requireTrustee", "(I)V"⟩
abbrev b_ST_requireOpen : ByteArray := prog_1_method_22_code
def y_ST_requireOpen : MethodName := ⟨"SealTrust", "requireOpen", "(LSealTrust$Motion;)V"⟩
abbrev b_ST_requireNoVoice : ByteArray := prog_1_method_23_code
def y_ST_requireNoVoice : MethodName := ⟨"SealTrust", "requireNoVoice", "(LSealTrust$Motion;I)V"⟩
abbrev b_ST_goodPartials : ByteArray := prog_1_method_24_code
def y_ST_goodPartials : MethodName := ⟨"SealTrust", "goodPartials", "(LSealTrust$Motion;)I"⟩
abbrev b_ST_dropOpenPartials : ByteArray := prog_1_method_25_code
def y_ST_dropOpenPartials : MethodName := ⟨"SealTrust", "dropOpenPartials", "()V"⟩
abbrev b_ST_enter : ByteArray := prog_1_method_26_code
def y_ST_enter : MethodName := ⟨"SealTrust", "enter", "(I)V"⟩
abbrev b_ST_isIn : ByteArray := prog_1_method_27_code
def y_ST_isIn : MethodName := ⟨"SealTrust", "isIn", "(II)Z"⟩
abbrev b_ST_isSafePrime : ByteArray := prog_1_method_28_code
def y_ST_isSafePrime : MethodName := ⟨"SealTrust", "isSafePrime", "(I)Z"⟩
abbrev b_ST_isPrime : ByteArray := prog_1_method_29_code
def y_ST_isPrime : MethodName := ⟨"SealTrust", "isPrime", "(I)Z"⟩
abbrev b_ST_mixIn : ByteArray := prog_1_method_30_code
def y_ST_mixIn : MethodName := ⟨"SealTrust", "mixIn", "(JJ)J"⟩
abbrev b_ST_mixOf : ByteArray := prog_1_method_31_code
def y_ST_mixOf : MethodName := ⟨"SealTrust", "mixOf", "(J)J"⟩
abbrev b_ST_rest : ByteArray := prog_1_method_32_code
def y_ST_rest : MethodName := ⟨"SealTrust", "rest", "(JJ)J"⟩
abbrev b_ST_powerModulo : ByteArray := prog_1_method_33_code
def y_ST_powerModulo : MethodName := ⟨"SealTrust", "powerModulo", "(JJJ)J"⟩
abbrev b_MD_init : ByteArray := prog_6_method_1_code
def y_MD_init : MethodName := ⟨"SealTrustModel", "<init>", "()V"⟩
abbrev b_MD_prime : ByteArray := prog_6_method_2_code
def y_MD_prime : MethodName := ⟨"SealTrustModel", "prime", "(I)Z"⟩
abbrev b_MD_safe : ByteArray := prog_6_method_3_code
def y_MD_safe : MethodName := ⟨"SealTrustModel", "safe", "(I)Z"⟩
abbrev b_MD_common : ByteArray := prog_6_method_4_code
def y_MD_common : MethodName := ⟨"SealTrustModel", "common", "(JJ)J"⟩
abbrev b_MD_raised : ByteArray := prog_6_method_5_code
def y_MD_raised : MethodName := ⟨"SealTrustModel", "raised", "(JJJ)J"⟩
abbrev b_MD_inverse : ByteArray := prog_6_method_6_code
def y_MD_inverse : MethodName := ⟨"SealTrustModel", "inverse", "(JJ)J"⟩
abbrev b_MD_begin : ByteArray := prog_6_method_7_code
def y_MD_begin : MethodName := ⟨"SealTrustModel", "begin", "()V"⟩
abbrev b_MD_mix : ByteArray := prog_6_method_8_code
def y_MD_mix : MethodName := ⟨"SealTrustModel", "mix", "(J)V"⟩
abbrev b_MD_mixed : ByteArray := prog_6_method_9_code
def y_MD_mixed : MethodName := ⟨"SealTrustModel", "mixed", "()J"⟩
abbrev b_MD_part : ByteArray := prog_6_method_10_code
def y_MD_part : MethodName := ⟨"SealTrustModel", "part", "(I)J"⟩
abbrev b_MD_check : ByteArray := prog_6_method_11_code
def y_MD_check : MethodName := ⟨"SealTrustModel", "check", "(I)J"⟩
abbrev b_MD_blockOf : ByteArray := prog_6_method_12_code
def y_MD_blockOf : MethodName := ⟨"SealTrustModel", "blockOf", "()J"⟩
abbrev b_MD_challenge : ByteArray := prog_6_method_13_code
def y_MD_challenge : MethodName := ⟨"SealTrustModel", "challenge", "(JJJJJ)I"⟩
abbrev b_MD_make : ByteArray := prog_6_method_14_code
def y_MD_make : MethodName := ⟨"SealTrustModel", "make", "(II)V"⟩
abbrev b_MD_good : ByteArray := prog_6_method_15_code
def y_MD_good : MethodName := ⟨"SealTrustModel", "good", "(II)Z"⟩
abbrev b_MD_bits : ByteArray := prog_6_method_16_code
def y_MD_bits : MethodName := ⟨"SealTrustModel", "bits", "(I)I"⟩
abbrev b_MD_isMotion : ByteArray := prog_6_method_17_code
def y_MD_isMotion : MethodName := ⟨"SealTrustModel", "isMotion", "(I)Z"⟩
abbrev b_MD_isTrustee : ByteArray := prog_6_method_18_code
def y_MD_isTrustee : MethodName := ⟨"SealTrustModel", "isTrustee", "(I)Z"⟩
abbrev b_MD_thrown : ByteArray := prog_6_method_19_code
def y_MD_thrown : MethodName := ⟨"SealTrustModel", "thrown", "()I"⟩
abbrev b_MD_deal : ByteArray := prog_6_method_20_code
def y_MD_deal : MethodName := ⟨"SealTrustModel", "deal", "(IIIII)V"⟩
abbrev b_MD_put : ByteArray := prog_6_method_21_code
def y_MD_put : MethodName := ⟨"SealTrustModel", "put", "(II)I"⟩
abbrev b_MD_motion : ByteArray := prog_6_method_22_code
def y_MD_motion : MethodName := ⟨"SealTrustModel", "motion", "()I"⟩
abbrev b_MD_voice : ByteArray := prog_6_method_23_code
def y_MD_voice : MethodName := ⟨"SealTrustModel", "voice", "(II)Z"⟩
abbrev b_MD_consent : ByteArray := prog_6_method_24_code
def y_MD_consent : MethodName := ⟨"SealTrustModel", "consent", "(II)V"⟩
abbrev b_MD_object : ByteArray := prog_6_method_25_code
def y_MD_object : MethodName := ⟨"SealTrustModel", "object", "(II)V"⟩
abbrev b_MD_file : ByteArray := prog_6_method_26_code
def y_MD_file : MethodName := ⟨"SealTrustModel", "file", "(IIJIJ)V"⟩
abbrev b_MD_partial : ByteArray := prog_6_method_27_code
def y_MD_partial : MethodName := ⟨"SealTrustModel", "partial", "(III)J"⟩
abbrev b_MD_notGood : ByteArray := prog_6_method_28_code
def y_MD_notGood : MethodName := ⟨"SealTrustModel", "notGood", "(I)I"⟩
abbrev b_MD_bad : ByteArray := prog_6_method_29_code
def y_MD_bad : MethodName := ⟨"SealTrustModel", "bad", "(I)I"⟩
abbrev b_MD_join : ByteArray := prog_6_method_30_code
def y_MD_join : MethodName := ⟨"SealTrustModel", "join", "(I)J"⟩
abbrev b_MD_verify : ByteArray := prog_6_method_31_code
def y_MD_verify : MethodName := ⟨"SealTrustModel", "verify", "(J)Z"⟩
abbrev b_MD_refresh : ByteArray := prog_6_method_32_code
def y_MD_refresh : MethodName := ⟨"SealTrustModel", "refresh", "(II)V"⟩
abbrev b_MD_suspend : ByteArray := prog_6_method_33_code
def y_MD_suspend : MethodName := ⟨"SealTrustModel", "suspend", "(IZ)Z"⟩
abbrev b_MD_parts : ByteArray := prog_6_method_34_code
def y_MD_parts : MethodName := ⟨"SealTrustModel", "parts", "(I)Z"⟩
abbrev b_MD_told : ByteArray := prog_6_method_35_code
def y_MD_told : MethodName := ⟨"SealTrustModel", "told", "(II)J"⟩
abbrev b_MD_book : ByteArray := prog_6_method_36_code
def y_MD_book : MethodName := ⟨"SealTrustModel", "book", "(I)I"⟩
abbrev b_MD_state : ByteArray := prog_6_method_37_code
def y_MD_state : MethodName := ⟨"SealTrustModel", "state", "(I)J"⟩
abbrev b_BU_init : ByteArray := prog_2_method_1_code
def y_BU_init : MethodName := ⟨"SealTrust$Buffer", "<init>", "()V"⟩
abbrev b_BU_count : ByteArray := prog_2_method_2_code
def y_BU_count : MethodName := ⟨"SealTrust$Buffer", "count", "()I"⟩
abbrev b_BU_room : ByteArray := prog_2_method_3_code
def y_BU_room : MethodName := ⟨"SealTrust$Buffer", "room", "()I"⟩
abbrev b_BU_append : ByteArray := prog_2_method_4_code
def y_BU_append : MethodName := ⟨"SealTrust$Buffer", "append", "(II)V"⟩
abbrev b_BU_clear : ByteArray := prog_2_method_5_code
def y_BU_clear : MethodName := ⟨"SealTrust$Buffer", "clear", "()V"⟩
abbrev b_BU_mix : ByteArray := prog_2_method_6_code
def y_BU_mix : MethodName := ⟨"SealTrust$Buffer", "mix", "()J"⟩
abbrev b_KE_init : ByteArray := prog_3_method_1_code
def y_KE_init : MethodName := ⟨"SealTrust$Key", "<init>", "()V"⟩
abbrev b_KE_begin : ByteArray := prog_3_method_2_code
def y_KE_begin : MethodName := ⟨"SealTrust$Key", "begin", "(JJJ)V"⟩
abbrev b_KE_addPolynomial : ByteArray := prog_3_method_3_code
def y_KE_addPolynomial : MethodName := ⟨"SealTrust$Key", "addPolynomial", "(JJ)V"⟩
abbrev b_KE_isPrimeToModulus : ByteArray := prog_3_method_4_code
def y_KE_isPrimeToModulus : MethodName := ⟨"SealTrust$Key", "isPrimeToModulus", "(J)Z"⟩
abbrev b_KE_blockOf : ByteArray := prog_3_method_5_code
def y_KE_blockOf : MethodName := ⟨"SealTrust$Key", "blockOf", "(LSealTrust$Buffer;)J"⟩
abbrev b_KE_signatureOf : ByteArray := prog_3_method_6_code
def y_KE_signatureOf : MethodName := ⟨"SealTrust$Key", "signatureOf", "(J)J"⟩
abbrev b_KE_isSignature : ByteArray := prog_3_method_7_code
def y_KE_isSignature : MethodName := ⟨"SealTrust$Key", "isSignature", "(JJ)Z"⟩
abbrev b_KE_makePartial : ByteArray := prog_3_method_8_code
def y_KE_makePartial : MethodName := ⟨"SealTrust$Key", "makePartial", "(LSealTrust$Motion;I)V"⟩
abbrev b_KE_isGood : ByteArray := prog_3_method_9_code
def y_KE_isGood : MethodName := ⟨"SealTrust$Key", "isGood", "(LSealTrust$Motion;I)Z"⟩
abbrev b_KE_challenge : ByteArray := prog_3_method_10_code
def y_KE_challenge : MethodName := ⟨"SealTrust$Key", "challenge", "(IJJJJ)I"⟩
abbrev b_KE_isWholeBy : ByteArray := prog_3_method_11_code
def y_KE_isWholeBy : MethodName := ⟨"SealTrust$Key", "isWholeBy", "(I)Z"⟩
abbrev b_KE_weight : ByteArray := prog_3_method_12_code
def y_KE_weight : MethodName := ⟨"SealTrust$Key", "weight", "(II)J"⟩
abbrev b_KE_isBelowModulus : ByteArray := prog_3_method_13_code
def y_KE_isBelowModulus : MethodName := ⟨"SealTrust$Key", "isBelowModulus", "(J)Z"⟩
abbrev b_KE_times : ByteArray := prog_3_method_14_code
def y_KE_times : MethodName := ⟨"SealTrust$Key", "times", "(JJ)J"⟩
abbrev b_KE_power : ByteArray := prog_3_method_15_code
def y_KE_power : MethodName := ⟨"SealTrust$Key", "power", "(JJ)J"⟩
abbrev b_KE_inversePower : ByteArray := prog_3_method_16_code
def y_KE_inversePower : MethodName := ⟨"SealTrust$Key", "inversePower", "(JJ)J"⟩
abbrev b_MO_init : ByteArray := prog_4_method_1_code
def y_MO_init : MethodName := ⟨"SealTrust$Motion", "<init>", "()V"⟩
abbrev b_MO_begin : ByteArray := prog_4_method_2_code
def y_MO_begin : MethodName := ⟨"SealTrust$Motion", "begin", "(J)V"⟩
abbrev b_MO_takePartial : ByteArray := prog_4_method_3_code
def y_MO_takePartial : MethodName := ⟨"SealTrust$Motion", "takePartial", "(IJIJ)V"⟩
abbrev b_MO_dropPartials : ByteArray := prog_4_method_4_code
def y_MO_dropPartials : MethodName := ⟨"SealTrust$Motion", "dropPartials", "()V"⟩
abbrev b_MO_takeObjection : ByteArray := prog_4_method_5_code
def y_MO_takeObjection : MethodName := ⟨"SealTrust$Motion", "takeObjection", "(I)V"⟩
abbrev b_MO_seal : ByteArray := prog_4_method_6_code
def y_MO_seal : MethodName := ⟨"SealTrust$Motion", "seal", "(J)V"⟩
abbrev b_LW_deal : ByteArray := method_3_code
def y_LW_deal : MethodName := ⟨"SealTrustLaw", "deal", "(LSealTrust;IIIII)I"⟩
abbrev b_LW_put : ByteArray := method_4_code
def y_LW_put : MethodName := ⟨"SealTrustLaw", "put", "(LSealTrust;II[J)I"⟩
abbrev b_LW_motion : ByteArray := method_5_code
def y_LW_motion : MethodName := ⟨"SealTrustLaw", "motion", "(LSealTrust;[J)I"⟩
abbrev b_LW_consent : ByteArray := method_6_code
def y_LW_consent : MethodName := ⟨"SealTrustLaw", "consent", "(LSealTrust;II)I"⟩
abbrev b_LW_object : ByteArray := method_7_code
def y_LW_object : MethodName := ⟨"SealTrustLaw", "object", "(LSealTrust;II)I"⟩
abbrev b_LW_file : ByteArray := method_8_code
def y_LW_file : MethodName := ⟨"SealTrustLaw", "file", "(LSealTrust;IIJIJ)I"⟩
abbrev b_LW_partial : ByteArray := method_9_code
def y_LW_partial : MethodName := ⟨"SealTrustLaw", "partial", "(LSealTrust;III[J)I"⟩
abbrev b_LW_bad : ByteArray := method_10_code
def y_LW_bad : MethodName := ⟨"SealTrustLaw", "bad", "(LSealTrust;I[J)I"⟩
abbrev b_LW_join : ByteArray := method_11_code
def y_LW_join : MethodName := ⟨"SealTrustLaw", "join", "(LSealTrust;I[J)I"⟩
abbrev b_LW_verify : ByteArray := method_12_code
def y_LW_verify : MethodName := ⟨"SealTrustLaw", "verify", "(LSealTrust;J[J)I"⟩
abbrev b_LW_refresh : ByteArray := method_13_code
def y_LW_refresh : MethodName := ⟨"SealTrustLaw", "refresh", "(LSealTrust;II)I"⟩
abbrev b_LW_suspend : ByteArray := method_14_code
def y_LW_suspend : MethodName := ⟨"SealTrustLaw", "suspend", "(LSealTrust;IZ[J)I"⟩
abbrev b_LW_parts : ByteArray := method_15_code
def y_LW_parts : MethodName := ⟨"SealTrustLaw", "parts", "(LSealTrust;I[J)I"⟩
abbrev b_LW_told : ByteArray := method_16_code
def y_LW_told : MethodName := ⟨"SealTrustLaw", "told", "(LSealTrust;II[J)I"⟩
abbrev b_LW_book : ByteArray := method_17_code
def y_LW_book : MethodName := ⟨"SealTrustLaw", "book", "(LSealTrust;I[J)I"⟩
abbrev b_LW_state : ByteArray := method_18_code
def y_LW_state : MethodName := ⟨"SealTrustLaw", "state", "(LSealTrust;I[J)I"⟩
abbrev b_LW_law : ByteArray := code
def y_LW_law : MethodName := ⟨"SealTrustLaw", "law", "([I)Z"⟩
end
section
/-! one kind of contract for every method: it returns or throws; what it may write; what it makes -/
section XCA
/-- how a call ended: what it gave back, or the class of what it threw -/
abbrev xc_R : Type := Option Value ⊕ String
/-- since H nothing outside A has changed -/
def xc_F (A : Nat → Prop) (H H1 : Heap) : Prop := H.size ≤ H1.size ∧ ∀ q : Nat, q < H.size → ¬ A q → H1[q]? = H[q]?
theorem xc_F.rf {A : Nat → Prop} {H : Heap} : xc_F A H H := ⟨Nat.le_refl _, fun _ _ _ => rfl⟩
theorem xc_F.weaken {A B : Nat → Prop} {H H1 : Heap} (h : xc_F A H H1) (hAB : ∀ q, q < H.size → A q → B q) : xc_F B H H1 := ⟨h.1, fun q h1 h2 => h.2 q h1 (fun z => h2 (hAB q h1 z))⟩
theorem xc_F.trans {A : Nat → Prop} {H H1 H2 : Heap} (h : xc_F A H H1) (k : xc_F A H1 H2) : xc_F A H H2 :=
  ⟨Nat.le_trans h.1 k.1, fun q h1 h2 => (k.2 q (Nat.lt_of_lt_of_le h1 h.1) h2).trans (h.2 q h1 h2)⟩
def xc_Q (post : xc_R → Heap → Prop) (A : Nat → Prop) (mc ms : Nat) : Array Value → State → Outcome → State → Prop := fun _ st o t =>
  st.WarmedH t.vm ∧ (∃ L : List Loc, st.sameButNew ({ t with vm := st.vm } : State) L mc ms ∧ ∀ q ∈ L, A q.base) ∧ xc_F A st.heap t.heap ∧
    ((∃ v : Option Value, o = .returned v ∧ post (.inl v) t.heap) ∨
      ∃ (q : Addr) (E : String) (ce : Cell), o = .threw q ∧ t.heap[q]? = some ce ∧ ce.vm = .none ∧ st.vm.findClass E = some ce.cls ∧ post (.inr E) t.heap)
def xc_Met (l : Launch) (y : MethodName) (w : Cond) (rm : Room) (Pc : Array Value → State → Prop) (post : xc_R → Heap → Prop) (A : Nat → Prop) : Prop :=
  MetFree l y (headSpec [w] rm) Pc (fun _ _ _ _ _ => True) (xc_Q post A rm.cells rm.slots)
/-- what a body owes at its end -/
def xc_Z (below : List Frame) (post : xc_R → Heap → Prop) (A : Nat → Prop) (a : Array Value) (s : State) (mc ms : Nat) : State → Prop := fun t =>
  ∃ o, t.status = .running ∧ Ended t below o ∧ xc_Q post A mc ms a s o t
section Go
variable {p : Program} {l : Launch} {e : Env} {R : Room} {s : State} {m : MethodId} {args : Array Value} {below : List Frame} {meth : Method} {c : Code} {T : State} {locs : List Loc} {cells slots : Nat}
theorem xc_hp (T : State) (g : JFrame) : (T.setTop g).heap = T.heap := by simp [State.setTop, State.modifyTopJava]
theorem xc_hpc (T : State) (g : JFrame) (mk : MethodId) (a : Array Value) : (T.calling g mk a).heap = T.heap := by simp [State.calling, State.pushFrame, State.setFrames, State.setTop, State.modifyTopJava]
theorem xc_go (X : Stand p l e R s m args below meth c T locs cells slots) {g : JFrame} (hg : g.method = m) (hsize : g.locals.size = c.maxLocals) {ig : Instr} {len : Nat} (hdg : decode c.code g.pc = .ok (ig, len))
    {y : MethodName} {w : Cond} {rm : Room} {Pc : Array Value → State → Prop} {post : xc_R → Heap → Prop} {A : Nat → Prop} (hM : xc_Met l y w rm Pc post A)
    {mk : MethodId} {methY : Method} {cY : Code} {kY : Class} {maxL K : Nat} (hn : T.methodNamed? y = some mk) (hmY : T.vm.method? mk = some methY) (hcY : methY.code = some cY) (hlY : cY.maxLocals = maxL) (hkY : T.vm.classes[mk.cls]? = some kY) (hinitY : kY.init = .initialized)
    (a : Array Value) (hw : w.before a T = true) (hP : Pc a (T.calling g mk a)) (hfr : rm.frames + 1 ≤ R.frames) (hlo : K + (maxL + 11) + rm.locals ≤ R.locals) (hK : 2 * g.monitorRoom + (g.stack.map fun v => v.category).sum ≤ K) (hc : cells + rm.cells ≤ R.cells) (hs : slots + rm.slots ≤ R.slots) :
    ∃ (T' : State) (L : List Loc), (∀ q ∈ L, A q.base) ∧ Stand p l e R s m args below meth c T' (locs ++ L) (cells + rm.cells) (slots + rm.slots) ∧ xc_F A T.heap T'.heap ∧
      ((∃ v : Option Value, post (.inl v) T'.heap ∧ Steps p.tables e below (doInvoke e (T.setTop g) [] mk a).1 (T'.setTop { g with pc := g.pc + len, stack := v.toList ++ g.stack })) ∨
        ∃ (q : Addr) (E : String) (ce : Cell), T'.heap[q]? = some ce ∧ ce.vm = .none ∧ s.vm.findClass E = some ce.cls ∧ post (.inr E) T'.heap ∧ Steps p.tables e below (doInvoke e (T.setTop g) [] mk a).1 ((T'.setTop g).pushFrame (.throwing q))) := by
  have h : At T g.method c below := by rw [hg]; exact X.here
  have happ : (headSpec [w] rm).appliesLoose y e.platform (T.calling g mk a) = true :=
    Spec.appliesLoose_calling (g := g) h hdg hn hkY hinitY (X.room_calling (g := g) (R' := rm) hsize hmY hcY hfr (by rw [hlY]; omega) hc hs) (atoms_intro fun w' hw' => by rw [List.mem_singleton.mp hw']; exact hw)
  have hfr' : (T.setTop g).frames = [Frame.java g] ++ below := by rw [State.frames_setTop' g h.top, X.tail]; rfl
  obtain ⟨o, t, hst, -, hend, hq⟩ := Steps.callFree hM p X.admits X.cas X.clock (acts := []) hfr' happ hP trivial
  rw [hfr'] at hend
  obtain ⟨hW2, ⟨L, hsame, hL⟩, hF, hq⟩ := hq
  have hF : xc_F A T.heap t.heap := by
    have h1 : ((T.setTop g).pushFrame (.invoking mk a)).heap = T.heap := xc_hpc T g mk a
    rw [h1] at hF
    exact hF
  rcases hq with ⟨v, rfl, hp⟩ | ⟨q, E, ce, rfl, hce, hcv, hcl, hp⟩
  · obtain ⟨T', X', -, -, ht⟩ := X.outOf hg hdg (mk := mk) (a := a) (L := L) hend hW2 hsame
    have hh : t.heap = T'.heap := by rw [ht]; exact xc_hp _ _
    rw [hh] at hp hF
    exact ⟨T', L, hL, X', hF, Or.inl ⟨v, hp, by rw [← ht]; exact hst⟩⟩
  · obtain ⟨T', X', -, -, ht⟩ := X.outOfThrown hg (mk := mk) (a := a) (L := L) hend hW2 hsame
    have hh : t.heap = T'.heap := by rw [ht]; exact Stand.throwing_heap _ _ _
    rw [hh] at hp hF hce
    have hcl' : T.vm.findClass E = some ce.cls := hcl
    rw [X.warmed.alike.findClass] at hcl'
    exact ⟨T', L, hL, X', hF, Or.inr ⟨q, E, ce, hce, hcv, hcl', hp, by rw [← ht]; exact hst⟩⟩
end Go
/-- the callee as the tables have it: its method, how many locals, how many arguments -/
def xc_C (U : State) (y : MethodName) (w : Cond) (maxL n : Nat) : Prop :=
  (∀ (a : Array Value) (V : State), U.WarmedH V.vm → w.before a V = true) ∧ ∃ (mk : MethodId) (methY : Method) (cY : Code), U.methodNamed? y = some mk ∧ U.vm.method? mk = some methY ∧ methY.code = some cY ∧ cY.maxLocals = maxL ∧ parseMethodDescriptor y.desc = some methY.sig ∧ methY.sig.parameters.length = n
theorem xc_C.of {U : State} {y : MethodName} {bytes : ByteArray} {maxL n : Nat} {ret : Option FieldType} {a : Array Value} (h : (Cond.code y bytes maxL ret).before a U = true) (hd : (parseMethodDescriptor y.desc).map (fun d => d.parameters.length) = some n) : xc_C U y (.code y bytes maxL ret) maxL n := by
  refine ⟨fun a' V hW => word_at hW (Or.inl (by first | rfl | simp [Cond.onTables, Cond.keeps, Cond.steady])) h, ?_⟩
  obtain ⟨mk, hn⟩ := Cond.code_named h
  obtain ⟨meth, c, h1, h2, -, h4, -, -, -, h8⟩ := Cond.code_spec hn h
  refine ⟨mk, meth, c, hn, h1, h2, h4, h8, ?_⟩
  rw [h8] at hd
  exact Option.some.inj hd
theorem xc_C.ofW {U : State} {y : MethodName} {bytes : ByteArray} {maxL n : Nat} {ret : Option FieldType} {hh : List (Nat × Nat × Nat × Nat)} {a : Array Value} (h : (Cond.codeWith y bytes maxL ret hh).before a U = true) (hd : (parseMethodDescriptor y.desc).map (fun d => d.parameters.length) = some n) : xc_C U y (.codeWith y bytes maxL ret hh) maxL n := by
  refine ⟨fun a' V hW => word_at hW (Or.inl (by first | rfl | simp [Cond.onTables, Cond.keeps, Cond.steady])) h, ?_⟩
  obtain ⟨mk, meth, c, hn, h1, h2, -, h4, -, -, -, h8⟩ := Cond.codeWith_spec h
  refine ⟨mk, meth, c, hn, h1, h2, h4, h8, ?_⟩
  rw [h8] at hd
  exact Option.some.inj hd
section Runs
variable {p : Program} {l : Launch} {e : Env} {R : Room} {s : State} {m : MethodId} {args : Array Value} {below : List Frame} {meth : Method} {c : Code} {H : Heap} {locs : List Loc} {cells slots : Nat}
/-- a call at frame g: it comes back behind the instruction, or something is thrown over g -/
def xc_Run (p : Program) (l : Launch) (e : Env) (R : Room) (s : State) (m : MethodId) (args : Array Value) (below : List Frame) (meth : Method) (c : Code) (H : Heap) (locs : List Loc) (cells slots : Nat) (g : JFrame) (rest : List Value) (mc ms : Nat) (post : xc_R → Heap → Prop) (A : Nat → Prop) : Prop :=
  ∀ T : State, T.heap = H → Stand p l e R s m args below meth c T locs cells slots →
    ∃ (T' : State) (L : List Loc), (∀ q ∈ L, A q.base) ∧ Stand p l e R s m args below meth c T' (locs ++ L) (cells + mc) (slots + ms) ∧ xc_F A H T'.heap ∧
      ((∃ v : Option Value, post (.inl v) T'.heap ∧ ∀ tg, Steps p.tables e below (T'.setTop { g with pc := g.pc + 3, stack := v.toList ++ rest }) tg → Steps p.tables e below (T.setTop g) tg) ∨
        ∃ (q : Addr) (E : String) (ce : Cell), T'.heap[q]? = some ce ∧ ce.vm = .none ∧ s.vm.findClass E = some ce.cls ∧ post (.inr E) T'.heap ∧ Steps p.tables e below (T.setTop g) ((T'.setTop { g with stack := rest }).pushFrame (.throwing q)))
/-- the method's frame g, with q thrown over it -/
def xc_W (p : Program) (l : Launch) (e : Env) (R : Room) (s : State) (m : MethodId) (args : Array Value) (below : List Frame) (meth : Method) (c : Code) (H : Heap) (locs : List Loc) (cells slots : Nat) (Q : State → Prop) (g : JFrame) (q : Addr) : Prop :=
  ∀ T : State, T.heap = H → Stand p l e R s m args below meth c T locs cells slots → ∃ t, Steps p.tables e below ((T.setTop g).pushFrame (.throwing q)) t ∧ Q t
variable {y : MethodName} {cc : ByteArray} {maxL nL n index kw : Nat} {w : Cond} {rm : Room} {Pc : Array Value → State → Prop} {post : xc_R → Heap → Prop} {A : Nat → Prop} {own C host : String} {b : Addr} {As rest : List Value} {g : JFrame}
/-- a caller's own facts -/
abbrev xc_Fix (p : Program) (m : MethodId) (c : Code) (cc : ByteArray) (nL : Nat) (s : State) (own : String) : Prop :=
  p.tables.exec = Jvm.exec ∧ c.code = cc ∧ c.maxLocals = nL ∧ s.vm.findClass own = some m.cls
abbrev xc_Fits (R rm : Room) (maxL kw cells slots : Nat) : Prop := rm.frames + 1 ≤ R.frames ∧ kw + (maxL + 11) + rm.locals ≤ R.locals ∧ cells + rm.cells ≤ R.cells ∧ slots + rm.slots ≤ R.slots
abbrev xc_no (y : MethodName) : Prop := y.cls ≠ "java/lang/invoke/MethodHandle" ∧ y.cls ≠ "java/lang/invoke/VarHandle"
theorem xc_close {T : State} {ig : Instr} {mk : MethodId} {a : Array Value} {vm₁ : Vm} (hT : T.heap = H) (X₁ : Stand p l e R s m args below meth c (T.setVm vm₁) locs cells slots) (hM : xc_Met l y w rm Pc post A) (hC : xc_C s y w maxL n) (hini : (Cond.initialized y.cls).before args s = true) (hn : s.methodNamed? y = some mk)
    (hg : g.method = m) (hsize : g.locals.size = c.maxLocals) (hdg : decode c.code g.pc = .ok (ig, 3)) (hW : 2 * g.monitorRoom + (rest.map fun v => v.category).sum ≤ kw) (hf : xc_Fits R rm maxL kw cells slots)
    (hb : FrameBlind Pc) (hPc : ∀ U : State, U.heap = H → s.WarmedH U.vm → Pc a U) (hstep : ∀ tg, (∀ acts, Steps p.tables e below (doInvoke e ((T.setVm vm₁).setTop { g with stack := rest }) acts mk a).1 tg) → Steps p.tables e below (T.setTop g) tg) :
    ∃ (T' : State) (L : List Loc), (∀ q ∈ L, A q.base) ∧ Stand p l e R s m args below meth c T' (locs ++ L) (cells + rm.cells) (slots + rm.slots) ∧ xc_F A H T'.heap ∧
      ((∃ v : Option Value, post (.inl v) T'.heap ∧ ∀ tg, Steps p.tables e below (T'.setTop { g with pc := g.pc + 3, stack := v.toList ++ rest }) tg → Steps p.tables e below (T.setTop g) tg) ∨
        ∃ (q : Addr) (E : String) (ce : Cell), T'.heap[q]? = some ce ∧ ce.vm = .none ∧ s.vm.findClass E = some ce.cls ∧ post (.inr E) T'.heap ∧ Steps p.tables e below (T.setTop g) ((T'.setTop { g with stack := rest }).pushFrame (.throwing q))) := by
  obtain ⟨hw, mk', methY, cY, hn', hmY, hcY, hlY, -, -⟩ := hC
  cases Option.some.inj (hn.symm.trans hn')
  obtain ⟨kY, hkY, -⟩ := className_of_methodNamed hn
  have hinitY : kY.init = .initialized := Cond.initialized_spec (findClass_of_methodNamed hn) hkY hini
  obtain ⟨kY', hkY', hke⟩ := X₁.warmed.alike.2.2 _ _ hkY
  have hmY' : (T.setVm vm₁).vm.method? mk = some methY := by rw [X₁.warmed.alike.method?]; exact hmY
  obtain ⟨T', L, hL, X', hF, hq⟩ := xc_go X₁ (g := { g with stack := rest }) hg hsize hdg hM (X₁.named hn) hmY' hcY hlY hkY' (by rw [hke]; exact hinitY) a (hw a _ X₁.warmed) (hb _ _ _ _ (hPc (T.setVm vm₁) hT X₁.warmed)) hf.1 hf.2.1 hW hf.2.2.1 hf.2.2.2
  refine ⟨T', L, hL, X', by rw [← hT]; exact hF, ?_⟩
  rcases hq with ⟨v, hp, hst⟩ | ⟨q, E, ce, h1, h2, h3, h4, hst⟩
  · exact Or.inl ⟨v, hp, fun tg h => hstep _ fun acts => by rw [doInvoke_state]; exact hst.trans h⟩
  · exact Or.inr ⟨q, E, ce, h1, h2, h3, h4, hstep _ fun acts => by rw [doInvoke_state]; exact hst⟩
theorem xc_runS (S : xc_Fix p m c cc nL s own) (hM : xc_Met l y w rm Pc post A) (hC : xc_C s y w maxL n) (hlink : (Cond.methodLink own index y).before args s = true) (hstat : (Cond.static y).before args s = true) (hini : (Cond.initialized y.cls).before args s = true) (hy : xc_no y) (hf : xc_Fits R rm maxL kw cells slots)
    (hb : FrameBlind Pc) (hPc : ∀ U : State, U.heap = H → s.WarmedH U.vm → Pc As.toArray U) (hg : g.method = m) (hn : As.length = n) (hsize : g.locals.size = nL) (hstack : g.stack = As.reverse ++ rest) (hW : 2 * g.monitorRoom + (rest.map fun v => v.category).sum ≤ kw) (hdg : decode cc g.pc = .ok (.invokestatic index, 3)) :
    xc_Run p l e R s m args below meth c H locs cells slots g rest rm.cells rm.slots post A := by
  obtain ⟨hx, hbb, hml, ho⟩ := S
  intro T hT X
  obtain ⟨mk, methY, cY, hnm, hmY, -, -, hsig, hlen⟩ := hC.2
  have hstatic : methY.isStatic = true := Cond.static_spec hnm hmY hstat
  obtain ⟨kP, hkP, -⟩ := className_of_methodNamed hnm
  have hinitP : kP.init = .initialized := Cond.initialized_spec (findClass_of_methodNamed hnm) hkP hini
  obtain ⟨vm₁, X₁, hstep₁⟩ := X.invokestatic hx ho hlink hnm hmY hstatic hkP hinitP hy (g := g) hg (argsL := As) (rest := rest) (by rw [hlen]; exact hn) hstack (by rw [hbb]; exact hdg)
  exact xc_close hT X₁ hM hC hini hnm hg (hsize.trans hml.symm) (by rw [hbb]; exact hdg) hW hf hb hPc hstep₁
theorem xc_runSN (S : xc_Fix p m c cc nL s own) (hM : xc_Met l y w rm Pc post A) (hC : xc_C s y w maxL n) (hlink : (Cond.methodLinkNest own index y host).before args s = true) (hstat : (Cond.static y).before args s = true) (hini : (Cond.initialized y.cls).before args s = true) (hy : xc_no y) (hf : xc_Fits R rm maxL kw cells slots)
    (hb : FrameBlind Pc) (hPc : ∀ U : State, U.heap = H → s.WarmedH U.vm → Pc As.toArray U) (hg : g.method = m) (hn : As.length = n) (hsize : g.locals.size = nL) (hstack : g.stack = As.reverse ++ rest) (hW : 2 * g.monitorRoom + (rest.map fun v => v.category).sum ≤ kw) (hdg : decode cc g.pc = .ok (.invokestatic index, 3)) :
    xc_Run p l e R s m args below meth c H locs cells slots g rest rm.cells rm.slots post A := by
  obtain ⟨hx, hbb, hml, ho⟩ := S
  intro T hT X
  obtain ⟨mk, methY, cY, hnm, hmY, -, -, hsig, hlen⟩ := hC.2
  have hstatic : methY.isStatic = true := Cond.static_spec hnm hmY hstat
  obtain ⟨kP, hkP, -⟩ := className_of_methodNamed hnm
  have hinitP : kP.init = .initialized := Cond.initialized_spec (findClass_of_methodNamed hnm) hkP hini
  obtain ⟨vm₁, X₁, hstep₁⟩ := X.invokestaticNest hx ho hlink hnm hmY hstatic hkP hinitP hy (g := g) hg (argsL := As) (rest := rest) (by rw [hlen]; exact hn) hstack (by rw [hbb]; exact hdg)
  exact xc_close hT X₁ hM hC hini hnm hg (hsize.trans hml.symm) (by rw [hbb]; exact hdg) hW hf hb hPc hstep₁
/-- the receiver: an object of the class C at b -/
def xc_O (s : State) (H : Heap) (C : String) (b : Nat) : Prop := ∃ cellB : Cell, H[b]? = some cellB ∧ cellB.vm.isStatics = false ∧ s.vm.findClass C = some cellB.cls
theorem xc_runV (S : xc_Fix p m c cc nL s own) (hM : xc_Met l y w rm Pc post A) (hC : xc_C s y w maxL n) (hlink : (Cond.methodLink own index y).before args s = true) (hinst : (Cond.instanceMethod y).before args s = true) (hsel : (Cond.selects y.cls y y).before args s = true) (hini : (Cond.initialized y.cls).before args s = true) (hy : xc_no y) (hf : xc_Fits R rm maxL kw cells slots)
    (hO : xc_O s H y.cls b) (hb : FrameBlind Pc) (hPc : ∀ U : State, U.heap = H → s.WarmedH U.vm → Pc (Value.ref b :: As).toArray U) (hg : g.method = m) (hn : As.length = n) (hsize : g.locals.size = nL) (hstack : g.stack = As.reverse ++ .ref b :: rest) (hW : 2 * g.monitorRoom + (rest.map fun v => v.category).sum ≤ kw) (hdg : decode cc g.pc = .ok (.invokevirtual index, 3)) :
    xc_Run p l e R s m args below meth c H locs cells slots g rest rm.cells rm.slots post A := by
  obtain ⟨hx, hbb, hml, ho⟩ := S
  obtain ⟨cellB, hcB, hoB, hclB⟩ := hO
  intro T hT X
  obtain ⟨mk, methY, cY, hnm, hmY, -, -, hsig, hlen⟩ := hC.2
  obtain ⟨mk', methM, hnm', hmM, hstM, habM⟩ := Cond.instanceMethod_spec hinst
  cases Option.some.inj (hnm.symm.trans hnm')
  cases Option.some.inj (hmY.symm.trans hmM)
  obtain ⟨c2, r2, m2, q1, q2, q3, q4, kP, hkP, hkPi⟩ := Cond.selects_spec hsel
  cases hclB.symm.trans q1
  cases (State.methodFound?_of_named hnm hy).symm.trans q2
  cases hnm.symm.trans q3
  have hselP : selectMethod e.platform s.vm cellB.cls mk = .method mk := by rw [Launch.admits_selectMethod X.admits]; exact q4
  obtain ⟨vm₁, X₁, hstep₁⟩ := X.invokevirtual hx ho hlink hnm hmY hstM hkP hkPi hy (a := b) (cell := cellB) (by rw [hT]; exact hcB)
    (fun z h => by rw [h] at hoB; cases hoB) hselP hmY habM hkP hkPi (g := g) hg (argsL := As) (rest := rest) (by rw [hlen]; exact hn) hstack (by rw [hbb]; exact hdg)
  exact xc_close hT X₁ hM hC hini hnm hg (hsize.trans hml.symm) (by rw [hbb]; exact hdg) hW hf hb hPc hstep₁
theorem xc_runVN (S : xc_Fix p m c cc nL s own) (hM : xc_Met l y w rm Pc post A) (hC : xc_C s y w maxL n) (hlink : (Cond.methodLinkNest own index y host).before args s = true) (hinst : (Cond.instanceMethod y).before args s = true) (hsel : (Cond.selects y.cls y y).before args s = true) (hini : (Cond.initialized y.cls).before args s = true) (hy : xc_no y) (hf : xc_Fits R rm maxL kw cells slots)
    (hO : xc_O s H y.cls b) (hb : FrameBlind Pc) (hPc : ∀ U : State, U.heap = H → s.WarmedH U.vm → Pc (Value.ref b :: As).toArray U) (hg : g.method = m) (hn : As.length = n) (hsize : g.locals.size = nL) (hstack : g.stack = As.reverse ++ .ref b :: rest) (hW : 2 * g.monitorRoom + (rest.map fun v => v.category).sum ≤ kw) (hdg : decode cc g.pc = .ok (.invokevirtual index, 3)) :
    xc_Run p l e R s m args below meth c H locs cells slots g rest rm.cells rm.slots post A := by
  obtain ⟨hx, hbb, hml, ho⟩ := S
  obtain ⟨cellB, hcB, hoB, hclB⟩ := hO
  intro T hT X
  obtain ⟨mk, methY, cY, hnm, hmY, -, -, hsig, hlen⟩ := hC.2
  obtain ⟨mk', methM, hnm', hmM, hstM, habM⟩ := Cond.instanceMethod_spec hinst
  cases Option.some.inj (hnm.symm.trans hnm')
  cases Option.some.inj (hmY.symm.trans hmM)
  obtain ⟨c2, r2, m2, q1, q2, q3, q4, kP, hkP, hkPi⟩ := Cond.selects_spec hsel
  cases hclB.symm.trans q1
  cases (State.methodFound?_of_named hnm hy).symm.trans q2
  cases hnm.symm.trans q3
  have hselP : selectMethod e.platform s.vm cellB.cls mk = .method mk := by rw [Launch.admits_selectMethod X.admits]; exact q4
  obtain ⟨vm₁, X₁, hstep₁⟩ := X.invokevirtualNest hx ho hlink hnm hmY hstM hkP hkPi hy (a := b) (cell := cellB) (by rw [hT]; exact hcB)
    (fun z h => by rw [h] at hoB; cases hoB) hselP hmY habM hkP hkPi (g := g) hg (argsL := As) (rest := rest) (by rw [hlen]; exact hn) hstack (by rw [hbb]; exact hdg)
  exact xc_close hT X₁ hM hC hini hnm hg (hsize.trans hml.symm) (by rw [hbb]; exact hdg) hW hf hb hPc hstep₁
theorem xc_runI (S : xc_Fix p m c cc nL s own) {bytes : ByteArray} (hM : xc_Met l y (.code y bytes maxL none) rm Pc post A) (hcode : (Cond.code y bytes maxL none).before args s = true) (hd : (parseMethodDescriptor y.desc).map (fun d => d.parameters.length) = some n) (hlink : (Cond.methodLink own index y).before args s = true) (hinst : (Cond.instanceMethod y).before args s = true) (hini : (Cond.initialized y.cls).before args s = true) (hy1 : y.name = "<init>") (hy : xc_no y) (hf : xc_Fits R rm maxL kw cells slots)
    (hb : FrameBlind Pc) (hPc : ∀ U : State, U.heap = H → s.WarmedH U.vm → Pc (Value.ref b :: As).toArray U) (hg : g.method = m) (hn : As.length = n) (hsize : g.locals.size = nL) (hstack : g.stack = As.reverse ++ .ref b :: rest) (hW : 2 * g.monitorRoom + (rest.map fun v => v.category).sum ≤ kw) (hdg : decode cc g.pc = .ok (.invokespecial index, 3)) :
    xc_Run p l e R s m args below meth c H locs cells slots g rest rm.cells rm.slots post A := by
  have hC : xc_C s y (.code y bytes maxL none) maxL n := xc_C.of hcode hd
  obtain ⟨hx, hbb, hml, ho⟩ := S
  subst hg
  intro T hT X
  have hpl : e.platform.magicAccessors = ({} : Platform).magicAccessors := by rw [X.admits.platform]
  have hlen : ∀ sig, parseMethodDescriptor y.desc = some sig → As.length = sig.parameters.length := fun sig h => by
    rw [h] at hd
    exact hn.trans (Option.some.inj hd).symm
  obtain ⟨mk, methM, cM, kP, vm₁, hnm, hmM, -, -, -, -, hkP, -, hW₁, hstep₁⟩ := Steps.initColdArgs (e := e) X.here hx X.warmed hpl ho hy1 hy hlink hinst hcode (f := g) rfl hlen hstack (by rw [hbb]; exact hdg)
  have X₁ := X.noted hW₁
  exact xc_close hT X₁ hM hC hini hnm rfl (hsize.trans hml.symm) (by rw [hbb]; exact hdg) hW hf hb hPc hstep₁
end Runs
section Uses
variable {p : Program} {l : Launch} {e : Env} {R : Room} {s : State} {m : MethodId} {args : Array Value} {below : List Frame} {meth : Method} {c : Code} {H : Heap} {locs : List Loc} {cells slots : Nat} {Q : State → Prop}
variable {post : xc_R → Heap → Prop} {A : Nat → Prop} {rest : List Value} {pc mc ms : Nat} {ls : Array Slot} {st0 : List Value}
theorem xc_use (hr : xc_Run p l e R s m args below meth c H locs cells slots (F0 m pc ls st0) rest mc ms post A)
    (kr : ∀ (v : Option Value) (H1 : Heap) (L : List Loc), post (.inl v) H1 → xc_F A H H1 → (∀ q ∈ L, A q.base) → W p l e R s m args below meth c H1 (locs ++ L) (cells + mc) (slots + ms) Q (F0 m (pc + 3) ls (v.toList ++ rest)))
    (kx : ∀ (q : Addr) (E : String) (ce : Cell) (H1 : Heap) (L : List Loc), post (.inr E) H1 → xc_F A H H1 → (∀ q ∈ L, A q.base) → H1[q]? = some ce → ce.vm = .none → s.vm.findClass E = some ce.cls → xc_W p l e R s m args below meth c H1 (locs ++ L) (cells + mc) (slots + ms) Q (F0 m pc ls rest) q) :
    W p l e R s m args below meth c H locs cells slots Q (F0 m pc ls st0) := by
  intro T hT X
  obtain ⟨T', L, hL, X', hF, hq⟩ := hr T hT X
  rcases hq with ⟨v, hp, hst⟩ | ⟨q, E, ce, h1, h2, h3, h4, hst⟩
  · obtain ⟨t, a1, b1⟩ := kr v T'.heap L hp hF hL T' rfl X'
    exact ⟨t, hst t a1, b1⟩
  · obtain ⟨t, a1, b1⟩ := kx q E ce T'.heap L h4 hF hL h1 h2 h3 T' rfl X'
    exact ⟨t, hst.trans a1, b1⟩
/-- the call changes nothing and gives back v -/
def xc_ro (v : Option Value) (H : Heap) : xc_R → Heap → Prop := fun r H1 => r = .inl v ∧ H1 = H
theorem xc_nil {L : List Loc} (h : ∀ q ∈ L, False) : L = [] := by
  cases L with
  | nil => rfl
  | cons a t => exact (h a List.mem_cons_self).elim
theorem xc_read {v : Option Value} (hr : xc_Run p l e R s m args below meth c H locs cells slots (F0 m pc ls st0) rest 0 0 (xc_ro v H) (fun _ => False))
    (k : W p l e R s m args below meth c H locs cells slots Q (F0 m (pc + 3) ls (v.toList ++ rest))) : W p l e R s m args below meth c H locs cells slots Q (F0 m pc ls st0) := by
  refine xc_use hr (fun v' H1 L hp _ hL => ?_) (fun q E ce H1 L hp => nomatch hp.1)
  obtain ⟨h1, rfl⟩ := hp
  cases h1
  rw [xc_nil hL, List.append_nil]
  exact k
theorem xc_mono {Q' : State → Prop} {g : JFrame} (h : ∀ t, Q t → Q' t) (k : W p l e R s m args below meth c H locs cells slots Q g) : W p l e R s m args below meth c H locs cells slots Q' g := by
  intro T hT X
  obtain ⟨t, a, b⟩ := k T hT X
  exact ⟨t, a, h t b⟩
/-- out of the kit's end of a body the end here -/
theorem xc_end {r : xc_R} {v : Option Value} (hr : r = .inl v) (hp : post r H) (hF : xc_F A s.heap H) {t : State} (h : MQ below (fun _ _ o t => o = .returned v ∧ t.heap = H ∧ s.WarmedH t.vm) args s cells slots A t) : xc_Z below post A args s cells slots t := by
  obtain ⟨o, h1, h2, ⟨h3, h4, h5⟩, L, h6, h7⟩ := h
  subst h3
  refine ⟨_, h1, h2, h5, ⟨L, h6.2.2, h7⟩, by rw [h4]; exact hF, Or.inl ⟨v, rfl, ?_⟩⟩
  rw [h4, ← hr]
  exact hp
end Uses
section Ends
variable {p : Program} {l : Launch} {e : Env} {R : Room} {s : State} {m : MethodId} {args : Array Value} {below : List Frame} {meth : Method} {c : Code} {H : Heap} {locs : List Loc} {cells slots : Nat}
variable {post : xc_R → Heap → Prop} {A : Nat → Prop} {pc : Nat} {ls : Array Slot} {cc : ByteArray}
theorem xc_iret {v : Int32} (hx : p.tables.exec = Jvm.exec) (hb : c.code = cc) (hr : meth.sig.returnType = some .int) (hl : meth.locks = false) (hF : xc_F A s.heap H) (hL : ∀ q ∈ locs, A q.base) (hp : post (.inl (some (.int v))) H) (hdg : decode cc pc = .ok (.ireturn, 1)) :
    W p l e R s m args below meth c H locs cells slots (xc_Z below post A args s cells slots) (F0 m pc ls [.int v]) :=
  xc_mono (fun t h => xc_end rfl hp hF h) (W.iret (Qc := fun _ _ o t => o = .returned (some (.int v)) ∧ t.heap = H ∧ s.WarmedH t.vm) (free := A) hx hb hr (fun t ht hW => ⟨rfl, ht, hW⟩) hL hdg hl)
theorem xc_lret {v : Int64} (hx : p.tables.exec = Jvm.exec) (hb : c.code = cc) (hr : meth.sig.returnType = some .long) (hl : meth.locks = false) (hF : xc_F A s.heap H) (hL : ∀ q ∈ locs, A q.base) (hp : post (.inl (some (.long v))) H) (hdg : decode cc pc = .ok (.lreturn, 1)) :
    W p l e R s m args below meth c H locs cells slots (xc_Z below post A args s cells slots) (F0 m pc ls [.long v]) :=
  xc_mono (fun t h => xc_end rfl hp hF h) (W.lret (Qc := fun _ _ o t => o = .returned (some (.long v)) ∧ t.heap = H ∧ s.WarmedH t.vm) (free := A) hx hb hr (fun t ht hW => ⟨rfl, ht, hW⟩) hL hdg hl)
theorem xc_vret (hx : p.tables.exec = Jvm.exec) (hb : c.code = cc) (hr : meth.sig.returnType = none) (hl : meth.locks = false) (hF : xc_F A s.heap H) (hL : ∀ q ∈ locs, A q.base) (hp : post (.inl none) H) (hdg : decode cc pc = .ok (.return_, 1)) :
    W p l e R s m args below meth c H locs cells slots (xc_Z below post A args s cells slots) (F0 m pc ls []) :=
  xc_mono (fun t h => xc_end rfl hp hF h) (W.vret (Qc := fun _ _ o t => o = .returned none ∧ t.heap = H ∧ s.WarmedH t.vm) (free := A) hx hb hr (fun t ht hW => ⟨rfl, ht, hW⟩) hL hdg hl)
theorem xc_zret {v : Int32} {ty : FieldType} (hx : p.tables.exec = Jvm.exec) (hb : c.code = cc) (hr : meth.sig.returnType = some ty) (hn : narrow ty (.int v) = .int v) (hl : meth.locks = false) (hF : xc_F A s.heap H) (hL : ∀ q ∈ locs, A q.base) (hp : post (.inl (some (.int v))) H) (hdg : decode cc pc = .ok (.ireturn, 1)) :
    W p l e R s m args below meth c H locs cells slots (xc_Z below post A args s cells slots) (F0 m pc ls [.int v]) :=
  xc_mono (fun t h => xc_end rfl hp hF h) (W.zret (Qc := fun _ _ o t => o = .returned (some (.int v)) ∧ t.heap = H ∧ s.WarmedH t.vm) (free := A) hx hb hr hn (fun t ht hW => ⟨rfl, ht, hW⟩) hL hdg hl)
theorem xc_aret {a : Nat} {nm : String} (hx : p.tables.exec = Jvm.exec) (hb : c.code = cc) (hr : meth.sig.returnType = some (.object nm)) (hl : meth.locks = false) (hF : xc_F A s.heap H) (hL : ∀ q ∈ locs, A q.base) (hp : post (.inl (some (.ref a))) H) (hdg : decode cc pc = .ok (.areturn, 1)) :
    W p l e R s m args below meth c H locs cells slots (xc_Z below post A args s cells slots) (F0 m pc ls [.ref a]) :=
  xc_mono (fun t h => xc_end rfl hp hF h) (W.aret (Qc := fun _ _ o t => o = .returned (some (.ref a)) ∧ t.heap = H ∧ s.WarmedH t.vm) (free := A) hx hb hr (Or.inl ⟨nm, rfl⟩) (Or.inr ⟨a, rfl⟩) (fun t ht hW => ⟨rfl, ht, hW⟩) hL hdg hl)
/-- what is thrown over the frame goes out of the method -/
theorem xc_thru {rest : List Value} {q : Addr} {E : String} {ce : Cell} (hl : meth.locks = false) (hout : ∀ x ∈ c.exceptionTable.toList, covers x pc = false) (hF : xc_F A s.heap H) (hL : ∀ q ∈ locs, A q.base) (hce : H[q]? = some ce) (hcv : ce.vm = .none) (hcl : s.vm.findClass E = some ce.cls) (hp : post (.inr E) H) :
    xc_W p l e R s m args below meth c H locs cells slots (xc_Z below post A args s cells slots) (F0 m pc ls rest) q := by
  intro T hT X
  obtain ⟨hst, hrun, hend, hW, hsm⟩ := X.leaveThrown q (g := F0 m pc ls rest) rfl rfl rfl hout hl
  have hh : (T.setFrames (.throwing q :: below)).heap = H := hT
  exact ⟨_, hst, _, hrun, hend, hW, ⟨locs, hsm, hL⟩, by rw [hh]; exact hF, Or.inr ⟨q, E, ce, rfl, by rw [hh]; exact hce, hcv, hcl, by rw [hh]; exact hp⟩⟩
theorem xc_widen {Q : State → Prop} {g : JFrame} {q : Addr} {k n : Nat} (h1 : cells ≤ k) (h2 : slots ≤ n) (kk : xc_W p l e R s m args below meth c H locs k n Q g q) : xc_W p l e R s m args below meth c H locs cells slots Q g q :=
  fun T hT X => kk T hT (stand_widen X h1 h2)
/-- a table without rows covers nothing -/
theorem xc_none (h : c.exceptionTable.isEmpty = true) : ∀ x ∈ c.exceptionTable.toList, covers x pc = false := by
  intro x hx
  have h1 : c.exceptionTable = #[] := by simpa using h
  rw [h1] at hx
  simp at hx
/-- what a walk without writes leaves of the old cells: all of them -/
theorem xc_kept {k n : Nat} {U : State} (h : s.sameButNew ({ U with vm := s.vm } : State) [] k n) : xc_F (fun _ => False) s.heap U.heap := by
  obtain ⟨-, h2, -, -, -, h6⟩ := h
  refine ⟨h2, fun q hq _ => ?_⟩
  obtain ⟨c9, e1, e2, e3, e4⟩ := h6 q _ (Array.getElem?_eq_getElem hq)
  have hs : c9.slots = (s.heap[q]).slots := Array.ext_getElem? fun i => e4 i (fun hm => nomatch hm)
  have h9 : c9 = s.heap[q] := by
    rw [hs] at e2
    exact e2
  have e5 : U.heap[q]? = some c9 := e1
  rw [e5, h9, Array.getElem?_eq_getElem hq]
/-- 'throw new E("text")' in a method that has written nothing: new; dup; ldc; invokespecial; athrow -/
theorem xc_throw {own cls text : String} {names : List String} {ik is ic mc ms : Nat} (hx : p.tables.exec = Jvm.exec) (hb : c.code = cc) (hl : l.stackTraces = false) (hlocks : meth.locks = false) (hE : c.exceptionTable.isEmpty = true) (hown : s.vm.findClass own = some m.cls)
    (hcls : Bundle.fit cls = true) (hnames : ∀ n ∈ names, Bundle.fit n = true) (hk : (Cond.classLink own ik cls).before args s = true) (hini : (Cond.initialized cls).before args s = true) (hst : (Cond.stringRef own is text).before args s = true) (hat : ∀ w ∈ Bundle.ownAtoms own ic cls names, w.before args s = true)
    (hsize : ls.size = c.maxLocals) (d0 : decode cc pc = .ok (.new ik, 3)) (d3 : decode cc (pc + 3) = .ok (.dup, 1)) (d4 : decode cc (pc + 4) = .ok (.ldc is, 2)) (d6 : decode cc (pc + 6) = .ok (.invokespecial ic, 3)) (d9 : decode cc (pc + 9) = .ok (.athrow, 1))
    (hf : names.length + 3 < R.frames ∧ 13 * (names.length + 1) + 43 ≤ R.locals ∧ cells + 1 ≤ R.cells ∧ slots + 6 ≤ R.slots) (hm : cells + 1 ≤ mc ∧ slots + 6 ≤ ms) (hp : ∀ H1 : Heap, xc_F (fun _ => False) s.heap H1 → post (.inr cls) H1) :
    W p l e R s m args below meth c s.heap [] cells slots (xc_Z below post A args s mc ms) (F0 m pc ls []) := by
  intro T hT X
  have htr : e.platform.stackTraces = false := (show e.platform.stackTraces = l.stackTraces by rw [X.admits.platform]).trans hl
  have hins : (Cond.instantiable cls 6).before args s = true := hat _ (by simp [Bundle.ownAtoms])
  obtain ⟨vm₁, cX, kX, hfX, hkX, -, -, X₁, st1⟩ := X.newCold hx (own := own) (C := cls) (index := ik) (n := 6) hown hk hins hini (g := F0 m pc ls []) rfl (by rw [hb]; exact d0) hf.2.2.1 hf.2.2.2
  generalize hT1 : (T.setVm vm₁).pushCell { cls := cX, slots := kX.instanceTypes.map defaultValue, vm := .none } = T1 at X₁ st1
  have hcellA : T1.heap[T.heap.size]? = some (freshCell cX kX) := by rw [← hT1]; exact State.heap_pushCell_size _ _
  obtain ⟨k9, cf9, i9, a9, -, -, -, -, -, hev⟩ := Cond.stringRef_spec hown hst
  have d3' : decode c.code (pc + 3) = .ok (.dup, 1) := by rw [hb]; exact d3
  obtain ⟨U, hsteps, hrun, hend, hW, hsame, ce, hce, hO⟩ := X₁.ctorThrowS hx htr (own := own) (cls := cls) (names := names) (ic := ic) hown hcls hnames hat (fun x hx => nomatch hx) hfX hkX hcellA (by rw [hT]; exact Nat.le_refl _) (msg := .ref a9) rfl
    (g := { method := m, pc := pc + 6, locals := ls, stack := .ref a9 :: .ref T.heap.size :: .ref T.heap.size :: [], locked := none }) rfl hsize rfl rfl (rest := []) rfl (by rw [hb]; exact d6) (by rw [hb]; exact d9) (xc_none hE) hf.1 (by
      have h1 : (F0 m (pc + 6) ls ([] : List Value)).monitorRoom = 0 := rfl
      have h2 : ({ method := m, pc := pc + 6, locals := ls, stack := .ref a9 :: .ref T.heap.size :: .ref T.heap.size :: [], locked := none } : JFrame).monitorRoom = 0 := rfl
      rw [h2]
      simp only [List.map_cons, List.map_nil, List.sum_cons, List.sum_nil, Value.category]
      have := hf.2.1
      omega) hlocks
  have hK := xc_kept hsame
  have hall : s.sameButNew ({ U with vm := s.vm } : State) [] mc ms := hsame.mono hm.1 hm.2
  refine ⟨U, ?_, .threw T.heap.size, hrun, hend, hW, ⟨[], hall, fun q hq => nomatch hq⟩, hK.weaken (fun _ _ h => h.elim), Or.inr ⟨T.heap.size, cls, ce, rfl, hce, hO.vm, hO.cls, hp _ hK⟩⟩
  refine st1 _ ?_
  show Steps p.tables e below (T1.setTop { method := m, pc := pc + 3, locals := ls, stack := .ref T.heap.size :: [], locked := none }) _
  jvm_step X₁.here [X₁.here.top, hx, d3', Value.category]
  exact X₁.ldcString hx hown hst hev (g := { method := m, pc := pc + 4, locals := ls, stack := .ref T.heap.size :: .ref T.heap.size :: [], locked := none }) rfl (by rw [hb]; exact d4) _ hsteps
/-- caught by the row x of this method's table; the rows ahead don't take it -/
theorem xc_catch {Q : State → Prop} {rest : List Value} {own name E : String} {ce : Cell} {q : Addr} (hown : s.vm.findClass own = some m.cls) (pre : List ExceptionTableEntry) (x : ExceptionTableEntry) (suf : List ExceptionTableEntry) (hsplit : c.exceptionTable.toList = pre ++ x :: suf)
    (hpass : ∀ z ∈ pre, z.catchType ≠ 0 ∧ ∃ nm : String, (Cond.classLink own z.catchType nm).before args s = true ∧ (Cond.not (.castable E nm)).before args s = true) (hx : covers x pc = true) (h0 : x.catchType ≠ 0)
    (hlink : (Cond.classLink own x.catchType name).before args s = true) (hcast : (Cond.castable E name).before args s = true) (hce : H[q]? = some ce) (hcv : ce.vm = .none) (hcl : s.vm.findClass E = some ce.cls)
    (kk : W p l e R s m args below meth c H locs cells slots Q (F0 m x.handlerPc ls [.ref q])) : xc_W p l e R s m args below meth c H locs cells slots Q (F0 m pc ls rest) q := by
  intro T hT X
  have hpl : e.platform.magicAccessors = ({} : Platform).magicAccessors := by rw [X.admits.platform]
  obtain ⟨c3, c4, hc3, hc4, hasg⟩ := Cond.castable_spec hcast
  cases Option.some.inj (hc3.symm.trans hcl)
  obtain ⟨k9, h9, -⟩ := Vm.findClass_spec hcl
  obtain ⟨vm', X', st⟩ := X.thenCaughtThrough q (g := F0 m pc ls rest) rfl (Steps.refl _) (by rw [hT]; exact hce) (by rw [hcv]; rfl) ⟨k9, h9⟩ pre x suf hsplit
    (fun z hz => RowPassed.of_words hpl hown (hpass z hz).1 (hpass z hz).2.choose_spec.1 hcl (hpass z hz).2.choose_spec.2) hx (X.catches_of_link hown h0 hlink hc4 hasg).1
  obtain ⟨t, a1, b1⟩ := kk (T.setVm vm') hT X'
  exact ⟨t, st.trans a1, b1⟩
end Ends
section Bodies
variable {l : Launch} {y : MethodName} {rm : Room} {Pc : Array Value → State → Prop} {post : xc_R → Heap → Prop} {A : Nat → Prop} {cc : ByteArray} {maxL : Nat} {ret : Option FieldType}
/-- a contract out of a walk of the body -/
theorem xc_ofW (hy : plainName y.cls = true)
    (body : ∀ p e s m args below meth c s₁, BodyLoose p l y (headSpec [Cond.code y cc maxL ret] rm) cc maxL ret e s m args below meth c s₁ → c.maxLocals = maxL → c.exceptionTable.isEmpty = true → Pc args s →
      W p l e rm s m args below meth c s.heap [] 0 0 (xc_Z below post A args s rm.cells rm.slots) (entryFrame m args maxL)) : xc_Met l y (.code y cc maxL ret) rm Pc post A := by
  refine MetFree.of_bodyS (code := cc) (maxLocals := maxL) (ret := ret) hy ?_ ?_
  · intro args s m h hn
    obtain ⟨meth, c, h1, h2, h3, h4, h5, h6, -, -⟩ := Cond.code_spec hn (atoms_spec (ws := [Cond.code y cc maxL ret]) h _ List.mem_cons_self)
    exact ⟨meth, c, h1, h2, h3, h4, h5, h6⟩
  · intro p e s m args below meth c s₁ B hml hP _
    have hh0 : s₁.heap = s.heap := by rw [B.state]; rfl
    have hE := B.noHandlers (atoms_spec (ws := [Cond.code y cc maxL ret]) B.pre _ List.mem_cons_self)
    obtain ⟨t, a1, o, b1, b2, b3⟩ := body p e s m args below meth c s₁ B hml hE hP s₁ hh0 (Stand.of_body B)
    exact ⟨t, o, a1, b1, b2, b3⟩
/-- .. where the method has a table of handlers -/
theorem xc_ofWH {hh : List (Nat × Nat × Nat × Nat)} (hy : plainName y.cls = true)
    (body : ∀ p e s m args below meth c s₁, BodyLoose p l y (headSpec [Cond.codeWith y cc maxL ret hh] rm) cc maxL ret e s m args below meth c s₁ → c.maxLocals = maxL → c.exceptionTable.toList.map (fun h => (h.startPc, h.endPc, h.handlerPc, h.catchType)) = hh → Pc args s →
      W p l e rm s m args below meth c s.heap [] 0 0 (xc_Z below post A args s rm.cells rm.slots) (entryFrame m args maxL)) : xc_Met l y (.codeWith y cc maxL ret hh) rm Pc post A := by
  refine MetFree.of_bodyS (code := cc) (maxLocals := maxL) (ret := ret) hy ?_ ?_
  · intro args s m h hn
    obtain ⟨m9, meth, c, hn9, h1, h2, h3, h4, -, h5, h6, -⟩ := Cond.codeWith_spec (atoms_spec (ws := [Cond.codeWith y cc maxL ret hh]) h _ List.mem_cons_self)
    cases Option.some.inj (hn.symm.trans hn9)
    exact ⟨meth, c, h1, h2, h3, h4, h5, h6⟩
  · intro p e s m args below meth c s₁ B hml hP _
    have hh0 : s₁.heap = s.heap := by rw [B.state]; rfl
    have hE : c.exceptionTable.toList.map (fun h => (h.startPc, h.endPc, h.handlerPc, h.catchType)) = hh := by
      obtain ⟨m9, meth9, c9, hn9, h1, h2, -, -, h6, -⟩ := Cond.codeWith_spec (atoms_spec (ws := [Cond.codeWith y cc maxL ret hh]) B.pre _ List.mem_cons_self)
      cases Option.some.inj (hn9.symm.trans B.named)
      cases Option.some.inj (h1.symm.trans B.method)
      cases Option.some.inj (h2.symm.trans (Stand.of_body B).code)
      exact h6
    obtain ⟨t, a1, o, b1, b2, b3⟩ := body p e s m args below meth c s₁ B hml hE hP s₁ hh0 (Stand.of_body B)
    exact ⟨t, o, a1, b1, b2, b3⟩
end Bodies
end XCA
end
section
/-! numbers: congruences, Fermat, the exponent of N = p q, inverses -/
/-- a and b leave the same rest by n -/
def nt_eq (n a b : Nat) : Prop := a % n = b % n
theorem nt_rfl {n a : Nat} : nt_eq n a a := rfl
theorem nt_sym {n a b : Nat} (h : nt_eq n a b) : nt_eq n b a := Eq.symm h
theorem nt_trans {n a b c : Nat} (h : nt_eq n a b) (k : nt_eq n b c) : nt_eq n a c := Eq.trans h k
theorem nt_mod (n a : Nat) : nt_eq n (a % n) a := Nat.mod_mod a n
theorem nt_mul {n a b c d : Nat} (h : nt_eq n a b) (k : nt_eq n c d) : nt_eq n (a * c) (b * d) := by
  unfold nt_eq at *
  rw [Nat.mul_mod, h, k, ← Nat.mul_mod]
theorem nt_add {n a b c d : Nat} (h : nt_eq n a b) (k : nt_eq n c d) : nt_eq n (a + c) (b + d) := by
  unfold nt_eq at *
  rw [Nat.add_mod, h, k, ← Nat.add_mod]
theorem nt_pow {n a b : Nat} (k : Nat) (h : nt_eq n a b) : nt_eq n (a ^ k) (b ^ k) := by
  unfold nt_eq at *
  rw [Nat.pow_mod, h, ← Nat.pow_mod]
theorem nt_iff {n a b : Nat} : nt_eq n a b ↔ (n : Int) ∣ (a : Int) - b := by
  unfold nt_eq
  rw [Int.dvd_iff_emod_eq_zero, ← Int.emod_eq_emod_iff_emod_sub_eq_zero]
  constructor
  · intro h
    rw [← Int.natCast_emod, ← Int.natCast_emod, h]
  · intro h
    rw [← Int.natCast_emod, ← Int.natCast_emod] at h
    omega
theorem nt_iffA {n a b : Nat} : nt_eq n a b ↔ n ∣ ((a : Int) - b).natAbs := by
  rw [nt_iff, Int.ofNat_dvd_left]
theorem nt_cancel {n a b c : Nat} (hc : Nat.Coprime n a) (h : nt_eq n (a * b) (a * c)) : nt_eq n b c := by
  rw [nt_iffA] at h ⊢
  have e : ((a * b : Nat) : Int) - ((a * c : Nat) : Int) = (a : Int) * ((b : Int) - c) := by
    rw [Int.natCast_mul, Int.natCast_mul, Int.mul_sub]
  rw [e, Int.natAbs_mul, Int.natAbs_natCast] at h
  exact hc.dvd_of_dvd_mul_left h
theorem nt_lt {n a b : Nat} (h : nt_eq n a b) (ha : a < n) (hb : b < n) : a = b := by
  unfold nt_eq at h
  rwa [Nat.mod_eq_of_lt ha, Nat.mod_eq_of_lt hb] at h
theorem nt_dvd {m n a b : Nat} (hd : m ∣ n) (h : nt_eq n a b) : nt_eq m a b := by
  rw [nt_iffA] at h ⊢
  exact Nat.dvd_trans hd h
theorem nt_crt {m n a b : Nat} (hc : Nat.Coprime m n) (h : nt_eq m a b) (k : nt_eq n a b) : nt_eq (m * n) a b := by
  rw [nt_iffA] at h k ⊢
  exact hc.mul_dvd_of_dvd_of_dvd h k
theorem nt_pow1 {n a k : Nat} (j : Nat) (h : nt_eq n (a ^ k) 1) : nt_eq n (a ^ (k * j)) 1 := by
  rw [Nat.pow_mul]
  have h1 := nt_pow j h
  rwa [Nat.one_pow] at h1
/-- a prime -/
def nt_P (p : Nat) : Prop := 2 ≤ p ∧ ∀ d, d ∣ p → d = 1 ∨ d = p
theorem nt_P_cop {p a : Nat} (h : nt_P p) (ha : ¬ p ∣ a) : Nat.Coprime p a := by
  rcases h.2 (Nat.gcd p a) (Nat.gcd_dvd_left p a) with e | e
  · exact e
  · have h1 := Nat.gcd_dvd_right p a
    rw [e] at h1
    exact absurd h1 ha
theorem nt_P_ne {p q : Nat} (P : nt_P p) (Q : nt_P q) (h : p ≠ q) : Nat.Coprime p q := by
  refine nt_P_cop P (fun z => ?_)
  rcases Q.2 p z with e | e
  · have := P.1
    omega
  · exact h e
theorem nt_P_mul {p a b : Nat} (P : nt_P p) (h : p ∣ a * b) : p ∣ a ∨ p ∣ b := by
  by_cases ha : p ∣ a
  · exact Or.inl ha
  · exact Or.inr ((nt_P_cop P ha).dvd_of_dvd_mul_left h)
theorem nt_P_pow {p a : Nat} (P : nt_P p) : ∀ k : Nat, p ∣ a ^ k → p ∣ a
  | 0, h => by
    rw [Nat.pow_zero] at h
    have h1 := Nat.le_of_dvd (by decide) h
    have := P.1
    omega
  | k + 1, h => by
    rw [Nat.pow_succ] at h
    rcases nt_P_mul P h with h | h
    · exact nt_P_pow P k h
    · exact h
/-- Pascal's numbers -/
def nt_ch : Nat → Nat → Nat
  | _, 0 => 1
  | 0, _ + 1 => 0
  | n + 1, k + 1 => nt_ch n k + nt_ch n (k + 1)
theorem nt_ch_0 (n : Nat) : nt_ch n 0 = 1 := by cases n <;> simp [nt_ch]
theorem nt_ch_z (k : Nat) : nt_ch 0 (k + 1) = 0 := by simp [nt_ch]
theorem nt_ch_s (n k : Nat) : nt_ch (n + 1) (k + 1) = nt_ch n k + nt_ch n (k + 1) := by simp [nt_ch]
theorem nt_ch_big : ∀ n k : Nat, n < k → nt_ch n k = 0
  | 0, 0, h => absurd h (by omega)
  | _ + 1, 0, h => absurd h (by omega)
  | 0, k + 1, _ => nt_ch_z k
  | n + 1, k + 1, h => by rw [nt_ch_s, nt_ch_big n k (by omega), nt_ch_big n (k + 1) (by omega)]
theorem nt_ch_nn : ∀ n : Nat, nt_ch n n = 1
  | 0 => nt_ch_0 0
  | n + 1 => by rw [nt_ch_s, nt_ch_nn n, nt_ch_big n (n + 1) (by omega)]
theorem nt_ch_mul : ∀ n k : Nat, (n + 1) * nt_ch n k = nt_ch (n + 1) (k + 1) * (k + 1)
  | 0, 0 => by rw [nt_ch_s, nt_ch_0, nt_ch_z]
  | 0, k + 1 => by rw [nt_ch_s, nt_ch_z, nt_ch_z]; simp
  | n + 1, 0 => by
    have h := nt_ch_mul n 0
    rw [nt_ch_0] at h
    rw [nt_ch_s, nt_ch_0]
    omega
  | n + 1, k + 1 => by
    have h1 := nt_ch_mul n k
    have h2 := nt_ch_mul n (k + 1)
    have e1 := nt_ch_s n k
    have e2 := nt_ch_s (n + 1) (k + 1)
    have a1 : (n + 1 + 1) * nt_ch (n + 1) (k + 1) = (n + 1) * nt_ch (n + 1) (k + 1) + nt_ch (n + 1) (k + 1) := Nat.succ_mul _ _
    have a2 : (n + 1) * nt_ch (n + 1) (k + 1) = (n + 1) * nt_ch n k + (n + 1) * nt_ch n (k + 1) := by rw [e1, Nat.mul_add]
    have a3 : nt_ch (n + 1 + 1) (k + 1 + 1) * (k + 1 + 1) = nt_ch (n + 1) (k + 1) * (k + 1 + 1) + nt_ch (n + 1) (k + 1 + 1) * (k + 1 + 1) := by rw [e2, Nat.add_mul]
    have a4 : nt_ch (n + 1) (k + 1) * (k + 1 + 1) = nt_ch (n + 1) (k + 1) * (k + 1) + nt_ch (n + 1) (k + 1) := Nat.mul_succ _ _
    omega
theorem nt_ch_p {p k : Nat} (h : nt_P p) (hk : k + 1 < p) : p ∣ nt_ch p (k + 1) := by
  obtain ⟨n, rfl⟩ : ∃ n, p = n + 1 := ⟨p - 1, by omega⟩
  have h1 := nt_ch_mul n k
  have h2 : (n + 1) ∣ nt_ch (n + 1) (k + 1) * (k + 1) := ⟨nt_ch n k, h1.symm⟩
  have h3 : ¬ (n + 1) ∣ (k + 1) := fun z => by
    have := Nat.le_of_dvd (by omega) z
    omega
  exact (nt_P_cop h h3).dvd_of_dvd_mul_right h2
def nt_bs (a n : Nat) : Nat → Nat
  | 0 => 1
  | k + 1 => nt_bs a n k + nt_ch n (k + 1) * a ^ (k + 1)
theorem nt_bs_0 (a n : Nat) : nt_bs a n 0 = 1 := rfl
theorem nt_bs_k (a n k : Nat) : nt_bs a n (k + 1) = nt_bs a n k + nt_ch n (k + 1) * a ^ (k + 1) := rfl
theorem nt_bs_s (a n : Nat) : ∀ k : Nat, nt_bs a (n + 1) (k + 1) = nt_bs a n (k + 1) + a * nt_bs a n k
  | 0 => by
    rw [nt_bs_k, nt_bs_k, nt_bs_0, nt_bs_0, nt_ch_s, nt_ch_0, Nat.add_mul, Nat.one_mul, Nat.mul_one]
    simp only [Nat.zero_add, Nat.pow_one]
    omega
  | k + 1 => by
    rw [nt_bs_k a (n + 1) (k + 1), nt_bs_s a n k, nt_ch_s n (k + 1), nt_bs_k a n (k + 1)]
    have e : a * nt_bs a n (k + 1) = a * nt_bs a n k + nt_ch n (k + 1) * a ^ (k + 1 + 1) := by
      rw [nt_bs_k, Nat.mul_add, Nat.pow_succ a (k + 1), Nat.mul_comm a (nt_ch n (k + 1) * a ^ (k + 1)), Nat.mul_assoc]
    have e2 : (nt_ch n (k + 1) + nt_ch n (k + 1 + 1)) * a ^ (k + 1 + 1) = nt_ch n (k + 1) * a ^ (k + 1 + 1) + nt_ch n (k + 1 + 1) * a ^ (k + 1 + 1) := Nat.add_mul _ _ _
    omega
theorem nt_binom (a : Nat) : ∀ n : Nat, (a + 1) ^ n = nt_bs a n n
  | 0 => rfl
  | n + 1 => by
    rw [Nat.pow_succ, nt_binom a n, nt_bs_s, nt_bs_k, nt_ch_big n (n + 1) (by omega), Nat.zero_mul, Nat.add_zero, Nat.mul_add, Nat.mul_one, Nat.mul_comm a, Nat.add_comm, Nat.add_zero]
theorem nt_bs_p {p : Nat} (h : nt_P p) (a : Nat) : ∀ k : Nat, k < p → nt_eq p (nt_bs a p k) 1
  | 0, _ => rfl
  | k + 1, hk => by
    have ih := nt_bs_p h a k (by omega)
    obtain ⟨c, hc⟩ := nt_ch_p h hk
    rw [nt_bs_k, hc, Nat.mul_assoc]
    unfold nt_eq at *
    rw [Nat.add_mul_mod_self_left]
    exact ih
theorem nt_flt {p : Nat} (h : nt_P p) : ∀ a : Nat, nt_eq p (a ^ p) a
  | 0 => by
    rw [Nat.zero_pow (by have := h.1; omega)]
    exact rfl
  | a + 1 => by
    have ih := nt_flt h a
    rw [nt_binom]
    obtain ⟨n, rfl⟩ : ∃ n, p = n + 1 := ⟨p - 1, by have := h.1; omega⟩
    rw [nt_bs_k, nt_ch_nn, Nat.one_mul, Nat.add_comm a 1]
    exact nt_add (nt_bs_p h a n (by omega)) ih
theorem nt_fermat {p a : Nat} (h : nt_P p) (ha : ¬ p ∣ a) : nt_eq p (a ^ (p - 1)) 1 := by
  refine nt_cancel (a := a) (nt_P_cop h ha) ?_
  have e : a * a ^ (p - 1) = a ^ p := by
    have h2 : p = (p - 1) + 1 := by have := h.1; omega
    rw [Nat.mul_comm, ← Nat.pow_succ]
    exact congrArg (fun k => a ^ k) h2.symm
  rw [e, Nat.mul_one]
  exact nt_flt h a
/-- N = p q with p = 2 p' + 1, q = 2 q' + 1: a number prime to N to the power of 2 p' q' is 1 -/
theorem nt_euler {p q a b x : Nat} (P : nt_P p) (Q : nt_P q) (hne : p ≠ q) (ep : p = 2 * a + 1) (eq : q = 2 * b + 1) (hp : ¬ p ∣ x) (hq : ¬ q ∣ x) : nt_eq (p * q) (x ^ (2 * (a * b))) 1 := by
  refine nt_crt (nt_P_ne P Q hne) ?_ ?_
  · have h1 := nt_pow1 b (nt_fermat P hp)
    have e : (p - 1) * b = 2 * (a * b) := by rw [ep, Nat.add_sub_cancel, Nat.mul_assoc]
    rwa [e] at h1
  · have h1 := nt_pow1 a (nt_fermat Q hq)
    have e : (q - 1) * a = 2 * (a * b) := by rw [eq, Nat.add_sub_cancel, Nat.mul_assoc, Nat.mul_comm b a]
    rwa [e] at h1
theorem nt_P2 : nt_P 2 := ⟨Nat.le_refl 2, fun d h => by
  have := Nat.le_of_dvd (by decide) h
  match d, h with
  | 0, h => simp at h
  | 1, _ => exact Or.inl rfl
  | 2, _ => exact Or.inr rfl
  | d + 3, _ => omega⟩
/-- of a number prime to 2 a b the power (a - 1)(b - 1) is 1 modulo 2 a b -/
theorem nt_tot {a b e : Nat} (P : nt_P a) (Q : nt_P b) (hne : a ≠ b) (ha : 2 < a) (hb : 2 < b) (h1 : ¬ a ∣ e) (h2 : ¬ b ∣ e) (h3 : ¬ 2 ∣ e) : nt_eq (2 * (a * b)) (e ^ ((a - 1) * (b - 1))) 1 := by
  have c1 : Nat.Coprime a b := nt_P_ne P Q hne
  have c2 : Nat.Coprime 2 (a * b) := Nat.Coprime.mul_right (nt_P_ne nt_P2 P (by omega)) (nt_P_ne nt_P2 Q (by omega))
  refine nt_crt c2 ?_ (nt_crt c1 ?_ ?_)
  · have h := nt_pow1 ((a - 1) * (b - 1)) (nt_fermat nt_P2 h3)
    rwa [show (2 - 1) * ((a - 1) * (b - 1)) = (a - 1) * (b - 1) from Nat.one_mul _] at h
  · exact nt_pow1 (b - 1) (nt_fermat P h1)
  · have h := nt_pow1 (a - 1) (nt_fermat Q h2)
    rwa [Nat.mul_comm (b - 1) (a - 1)] at h
/-- .. so its power (a - 1)(b - 1) - 1 is its inverse -/
theorem nt_inv {a b e : Nat} (P : nt_P a) (Q : nt_P b) (hne : a ≠ b) (ha : 2 < a) (hb : 2 < b) (h1 : ¬ a ∣ e) (h2 : ¬ b ∣ e) (h3 : ¬ 2 ∣ e) : nt_eq (2 * (a * b)) (e * (e ^ ((a - 1) * (b - 1) - 1) % (2 * (a * b)))) 1 := by
  have hk : 1 ≤ (a - 1) * (b - 1) := Nat.mul_le_mul (by omega : 1 ≤ a - 1) (by omega : 1 ≤ b - 1)
  have e1 : e * e ^ ((a - 1) * (b - 1) - 1) = e ^ ((a - 1) * (b - 1)) := by
    rw [Nat.mul_comm, ← Nat.pow_succ]
    congr 1
    omega
  refine nt_trans (nt_mul nt_rfl (nt_mod _ _)) ?_
  rw [e1]
  exact nt_tot P Q hne ha hb h1 h2 h3
/-- inverses are one -/
theorem nt_inv1 {n e s t : Nat} (hs : nt_eq n (e * s) 1) (ht : nt_eq n (e * t) 1) : nt_eq n s t := by
  have h1 : nt_eq n (s * (e * t)) (s * 1) := nt_mul nt_rfl ht
  have h2 : nt_eq n ((e * s) * t) (1 * t) := nt_mul hs nt_rfl
  rw [Nat.mul_one] at h1
  rw [Nat.one_mul] at h2
  have e1 : s * (e * t) = (e * s) * t := by rw [← Nat.mul_assoc, Nat.mul_comm s e]
  rw [e1] at h1
  exact nt_trans (nt_sym h1) h2
/-- exponents may be taken modulo a number k with x^k = 1 -/
theorem nt_exp {n x k a b : Nat} (h : nt_eq n (x ^ k) 1) (hab : nt_eq k a b) : nt_eq n (x ^ a) (x ^ b) := by
  have e : ∀ c : Nat, nt_eq n (x ^ c) (x ^ (c % k)) := fun c => by
    have h1 := nt_pow1 (c / k) h
    have h2 : nt_eq n (x ^ (k * (c / k)) * x ^ (c % k)) (1 * x ^ (c % k)) := nt_mul h1 nt_rfl
    rw [← Nat.pow_add, Nat.one_mul, Nat.div_add_mod] at h2
    exact h2
  have h1 := e a
  have h2 := e b
  unfold nt_eq at hab
  rw [hab] at h1
  exact nt_trans h1 (nt_sym h2)
/-- trial division -/
theorem nt_P_iff {n : Nat} : nt_P n ↔ 2 ≤ n ∧ ∀ d : Nat, 2 ≤ d → d * d ≤ n → n % d ≠ 0 := by
  constructor
  · rintro ⟨h2, h⟩
    refine ⟨h2, fun d hd hdd hz => ?_⟩
    rcases h d (Nat.dvd_of_mod_eq_zero hz) with e | e
    · omega
    · subst e
      have : d * 2 ≤ d * d := Nat.mul_le_mul_left d hd
      omega
  · rintro ⟨h2, h⟩
    refine ⟨h2, fun d hd => ?_⟩
    obtain ⟨k, hk⟩ := hd
    by_cases d1 : d = 1
    · exact Or.inl d1
    · by_cases k1 : k = 1
      · subst k1
        right
        omega
      · exfalso
        have d0 : d ≠ 0 := fun z => by subst z; simp at hk; omega
        have k0 : k ≠ 0 := fun z => by subst z; simp at hk; omega
        by_cases hle : d ≤ k
        · refine h d (by omega) ?_ ?_
          · rw [hk]; exact Nat.mul_le_mul_left d hle
          · rw [hk]; exact Nat.mul_mod_right d k
        · refine h k (by omega) ?_ ?_
          · rw [hk]; exact Nat.mul_le_mul_right k (by omega)
          · rw [hk]; exact Nat.mul_mod_left d k
theorem nt_e_all : (List.range 16384).all (fun d => decide (d < 2) || decide (65537 % d ≠ 0)) = true := by decide +kernel
/-- 65537 has no divisor of 2 .. 16383 -/
theorem nt_e {d : Nat} (h2 : 2 ≤ d) (h : d < 16384) : ¬ d ∣ 65537 := by
  intro hd
  have h1 := List.all_eq_true.mp nt_e_all d (List.mem_range.mpr h)
  have h3 := Nat.mod_eq_zero_of_dvd hd
  simp only [Bool.or_eq_true, decide_eq_true_eq] at h1
  omega
end
section
/-! decode rows -/
theorem d_BU_init_0 : decode b_BU_init 0 = .ok (.aload_n 0, 1) := by decide +kernel
theorem d_BU_init_1 : decode b_BU_init 1 = .ok (.invokespecial 3, 3) := by decide +kernel
theorem d_BU_init_4 : decode b_BU_init 4 = .ok (.aload_n 0, 1) := by decide +kernel
theorem d_BU_init_5 : decode b_BU_init 5 = .ok (.bipush 24, 2) := by decide +kernel
theorem d_BU_init_7 : decode b_BU_init 7 = .ok (.newarray .int, 2) := by decide +kernel
theorem d_BU_init_9 : decode b_BU_init 9 = .ok (.putfield 9, 3) := by decide +kernel
theorem d_BU_init_12 : decode b_BU_init 12 = .ok (.return_, 1) := by decide +kernel
theorem d_BU_count_0 : decode b_BU_count 0 = .ok (.aload_n 0, 1) := by decide +kernel
theorem d_BU_count_1 : decode b_BU_count 1 = .ok (.getfield 15, 3) := by decide +kernel
theorem d_BU_count_4 : decode b_BU_count 4 = .ok (.ireturn, 1) := by decide +kernel
theorem d_BU_room_0 : decode b_BU_room 0 = .ok (.bipush 24, 2) := by decide +kernel
theorem d_BU_room_2 : decode b_BU_room 2 = .ok (.aload_n 0, 1) := by decide +kernel
theorem d_BU_room_3 : decode b_BU_room 3 = .ok (.getfield 15, 3) := by decide +kernel
theorem d_BU_room_6 : decode b_BU_room 6 = .ok (.isub, 1) := by decide +kernel
theorem d_BU_room_7 : decode b_BU_room 7 = .ok (.ireturn, 1) := by decide +kernel
theorem d_BU_append_0 : decode b_BU_append 0 = .ok (.iload_n 2, 1) := by decide +kernel
theorem d_BU_append_1 : decode b_BU_append 1 = .ok (.iconst 1, 1) := by decide +kernel
theorem d_BU_append_2 : decode b_BU_append 2 = .ok (.isub, 1) := by decide +kernel
theorem d_BU_append_3 : decode b_BU_append 3 = .ok (.istore_n 3, 1) := by decide +kernel
theorem d_BU_append_4 : decode b_BU_append 4 = .ok (.iload_n 3, 1) := by decide +kernel
theorem d_BU_append_5 : decode b_BU_append 5 = .ok (.ifCond .lt 47, 3) := by decide +kernel
theorem d_BU_append_8 : decode b_BU_append 8 = .ok (.aload_n 0, 1) := by decide +kernel
theorem d_BU_append_9 : decode b_BU_append 9 = .ok (.getfield 15, 3) := by decide +kernel
theorem d_BU_append_12 : decode b_BU_append 12 = .ok (.bipush 24, 2) := by decide +kernel
theorem d_BU_append_14 : decode b_BU_append 14 = .ok (.if_icmp .ge 38, 3) := by decide +kernel
theorem d_BU_append_17 : decode b_BU_append 17 = .ok (.aload_n 0, 1) := by decide +kernel
theorem d_BU_append_18 : decode b_BU_append 18 = .ok (.getfield 9, 3) := by decide +kernel
theorem d_BU_append_21 : decode b_BU_append 21 = .ok (.aload_n 0, 1) := by decide +kernel
theorem d_BU_append_22 : decode b_BU_append 22 = .ok (.getfield 15, 3) := by decide +kernel
theorem d_BU_append_25 : decode b_BU_append 25 = .ok (.iload_n 1, 1) := by decide +kernel
theorem d_BU_append_26 : decode b_BU_append 26 = .ok (.bipush 8, 2) := by decide +kernel
theorem d_BU_append_28 : decode b_BU_append 28 = .ok (.iload_n 3, 1) := by decide +kernel
theorem d_BU_append_29 : decode b_BU_append 29 = .ok (.imul, 1) := by decide +kernel
theorem d_BU_append_30 : decode b_BU_append 30 = .ok (.iushr, 1) := by decide +kernel
theorem d_BU_append_31 : decode b_BU_append 31 = .ok (.sipush 255, 3) := by decide +kernel
theorem d_BU_append_34 : decode b_BU_append 34 = .ok (.iand, 1) := by decide +kernel
theorem d_BU_append_35 : decode b_BU_append 35 = .ok (.iastore, 1) := by decide +kernel
theorem d_BU_append_36 : decode b_BU_append 36 = .ok (.aload_n 0, 1) := by decide +kernel
theorem d_BU_append_37 : decode b_BU_append 37 = .ok (.dup, 1) := by decide +kernel
theorem d_BU_append_38 : decode b_BU_append 38 = .ok (.getfield 15, 3) := by decide +kernel
theorem d_BU_append_41 : decode b_BU_append 41 = .ok (.iconst 1, 1) := by decide +kernel
theorem d_BU_append_42 : decode b_BU_append 42 = .ok (.iadd, 1) := by decide +kernel
theorem d_BU_append_43 : decode b_BU_append 43 = .ok (.putfield 15, 3) := by decide +kernel
theorem d_BU_append_46 : decode b_BU_append 46 = .ok (.iinc 3 (-1), 3) := by decide +kernel
theorem d_BU_append_49 : decode b_BU_append 49 = .ok (.goto (-45), 3) := by decide +kernel
theorem d_BU_append_52 : decode b_BU_append 52 = .ok (.return_, 1) := by decide +kernel
theorem d_BU_clear_0 : decode b_BU_clear 0 = .ok (.aload_n 0, 1) := by decide +kernel
theorem d_BU_clear_1 : decode b_BU_clear 1 = .ok (.iconst 0, 1) := by decide +kernel
theorem d_BU_clear_2 : decode b_BU_clear 2 = .ok (.putfield 15, 3) := by decide +kernel
theorem d_BU_clear_5 : decode b_BU_clear 5 = .ok (.return_, 1) := by decide +kernel
theorem d_BU_mix_0 : decode b_BU_mix 0 = .ok (.ldc2_w 19, 3) := by decide +kernel
theorem d_BU_mix_3 : decode b_BU_mix 3 = .ok (.lstore_n 1, 1) := by decide +kernel
theorem d_BU_mix_4 : decode b_BU_mix 4 = .ok (.iconst 0, 1) := by decide +kernel
theorem d_BU_mix_5 : decode b_BU_mix 5 = .ok (.istore_n 3, 1) := by decide +kernel
theorem d_BU_mix_6 : decode b_BU_mix 6 = .ok (.iload_n 3, 1) := by decide +kernel
theorem d_BU_mix_7 : decode b_BU_mix 7 = .ok (.aload_n 0, 1) := by decide +kernel
theorem d_BU_mix_8 : decode b_BU_mix 8 = .ok (.getfield 15, 3) := by decide +kernel
theorem d_BU_mix_11 : decode b_BU_mix 11 = .ok (.if_icmp .ge 21, 3) := by decide +kernel
theorem d_BU_mix_14 : decode b_BU_mix 14 = .ok (.lload_n 1, 1) := by decide +kernel
theorem d_BU_mix_15 : decode b_BU_mix 15 = .ok (.aload_n 0, 1) := by decide +kernel
theorem d_BU_mix_16 : decode b_BU_mix 16 = .ok (.getfield 9, 3) := by decide +kernel
theorem d_BU_mix_19 : decode b_BU_mix 19 = .ok (.iload_n 3, 1) := by decide +kernel
theorem d_BU_mix_20 : decode b_BU_mix 20 = .ok (.iaload, 1) := by decide +kernel
theorem d_BU_mix_21 : decode b_BU_mix 21 = .ok (.i2l, 1) := by decide +kernel
theorem d_BU_mix_22 : decode b_BU_mix 22 = .ok (.invokestatic 21, 3) := by decide +kernel
theorem d_BU_mix_25 : decode b_BU_mix 25 = .ok (.lstore_n 1, 1) := by decide +kernel
theorem d_BU_mix_26 : decode b_BU_mix 26 = .ok (.iinc 3 1, 3) := by decide +kernel
theorem d_BU_mix_29 : decode b_BU_mix 29 = .ok (.goto (-23), 3) := by decide +kernel
theorem d_BU_mix_32 : decode b_BU_mix 32 = .ok (.lload_n 1, 1) := by decide +kernel
theorem d_BU_mix_33 : decode b_BU_mix 33 = .ok (.aload_n 0, 1) := by decide +kernel
theorem d_BU_mix_34 : decode b_BU_mix 34 = .ok (.getfield 15, 3) := by decide +kernel
theorem d_BU_mix_37 : decode b_BU_mix 37 = .ok (.i2l, 1) := by decide +kernel
theorem d_BU_mix_38 : decode b_BU_mix 38 = .ok (.invokestatic 21, 3) := by decide +kernel
theorem d_BU_mix_41 : decode b_BU_mix 41 = .ok (.invokestatic 25, 3) := by decide +kernel
theorem d_BU_mix_44 : decode b_BU_mix 44 = .ok (.lreturn, 1) := by decide +kernel
theorem d_MO_init_0 : decode b_MO_init 0 = .ok (.aload_n 0, 1) := by decide +kernel
theorem d_MO_init_1 : decode b_MO_init 1 = .ok (.invokespecial 3, 3) := by decide +kernel
theorem d_MO_init_4 : decode b_MO_init 4 = .ok (.aload_n 0, 1) := by decide +kernel
theorem d_MO_init_5 : decode b_MO_init 5 = .ok (.bipush 6, 2) := by decide +kernel
theorem d_MO_init_7 : decode b_MO_init 7 = .ok (.newarray .long, 2) := by decide +kernel
theorem d_MO_init_9 : decode b_MO_init 9 = .ok (.putfield 9, 3) := by decide +kernel
theorem d_MO_init_12 : decode b_MO_init 12 = .ok (.aload_n 0, 1) := by decide +kernel
theorem d_MO_init_13 : decode b_MO_init 13 = .ok (.bipush 6, 2) := by decide +kernel
theorem d_MO_init_15 : decode b_MO_init 15 = .ok (.newarray .int, 2) := by decide +kernel
theorem d_MO_init_17 : decode b_MO_init 17 = .ok (.putfield 15, 3) := by decide +kernel
theorem d_MO_init_20 : decode b_MO_init 20 = .ok (.aload_n 0, 1) := by decide +kernel
theorem d_MO_init_21 : decode b_MO_init 21 = .ok (.bipush 6, 2) := by decide +kernel
theorem d_MO_init_23 : decode b_MO_init 23 = .ok (.newarray .long, 2) := by decide +kernel
theorem d_MO_init_25 : decode b_MO_init 25 = .ok (.putfield 19, 3) := by decide +kernel
theorem d_MO_init_28 : decode b_MO_init 28 = .ok (.return_, 1) := by decide +kernel
theorem d_MO_begin_0 : decode b_MO_begin 0 = .ok (.aload_n 0, 1) := by decide +kernel
theorem d_MO_begin_1 : decode b_MO_begin 1 = .ok (.iconst 0, 1) := by decide +kernel
theorem d_MO_begin_2 : decode b_MO_begin 2 = .ok (.putfield 22, 3) := by decide +kernel
theorem d_MO_begin_5 : decode b_MO_begin 5 = .ok (.aload_n 0, 1) := by decide +kernel
theorem d_MO_begin_6 : decode b_MO_begin 6 = .ok (.lload_n 1, 1) := by decide +kernel
theorem d_MO_begin_7 : decode b_MO_begin 7 = .ok (.putfield 26, 3) := by decide +kernel
theorem d_MO_begin_10 : decode b_MO_begin 10 = .ok (.aload_n 0, 1) := by decide +kernel
theorem d_MO_begin_11 : decode b_MO_begin 11 = .ok (.iconst 0, 1) := by decide +kernel
theorem d_MO_begin_12 : decode b_MO_begin 12 = .ok (.putfield 30, 3) := by decide +kernel
theorem d_MO_begin_15 : decode b_MO_begin 15 = .ok (.aload_n 0, 1) := by decide +kernel
theorem d_MO_begin_16 : decode b_MO_begin 16 = .ok (.iconst 0, 1) := by decide +kernel
theorem d_MO_begin_17 : decode b_MO_begin 17 = .ok (.putfield 33, 3) := by decide +kernel
theorem d_MO_begin_20 : decode b_MO_begin 20 = .ok (.aload_n 0, 1) := by decide +kernel
theorem d_MO_begin_21 : decode b_MO_begin 21 = .ok (.lconst 0, 1) := by decide +kernel
theorem d_MO_begin_22 : decode b_MO_begin 22 = .ok (.putfield 36, 3) := by decide +kernel
theorem d_MO_begin_25 : decode b_MO_begin 25 = .ok (.return_, 1) := by decide +kernel
theorem d_MO_takePartial_0 : decode b_MO_takePartial 0 = .ok (.aload_n 0, 1) := by decide +kernel
theorem d_MO_takePartial_1 : decode b_MO_takePartial 1 = .ok (.getfield 9, 3) := by decide +kernel
theorem d_MO_takePartial_4 : decode b_MO_takePartial 4 = .ok (.iload_n 1, 1) := by decide +kernel
theorem d_MO_takePartial_5 : decode b_MO_takePartial 5 = .ok (.lload_n 2, 1) := by decide +kernel
theorem d_MO_takePartial_6 : decode b_MO_takePartial 6 = .ok (.lastore, 1) := by decide +kernel
theorem d_MO_takePartial_7 : decode b_MO_takePartial 7 = .ok (.aload_n 0, 1) := by decide +kernel
theorem d_MO_takePartial_8 : decode b_MO_takePartial 8 = .ok (.getfield 15, 3) := by decide +kernel
theorem d_MO_takePartial_11 : decode b_MO_takePartial 11 = .ok (.iload_n 1, 1) := by decide +kernel
theorem d_MO_takePartial_12 : decode b_MO_takePartial 12 = .ok (.iload 4, 2) := by decide +kernel
theorem d_MO_takePartial_14 : decode b_MO_takePartial 14 = .ok (.iastore, 1) := by decide +kernel
theorem d_MO_takePartial_15 : decode b_MO_takePartial 15 = .ok (.aload_n 0, 1) := by decide +kernel
theorem d_MO_takePartial_16 : decode b_MO_takePartial 16 = .ok (.getfield 19, 3) := by decide +kernel
theorem d_MO_takePartial_19 : decode b_MO_takePartial 19 = .ok (.iload_n 1, 1) := by decide +kernel
theorem d_MO_takePartial_20 : decode b_MO_takePartial 20 = .ok (.lload 5, 2) := by decide +kernel
theorem d_MO_takePartial_22 : decode b_MO_takePartial 22 = .ok (.lastore, 1) := by decide +kernel
theorem d_MO_takePartial_23 : decode b_MO_takePartial 23 = .ok (.aload_n 0, 1) := by decide +kernel
theorem d_MO_takePartial_24 : decode b_MO_takePartial 24 = .ok (.dup, 1) := by decide +kernel
theorem d_MO_takePartial_25 : decode b_MO_takePartial 25 = .ok (.getfield 30, 3) := by decide +kernel
theorem d_MO_takePartial_28 : decode b_MO_takePartial 28 = .ok (.iconst 1, 1) := by decide +kernel
theorem d_MO_takePartial_29 : decode b_MO_takePartial 29 = .ok (.iload_n 1, 1) := by decide +kernel
theorem d_MO_takePartial_30 : decode b_MO_takePartial 30 = .ok (.ishl, 1) := by decide +kernel
theorem d_MO_takePartial_31 : decode b_MO_takePartial 31 = .ok (.ior, 1) := by decide +kernel
theorem d_MO_takePartial_32 : decode b_MO_takePartial 32 = .ok (.putfield 30, 3) := by decide +kernel
theorem d_MO_takePartial_35 : decode b_MO_takePartial 35 = .ok (.return_, 1) := by decide +kernel
theorem d_MO_dropPartials_0 : decode b_MO_dropPartials 0 = .ok (.aload_n 0, 1) := by decide +kernel
theorem d_MO_dropPartials_1 : decode b_MO_dropPartials 1 = .ok (.iconst 0, 1) := by decide +kernel
theorem d_MO_dropPartials_2 : decode b_MO_dropPartials 2 = .ok (.putfield 30, 3) := by decide +kernel
theorem d_MO_dropPartials_5 : decode b_MO_dropPartials 5 = .ok (.return_, 1) := by decide +kernel
theorem d_MO_takeObjection_0 : decode b_MO_takeObjection 0 = .ok (.aload_n 0, 1) := by decide +kernel
theorem d_MO_takeObjection_1 : decode b_MO_takeObjection 1 = .ok (.dup, 1) := by decide +kernel
theorem d_MO_takeObjection_2 : decode b_MO_takeObjection 2 = .ok (.getfield 33, 3) := by decide +kernel
theorem d_MO_takeObjection_5 : decode b_MO_takeObjection 5 = .ok (.iconst 1, 1) := by decide +kernel
theorem d_MO_takeObjection_6 : decode b_MO_takeObjection 6 = .ok (.iload_n 1, 1) := by decide +kernel
theorem d_MO_takeObjection_7 : decode b_MO_takeObjection 7 = .ok (.ishl, 1) := by decide +kernel
theorem d_MO_takeObjection_8 : decode b_MO_takeObjection 8 = .ok (.ior, 1) := by decide +kernel
theorem d_MO_takeObjection_9 : decode b_MO_takeObjection 9 = .ok (.putfield 33, 3) := by decide +kernel
theorem d_MO_takeObjection_12 : decode b_MO_takeObjection 12 = .ok (.aload_n 0, 1) := by decide +kernel
theorem d_MO_takeObjection_13 : decode b_MO_takeObjection 13 = .ok (.getfield 33, 3) := by decide +kernel
theorem d_MO_takeObjection_16 : decode b_MO_takeObjection 16 = .ok (.invokestatic 39, 3) := by decide +kernel
theorem d_MO_takeObjection_19 : decode b_MO_takeObjection 19 = .ok (.iconst 3, 1) := by decide +kernel
theorem d_MO_takeObjection_20 : decode b_MO_takeObjection 20 = .ok (.if_icmp .lt 8, 3) := by decide +kernel
theorem d_MO_takeObjection_23 : decode b_MO_takeObjection 23 = .ok (.aload_n 0, 1) := by decide +kernel
theorem d_MO_takeObjection_24 : decode b_MO_takeObjection 24 = .ok (.iconst 2, 1) := by decide +kernel
theorem d_MO_takeObjection_25 : decode b_MO_takeObjection 25 = .ok (.putfield 22, 3) := by decide +kernel
theorem d_MO_takeObjection_28 : decode b_MO_takeObjection 28 = .ok (.return_, 1) := by decide +kernel
theorem d_MO_seal_0 : decode b_MO_seal 0 = .ok (.aload_n 0, 1) := by decide +kernel
theorem d_MO_seal_1 : decode b_MO_seal 1 = .ok (.lload_n 1, 1) := by decide +kernel
theorem d_MO_seal_2 : decode b_MO_seal 2 = .ok (.putfield 36, 3) := by decide +kernel
theorem d_MO_seal_5 : decode b_MO_seal 5 = .ok (.aload_n 0, 1) := by decide +kernel
theorem d_MO_seal_6 : decode b_MO_seal 6 = .ok (.iconst 1, 1) := by decide +kernel
theorem d_MO_seal_7 : decode b_MO_seal 7 = .ok (.putfield 22, 3) := by decide +kernel
theorem d_MO_seal_10 : decode b_MO_seal 10 = .ok (.return_, 1) := by decide +kernel
end
section
/-! decode rows -/
theorem d_KE_init_0 : decode b_KE_init 0 = .ok (.aload_n 0, 1) := by decide +kernel
theorem d_KE_init_1 : decode b_KE_init 1 = .ok (.invokespecial 3, 3) := by decide +kernel
theorem d_KE_init_4 : decode b_KE_init 4 = .ok (.aload_n 0, 1) := by decide +kernel
theorem d_KE_init_5 : decode b_KE_init 5 = .ok (.bipush 6, 2) := by decide +kernel
theorem d_KE_init_7 : decode b_KE_init 7 = .ok (.newarray .long, 2) := by decide +kernel
theorem d_KE_init_9 : decode b_KE_init 9 = .ok (.putfield 9, 3) := by decide +kernel
theorem d_KE_init_12 : decode b_KE_init 12 = .ok (.aload_n 0, 1) := by decide +kernel
theorem d_KE_init_13 : decode b_KE_init 13 = .ok (.bipush 6, 2) := by decide +kernel
theorem d_KE_init_15 : decode b_KE_init 15 = .ok (.newarray .long, 2) := by decide +kernel
theorem d_KE_init_17 : decode b_KE_init 17 = .ok (.putfield 15, 3) := by decide +kernel
theorem d_KE_init_20 : decode b_KE_init 20 = .ok (.return_, 1) := by decide +kernel
theorem d_KE_begin_0 : decode b_KE_begin 0 = .ok (.aload_n 0, 1) := by decide +kernel
theorem d_KE_begin_1 : decode b_KE_begin 1 = .ok (.lload_n 1, 1) := by decide +kernel
theorem d_KE_begin_2 : decode b_KE_begin 2 = .ok (.putfield 18, 3) := by decide +kernel
theorem d_KE_begin_5 : decode b_KE_begin 5 = .ok (.aload_n 0, 1) := by decide +kernel
theorem d_KE_begin_6 : decode b_KE_begin 6 = .ok (.lload_n 3, 1) := by decide +kernel
theorem d_KE_begin_7 : decode b_KE_begin 7 = .ok (.putfield 22, 3) := by decide +kernel
theorem d_KE_begin_10 : decode b_KE_begin 10 = .ok (.aload_n 0, 1) := by decide +kernel
theorem d_KE_begin_11 : decode b_KE_begin 11 = .ok (.aload_n 0, 1) := by decide +kernel
theorem d_KE_begin_12 : decode b_KE_begin 12 = .ok (.getfield 18, 3) := by decide +kernel
theorem d_KE_begin_15 : decode b_KE_begin 15 = .ok (.aload_n 0, 1) := by decide +kernel
theorem d_KE_begin_16 : decode b_KE_begin 16 = .ok (.getfield 22, 3) := by decide +kernel
theorem d_KE_begin_19 : decode b_KE_begin 19 = .ok (.lmul, 1) := by decide +kernel
theorem d_KE_begin_20 : decode b_KE_begin 20 = .ok (.putfield 25, 3) := by decide +kernel
theorem d_KE_begin_23 : decode b_KE_begin 23 = .ok (.aload_n 0, 1) := by decide +kernel
theorem d_KE_begin_24 : decode b_KE_begin 24 = .ok (.getfield 18, 3) := by decide +kernel
theorem d_KE_begin_27 : decode b_KE_begin 27 = .ok (.lconst 1, 1) := by decide +kernel
theorem d_KE_begin_28 : decode b_KE_begin 28 = .ok (.lsub, 1) := by decide +kernel
theorem d_KE_begin_29 : decode b_KE_begin 29 = .ok (.ldc2_w 28, 3) := by decide +kernel
theorem d_KE_begin_32 : decode b_KE_begin 32 = .ok (.ldiv, 1) := by decide +kernel
theorem d_KE_begin_33 : decode b_KE_begin 33 = .ok (.lstore 7, 2) := by decide +kernel
theorem d_KE_begin_35 : decode b_KE_begin 35 = .ok (.aload_n 0, 1) := by decide +kernel
theorem d_KE_begin_36 : decode b_KE_begin 36 = .ok (.getfield 22, 3) := by decide +kernel
theorem d_KE_begin_39 : decode b_KE_begin 39 = .ok (.lconst 1, 1) := by decide +kernel
theorem d_KE_begin_40 : decode b_KE_begin 40 = .ok (.lsub, 1) := by decide +kernel
theorem d_KE_begin_41 : decode b_KE_begin 41 = .ok (.ldc2_w 28, 3) := by decide +kernel
theorem d_KE_begin_44 : decode b_KE_begin 44 = .ok (.ldiv, 1) := by decide +kernel
theorem d_KE_begin_45 : decode b_KE_begin 45 = .ok (.lstore 9, 2) := by decide +kernel
theorem d_KE_begin_47 : decode b_KE_begin 47 = .ok (.aload_n 0, 1) := by decide +kernel
theorem d_KE_begin_48 : decode b_KE_begin 48 = .ok (.lload 7, 2) := by decide +kernel
theorem d_KE_begin_50 : decode b_KE_begin 50 = .ok (.lload 9, 2) := by decide +kernel
theorem d_KE_begin_52 : decode b_KE_begin 52 = .ok (.lmul, 1) := by decide +kernel
theorem d_KE_begin_53 : decode b_KE_begin 53 = .ok (.putfield 30, 3) := by decide +kernel
theorem d_KE_begin_56 : decode b_KE_begin 56 = .ok (.aload_n 0, 1) := by decide +kernel
theorem d_KE_begin_57 : decode b_KE_begin 57 = .ok (.ldc2_w 33, 3) := by decide +kernel
theorem d_KE_begin_60 : decode b_KE_begin 60 = .ok (.lload 7, 2) := by decide +kernel
theorem d_KE_begin_62 : decode b_KE_begin 62 = .ok (.lconst 1, 1) := by decide +kernel
theorem d_KE_begin_63 : decode b_KE_begin 63 = .ok (.lsub, 1) := by decide +kernel
theorem d_KE_begin_64 : decode b_KE_begin 64 = .ok (.lload 9, 2) := by decide +kernel
theorem d_KE_begin_66 : decode b_KE_begin 66 = .ok (.lconst 1, 1) := by decide +kernel
theorem d_KE_begin_67 : decode b_KE_begin 67 = .ok (.lsub, 1) := by decide +kernel
theorem d_KE_begin_68 : decode b_KE_begin 68 = .ok (.lmul, 1) := by decide +kernel
theorem d_KE_begin_69 : decode b_KE_begin 69 = .ok (.lconst 1, 1) := by decide +kernel
theorem d_KE_begin_70 : decode b_KE_begin 70 = .ok (.lsub, 1) := by decide +kernel
theorem d_KE_begin_71 : decode b_KE_begin 71 = .ok (.ldc2_w 28, 3) := by decide +kernel
theorem d_KE_begin_74 : decode b_KE_begin 74 = .ok (.aload_n 0, 1) := by decide +kernel
theorem d_KE_begin_75 : decode b_KE_begin 75 = .ok (.getfield 30, 3) := by decide +kernel
theorem d_KE_begin_78 : decode b_KE_begin 78 = .ok (.lmul, 1) := by decide +kernel
theorem d_KE_begin_79 : decode b_KE_begin 79 = .ok (.invokestatic 35, 3) := by decide +kernel
theorem d_KE_begin_82 : decode b_KE_begin 82 = .ok (.putfield 39, 3) := by decide +kernel
theorem d_KE_begin_85 : decode b_KE_begin 85 = .ok (.aload_n 0, 1) := by decide +kernel
theorem d_KE_begin_86 : decode b_KE_begin 86 = .ok (.aload_n 0, 1) := by decide +kernel
theorem d_KE_begin_87 : decode b_KE_begin 87 = .ok (.getfield 39, 3) := by decide +kernel
theorem d_KE_begin_90 : decode b_KE_begin 90 = .ok (.aload_n 0, 1) := by decide +kernel
theorem d_KE_begin_91 : decode b_KE_begin 91 = .ok (.getfield 30, 3) := by decide +kernel
theorem d_KE_begin_94 : decode b_KE_begin 94 = .ok (.invokestatic 42, 3) := by decide +kernel
theorem d_KE_begin_97 : decode b_KE_begin 97 = .ok (.putfield 46, 3) := by decide +kernel
theorem d_KE_begin_100 : decode b_KE_begin 100 = .ok (.aload_n 0, 1) := by decide +kernel
theorem d_KE_begin_101 : decode b_KE_begin 101 = .ok (.lload 5, 2) := by decide +kernel
theorem d_KE_begin_103 : decode b_KE_begin 103 = .ok (.lload 5, 2) := by decide +kernel
theorem d_KE_begin_105 : decode b_KE_begin 105 = .ok (.lmul, 1) := by decide +kernel
theorem d_KE_begin_106 : decode b_KE_begin 106 = .ok (.aload_n 0, 1) := by decide +kernel
theorem d_KE_begin_107 : decode b_KE_begin 107 = .ok (.getfield 25, 3) := by decide +kernel
theorem d_KE_begin_110 : decode b_KE_begin 110 = .ok (.invokestatic 42, 3) := by decide +kernel
theorem d_KE_begin_113 : decode b_KE_begin 113 = .ok (.putfield 49, 3) := by decide +kernel
theorem d_KE_begin_116 : decode b_KE_begin 116 = .ok (.aload_n 0, 1) := by decide +kernel
theorem d_KE_begin_117 : decode b_KE_begin 117 = .ok (.lconst 0, 1) := by decide +kernel
theorem d_KE_begin_118 : decode b_KE_begin 118 = .ok (.putfield 52, 3) := by decide +kernel
theorem d_KE_begin_121 : decode b_KE_begin 121 = .ok (.aload_n 0, 1) := by decide +kernel
theorem d_KE_begin_122 : decode b_KE_begin 122 = .ok (.iconst 1, 1) := by decide +kernel
theorem d_KE_begin_123 : decode b_KE_begin 123 = .ok (.putfield 55, 3) := by decide +kernel
theorem d_KE_begin_126 : decode b_KE_begin 126 = .ok (.iconst 0, 1) := by decide +kernel
theorem d_KE_begin_127 : decode b_KE_begin 127 = .ok (.istore 11, 2) := by decide +kernel
theorem d_KE_begin_129 : decode b_KE_begin 129 = .ok (.iload 11, 2) := by decide +kernel
theorem d_KE_begin_131 : decode b_KE_begin 131 = .ok (.bipush 6, 2) := by decide +kernel
theorem d_KE_begin_133 : decode b_KE_begin 133 = .ok (.if_icmp .ge 20, 3) := by decide +kernel
theorem d_KE_begin_136 : decode b_KE_begin 136 = .ok (.aload_n 0, 1) := by decide +kernel
theorem d_KE_begin_137 : decode b_KE_begin 137 = .ok (.getfield 9, 3) := by decide +kernel
theorem d_KE_begin_140 : decode b_KE_begin 140 = .ok (.iload 11, 2) := by decide +kernel
theorem d_KE_begin_142 : decode b_KE_begin 142 = .ok (.aload_n 0, 1) := by decide +kernel
theorem d_KE_begin_143 : decode b_KE_begin 143 = .ok (.getfield 46, 3) := by decide +kernel
theorem d_KE_begin_146 : decode b_KE_begin 146 = .ok (.lastore, 1) := by decide +kernel
theorem d_KE_begin_147 : decode b_KE_begin 147 = .ok (.iinc 11 1, 3) := by decide +kernel
theorem d_KE_begin_150 : decode b_KE_begin 150 = .ok (.goto (-21), 3) := by decide +kernel
theorem d_KE_begin_153 : decode b_KE_begin 153 = .ok (.return_, 1) := by decide +kernel
theorem d_KE_addPolynomial_0 : decode b_KE_addPolynomial 0 = .ok (.iconst 0, 1) := by decide +kernel
theorem d_KE_addPolynomial_1 : decode b_KE_addPolynomial 1 = .ok (.istore 5, 2) := by decide +kernel
theorem d_KE_addPolynomial_3 : decode b_KE_addPolynomial 3 = .ok (.iload 5, 2) := by decide +kernel
theorem d_KE_addPolynomial_5 : decode b_KE_addPolynomial 5 = .ok (.bipush 6, 2) := by decide +kernel
theorem d_KE_addPolynomial_7 : decode b_KE_addPolynomial 7 = .ok (.if_icmp .ge 72, 3) := by decide +kernel
theorem d_KE_addPolynomial_10 : decode b_KE_addPolynomial 10 = .ok (.iload 5, 2) := by decide +kernel
theorem d_KE_addPolynomial_12 : decode b_KE_addPolynomial 12 = .ok (.iconst 1, 1) := by decide +kernel
theorem d_KE_addPolynomial_13 : decode b_KE_addPolynomial 13 = .ok (.iadd, 1) := by decide +kernel
theorem d_KE_addPolynomial_14 : decode b_KE_addPolynomial 14 = .ok (.i2l, 1) := by decide +kernel
theorem d_KE_addPolynomial_15 : decode b_KE_addPolynomial 15 = .ok (.lstore 6, 2) := by decide +kernel
theorem d_KE_addPolynomial_17 : decode b_KE_addPolynomial 17 = .ok (.aload_n 0, 1) := by decide +kernel
theorem d_KE_addPolynomial_18 : decode b_KE_addPolynomial 18 = .ok (.getfield 9, 3) := by decide +kernel
theorem d_KE_addPolynomial_21 : decode b_KE_addPolynomial 21 = .ok (.iload 5, 2) := by decide +kernel
theorem d_KE_addPolynomial_23 : decode b_KE_addPolynomial 23 = .ok (.aload_n 0, 1) := by decide +kernel
theorem d_KE_addPolynomial_24 : decode b_KE_addPolynomial 24 = .ok (.getfield 9, 3) := by decide +kernel
theorem d_KE_addPolynomial_27 : decode b_KE_addPolynomial 27 = .ok (.iload 5, 2) := by decide +kernel
theorem d_KE_addPolynomial_29 : decode b_KE_addPolynomial 29 = .ok (.laload, 1) := by decide +kernel
theorem d_KE_addPolynomial_30 : decode b_KE_addPolynomial 30 = .ok (.lload_n 1, 1) := by decide +kernel
theorem d_KE_addPolynomial_31 : decode b_KE_addPolynomial 31 = .ok (.lload 6, 2) := by decide +kernel
theorem d_KE_addPolynomial_33 : decode b_KE_addPolynomial 33 = .ok (.lmul, 1) := by decide +kernel
theorem d_KE_addPolynomial_34 : decode b_KE_addPolynomial 34 = .ok (.ladd, 1) := by decide +kernel
theorem d_KE_addPolynomial_35 : decode b_KE_addPolynomial 35 = .ok (.lload_n 3, 1) := by decide +kernel
theorem d_KE_addPolynomial_36 : decode b_KE_addPolynomial 36 = .ok (.lload 6, 2) := by decide +kernel
theorem d_KE_addPolynomial_38 : decode b_KE_addPolynomial 38 = .ok (.lmul, 1) := by decide +kernel
theorem d_KE_addPolynomial_39 : decode b_KE_addPolynomial 39 = .ok (.lload 6, 2) := by decide +kernel
theorem d_KE_addPolynomial_41 : decode b_KE_addPolynomial 41 = .ok (.lmul, 1) := by decide +kernel
theorem d_KE_addPolynomial_42 : decode b_KE_addPolynomial 42 = .ok (.ladd, 1) := by decide +kernel
theorem d_KE_addPolynomial_43 : decode b_KE_addPolynomial 43 = .ok (.aload_n 0, 1) := by decide +kernel
theorem d_KE_addPolynomial_44 : decode b_KE_addPolynomial 44 = .ok (.getfield 30, 3) := by decide +kernel
theorem d_KE_addPolynomial_47 : decode b_KE_addPolynomial 47 = .ok (.invokestatic 42, 3) := by decide +kernel
theorem d_KE_addPolynomial_50 : decode b_KE_addPolynomial 50 = .ok (.lastore, 1) := by decide +kernel
theorem d_KE_addPolynomial_51 : decode b_KE_addPolynomial 51 = .ok (.aload_n 0, 1) := by decide +kernel
theorem d_KE_addPolynomial_52 : decode b_KE_addPolynomial 52 = .ok (.getfield 15, 3) := by decide +kernel
theorem d_KE_addPolynomial_55 : decode b_KE_addPolynomial 55 = .ok (.iload 5, 2) := by decide +kernel
theorem d_KE_addPolynomial_57 : decode b_KE_addPolynomial 57 = .ok (.aload_n 0, 1) := by decide +kernel
theorem d_KE_addPolynomial_58 : decode b_KE_addPolynomial 58 = .ok (.aload_n 0, 1) := by decide +kernel
theorem d_KE_addPolynomial_59 : decode b_KE_addPolynomial 59 = .ok (.getfield 49, 3) := by decide +kernel
theorem d_KE_addPolynomial_62 : decode b_KE_addPolynomial 62 = .ok (.aload_n 0, 1) := by decide +kernel
theorem d_KE_addPolynomial_63 : decode b_KE_addPolynomial 63 = .ok (.getfield 9, 3) := by decide +kernel
theorem d_KE_addPolynomial_66 : decode b_KE_addPolynomial 66 = .ok (.iload 5, 2) := by decide +kernel
theorem d_KE_addPolynomial_68 : decode b_KE_addPolynomial 68 = .ok (.laload, 1) := by decide +kernel
theorem d_KE_addPolynomial_69 : decode b_KE_addPolynomial 69 = .ok (.invokevirtual 59, 3) := by decide +kernel
theorem d_KE_addPolynomial_72 : decode b_KE_addPolynomial 72 = .ok (.lastore, 1) := by decide +kernel
theorem d_KE_addPolynomial_73 : decode b_KE_addPolynomial 73 = .ok (.iinc 5 1, 3) := by decide +kernel
theorem d_KE_addPolynomial_76 : decode b_KE_addPolynomial 76 = .ok (.goto (-73), 3) := by decide +kernel
theorem d_KE_addPolynomial_79 : decode b_KE_addPolynomial 79 = .ok (.return_, 1) := by decide +kernel
theorem d_KE_isPrimeToModulus_0 : decode b_KE_isPrimeToModulus 0 = .ok (.lload_n 1, 1) := by decide +kernel
theorem d_KE_isPrimeToModulus_1 : decode b_KE_isPrimeToModulus 1 = .ok (.aload_n 0, 1) := by decide +kernel
theorem d_KE_isPrimeToModulus_2 : decode b_KE_isPrimeToModulus 2 = .ok (.getfield 18, 3) := by decide +kernel
theorem d_KE_isPrimeToModulus_5 : decode b_KE_isPrimeToModulus 5 = .ok (.invokestatic 42, 3) := by decide +kernel
theorem d_KE_isPrimeToModulus_8 : decode b_KE_isPrimeToModulus 8 = .ok (.lconst 0, 1) := by decide +kernel
theorem d_KE_isPrimeToModulus_9 : decode b_KE_isPrimeToModulus 9 = .ok (.lcmp, 1) := by decide +kernel
theorem d_KE_isPrimeToModulus_10 : decode b_KE_isPrimeToModulus 10 = .ok (.ifCond .eq 20, 3) := by decide +kernel
theorem d_KE_isPrimeToModulus_13 : decode b_KE_isPrimeToModulus 13 = .ok (.lload_n 1, 1) := by decide +kernel
theorem d_KE_isPrimeToModulus_14 : decode b_KE_isPrimeToModulus 14 = .ok (.aload_n 0, 1) := by decide +kernel
theorem d_KE_isPrimeToModulus_15 : decode b_KE_isPrimeToModulus 15 = .ok (.getfield 22, 3) := by decide +kernel
theorem d_KE_isPrimeToModulus_18 : decode b_KE_isPrimeToModulus 18 = .ok (.invokestatic 42, 3) := by decide +kernel
theorem d_KE_isPrimeToModulus_21 : decode b_KE_isPrimeToModulus 21 = .ok (.lconst 0, 1) := by decide +kernel
theorem d_KE_isPrimeToModulus_22 : decode b_KE_isPrimeToModulus 22 = .ok (.lcmp, 1) := by decide +kernel
theorem d_KE_isPrimeToModulus_23 : decode b_KE_isPrimeToModulus 23 = .ok (.ifCond .eq 7, 3) := by decide +kernel
theorem d_KE_isPrimeToModulus_26 : decode b_KE_isPrimeToModulus 26 = .ok (.iconst 1, 1) := by decide +kernel
theorem d_KE_isPrimeToModulus_27 : decode b_KE_isPrimeToModulus 27 = .ok (.goto 4, 3) := by decide +kernel
theorem d_KE_isPrimeToModulus_30 : decode b_KE_isPrimeToModulus 30 = .ok (.iconst 0, 1) := by decide +kernel
theorem d_KE_isPrimeToModulus_31 : decode b_KE_isPrimeToModulus 31 = .ok (.ireturn, 1) := by decide +kernel
theorem d_KE_blockOf_0 : decode b_KE_blockOf 0 = .ok (.ldc2_w 28, 3) := by decide +kernel
theorem d_KE_blockOf_3 : decode b_KE_blockOf 3 = .ok (.aload_n 1, 1) := by decide +kernel
theorem d_KE_blockOf_4 : decode b_KE_blockOf 4 = .ok (.invokevirtual 62, 3) := by decide +kernel
theorem d_KE_blockOf_7 : decode b_KE_blockOf 7 = .ok (.aload_n 0, 1) := by decide +kernel
theorem d_KE_blockOf_8 : decode b_KE_blockOf 8 = .ok (.getfield 25, 3) := by decide +kernel
theorem d_KE_blockOf_11 : decode b_KE_blockOf 11 = .ok (.ldc2_w 68, 3) := by decide +kernel
theorem d_KE_blockOf_14 : decode b_KE_blockOf 14 = .ok (.lsub, 1) := by decide +kernel
theorem d_KE_blockOf_15 : decode b_KE_blockOf 15 = .ok (.invokestatic 42, 3) := by decide +kernel
theorem d_KE_blockOf_18 : decode b_KE_blockOf 18 = .ok (.ladd, 1) := by decide +kernel
theorem d_KE_blockOf_19 : decode b_KE_blockOf 19 = .ok (.lreturn, 1) := by decide +kernel
theorem d_KE_signatureOf_0 : decode b_KE_signatureOf 0 = .ok (.aload_n 0, 1) := by decide +kernel
theorem d_KE_signatureOf_1 : decode b_KE_signatureOf 1 = .ok (.lload_n 1, 1) := by decide +kernel
theorem d_KE_signatureOf_2 : decode b_KE_signatureOf 2 = .ok (.aload_n 0, 1) := by decide +kernel
theorem d_KE_signatureOf_3 : decode b_KE_signatureOf 3 = .ok (.getfield 39, 3) := by decide +kernel
theorem d_KE_signatureOf_6 : decode b_KE_signatureOf 6 = .ok (.invokevirtual 59, 3) := by decide +kernel
theorem d_KE_signatureOf_9 : decode b_KE_signatureOf 9 = .ok (.lreturn, 1) := by decide +kernel
theorem d_KE_isSignature_0 : decode b_KE_isSignature 0 = .ok (.aload_n 0, 1) := by decide +kernel
theorem d_KE_isSignature_1 : decode b_KE_isSignature 1 = .ok (.lload_n 1, 1) := by decide +kernel
theorem d_KE_isSignature_2 : decode b_KE_isSignature 2 = .ok (.invokevirtual 70, 3) := by decide +kernel
theorem d_KE_isSignature_5 : decode b_KE_isSignature 5 = .ok (.ifCond .eq 20, 3) := by decide +kernel
theorem d_KE_isSignature_8 : decode b_KE_isSignature 8 = .ok (.aload_n 0, 1) := by decide +kernel
theorem d_KE_isSignature_9 : decode b_KE_isSignature 9 = .ok (.lload_n 1, 1) := by decide +kernel
theorem d_KE_isSignature_10 : decode b_KE_isSignature 10 = .ok (.ldc2_w 33, 3) := by decide +kernel
theorem d_KE_isSignature_13 : decode b_KE_isSignature 13 = .ok (.invokevirtual 59, 3) := by decide +kernel
theorem d_KE_isSignature_16 : decode b_KE_isSignature 16 = .ok (.lload_n 3, 1) := by decide +kernel
theorem d_KE_isSignature_17 : decode b_KE_isSignature 17 = .ok (.lcmp, 1) := by decide +kernel
theorem d_KE_isSignature_18 : decode b_KE_isSignature 18 = .ok (.ifCond .ne 7, 3) := by decide +kernel
theorem d_KE_isSignature_21 : decode b_KE_isSignature 21 = .ok (.iconst 1, 1) := by decide +kernel
theorem d_KE_isSignature_22 : decode b_KE_isSignature 22 = .ok (.goto 4, 3) := by decide +kernel
theorem d_KE_isSignature_25 : decode b_KE_isSignature 25 = .ok (.iconst 0, 1) := by decide +kernel
theorem d_KE_isSignature_26 : decode b_KE_isSignature 26 = .ok (.ireturn, 1) := by decide +kernel
theorem d_KE_makePartial_0 : decode b_KE_makePartial 0 = .ok (.aload_n 0, 1) := by decide +kernel
theorem d_KE_makePartial_1 : decode b_KE_makePartial 1 = .ok (.getfield 9, 3) := by decide +kernel
theorem d_KE_makePartial_4 : decode b_KE_makePartial 4 = .ok (.iload_n 2, 1) := by decide +kernel
theorem d_KE_makePartial_5 : decode b_KE_makePartial 5 = .ok (.laload, 1) := by decide +kernel
theorem d_KE_makePartial_6 : decode b_KE_makePartial 6 = .ok (.lstore_n 3, 1) := by decide +kernel
theorem d_KE_makePartial_7 : decode b_KE_makePartial 7 = .ok (.aload_n 1, 1) := by decide +kernel
theorem d_KE_makePartial_8 : decode b_KE_makePartial 8 = .ok (.getfield 74, 3) := by decide +kernel
theorem d_KE_makePartial_11 : decode b_KE_makePartial 11 = .ok (.lstore 5, 2) := by decide +kernel
theorem d_KE_makePartial_13 : decode b_KE_makePartial 13 = .ok (.ldc2_w 79, 3) := by decide +kernel
theorem d_KE_makePartial_16 : decode b_KE_makePartial 16 = .ok (.lload_n 3, 1) := by decide +kernel
theorem d_KE_makePartial_17 : decode b_KE_makePartial 17 = .ok (.invokestatic 81, 3) := by decide +kernel
theorem d_KE_makePartial_20 : decode b_KE_makePartial 20 = .ok (.lload 5, 2) := by decide +kernel
theorem d_KE_makePartial_22 : decode b_KE_makePartial 22 = .ok (.invokestatic 81, 3) := by decide +kernel
theorem d_KE_makePartial_25 : decode b_KE_makePartial 25 = .ok (.aload_n 0, 1) := by decide +kernel
theorem d_KE_makePartial_26 : decode b_KE_makePartial 26 = .ok (.getfield 52, 3) := by decide +kernel
theorem d_KE_makePartial_29 : decode b_KE_makePartial 29 = .ok (.invokestatic 81, 3) := by decide +kernel
theorem d_KE_makePartial_32 : decode b_KE_makePartial 32 = .ok (.invokestatic 84, 3) := by decide +kernel
theorem d_KE_makePartial_35 : decode b_KE_makePartial 35 = .ok (.lstore 7, 2) := by decide +kernel
theorem d_KE_makePartial_37 : decode b_KE_makePartial 37 = .ok (.aload_n 0, 1) := by decide +kernel
theorem d_KE_makePartial_38 : decode b_KE_makePartial 38 = .ok (.lload 5, 2) := by decide +kernel
theorem d_KE_makePartial_40 : decode b_KE_makePartial 40 = .ok (.ldc2_w 88, 3) := by decide +kernel
theorem d_KE_makePartial_43 : decode b_KE_makePartial 43 = .ok (.lload_n 3, 1) := by decide +kernel
theorem d_KE_makePartial_44 : decode b_KE_makePartial 44 = .ok (.lmul, 1) := by decide +kernel
theorem d_KE_makePartial_45 : decode b_KE_makePartial 45 = .ok (.invokevirtual 59, 3) := by decide +kernel
theorem d_KE_makePartial_48 : decode b_KE_makePartial 48 = .ok (.lstore 9, 2) := by decide +kernel
theorem d_KE_makePartial_50 : decode b_KE_makePartial 50 = .ok (.aload_n 0, 1) := by decide +kernel
theorem d_KE_makePartial_51 : decode b_KE_makePartial 51 = .ok (.lload 5, 2) := by decide +kernel
theorem d_KE_makePartial_53 : decode b_KE_makePartial 53 = .ok (.ldc2_w 90, 3) := by decide +kernel
theorem d_KE_makePartial_56 : decode b_KE_makePartial 56 = .ok (.invokevirtual 59, 3) := by decide +kernel
theorem d_KE_makePartial_59 : decode b_KE_makePartial 59 = .ok (.lstore 11, 2) := by decide +kernel
theorem d_KE_makePartial_61 : decode b_KE_makePartial 61 = .ok (.aload_n 0, 1) := by decide +kernel
theorem d_KE_makePartial_62 : decode b_KE_makePartial 62 = .ok (.iload_n 2, 1) := by decide +kernel
theorem d_KE_makePartial_63 : decode b_KE_makePartial 63 = .ok (.lload 11, 2) := by decide +kernel
theorem d_KE_makePartial_65 : decode b_KE_makePartial 65 = .ok (.aload_n 0, 1) := by decide +kernel
theorem d_KE_makePartial_66 : decode b_KE_makePartial 66 = .ok (.lload 9, 2) := by decide +kernel
theorem d_KE_makePartial_68 : decode b_KE_makePartial 68 = .ok (.lload 9, 2) := by decide +kernel
theorem d_KE_makePartial_70 : decode b_KE_makePartial 70 = .ok (.invokevirtual 92, 3) := by decide +kernel
theorem d_KE_makePartial_73 : decode b_KE_makePartial 73 = .ok (.aload_n 0, 1) := by decide +kernel
theorem d_KE_makePartial_74 : decode b_KE_makePartial 74 = .ok (.aload_n 0, 1) := by decide +kernel
theorem d_KE_makePartial_75 : decode b_KE_makePartial 75 = .ok (.getfield 49, 3) := by decide +kernel
theorem d_KE_makePartial_78 : decode b_KE_makePartial 78 = .ok (.lload 7, 2) := by decide +kernel
theorem d_KE_makePartial_80 : decode b_KE_makePartial 80 = .ok (.invokevirtual 59, 3) := by decide +kernel
theorem d_KE_makePartial_83 : decode b_KE_makePartial 83 = .ok (.aload_n 0, 1) := by decide +kernel
theorem d_KE_makePartial_84 : decode b_KE_makePartial 84 = .ok (.lload 11, 2) := by decide +kernel
theorem d_KE_makePartial_86 : decode b_KE_makePartial 86 = .ok (.lload 7, 2) := by decide +kernel
theorem d_KE_makePartial_88 : decode b_KE_makePartial 88 = .ok (.invokevirtual 59, 3) := by decide +kernel
theorem d_KE_makePartial_91 : decode b_KE_makePartial 91 = .ok (.invokevirtual 95, 3) := by decide +kernel
theorem d_KE_makePartial_94 : decode b_KE_makePartial 94 = .ok (.istore 13, 2) := by decide +kernel
theorem d_KE_makePartial_96 : decode b_KE_makePartial 96 = .ok (.aload_n 1, 1) := by decide +kernel
theorem d_KE_makePartial_97 : decode b_KE_makePartial 97 = .ok (.iload_n 2, 1) := by decide +kernel
theorem d_KE_makePartial_98 : decode b_KE_makePartial 98 = .ok (.lload 9, 2) := by decide +kernel
theorem d_KE_makePartial_100 : decode b_KE_makePartial 100 = .ok (.iload 13, 2) := by decide +kernel
theorem d_KE_makePartial_102 : decode b_KE_makePartial 102 = .ok (.lload_n 3, 1) := by decide +kernel
theorem d_KE_makePartial_103 : decode b_KE_makePartial 103 = .ok (.iload 13, 2) := by decide +kernel
theorem d_KE_makePartial_105 : decode b_KE_makePartial 105 = .ok (.i2l, 1) := by decide +kernel
theorem d_KE_makePartial_106 : decode b_KE_makePartial 106 = .ok (.lmul, 1) := by decide +kernel
theorem d_KE_makePartial_107 : decode b_KE_makePartial 107 = .ok (.lload 7, 2) := by decide +kernel
theorem d_KE_makePartial_109 : decode b_KE_makePartial 109 = .ok (.ladd, 1) := by decide +kernel
theorem d_KE_makePartial_110 : decode b_KE_makePartial 110 = .ok (.invokevirtual 99, 3) := by decide +kernel
theorem d_KE_makePartial_113 : decode b_KE_makePartial 113 = .ok (.return_, 1) := by decide +kernel
theorem d_KE_isGood_0 : decode b_KE_isGood 0 = .ok (.aload_n 1, 1) := by decide +kernel
theorem d_KE_isGood_1 : decode b_KE_isGood 1 = .ok (.getfield 103, 3) := by decide +kernel
theorem d_KE_isGood_4 : decode b_KE_isGood 4 = .ok (.iload_n 2, 1) := by decide +kernel
theorem d_KE_isGood_5 : decode b_KE_isGood 5 = .ok (.laload, 1) := by decide +kernel
theorem d_KE_isGood_6 : decode b_KE_isGood 6 = .ok (.lstore_n 3, 1) := by decide +kernel
theorem d_KE_isGood_7 : decode b_KE_isGood 7 = .ok (.aload_n 1, 1) := by decide +kernel
theorem d_KE_isGood_8 : decode b_KE_isGood 8 = .ok (.getfield 106, 3) := by decide +kernel
theorem d_KE_isGood_11 : decode b_KE_isGood 11 = .ok (.iload_n 2, 1) := by decide +kernel
theorem d_KE_isGood_12 : decode b_KE_isGood 12 = .ok (.iaload, 1) := by decide +kernel
theorem d_KE_isGood_13 : decode b_KE_isGood 13 = .ok (.istore 5, 2) := by decide +kernel
theorem d_KE_isGood_15 : decode b_KE_isGood 15 = .ok (.aload_n 1, 1) := by decide +kernel
theorem d_KE_isGood_16 : decode b_KE_isGood 16 = .ok (.getfield 110, 3) := by decide +kernel
theorem d_KE_isGood_19 : decode b_KE_isGood 19 = .ok (.iload_n 2, 1) := by decide +kernel
theorem d_KE_isGood_20 : decode b_KE_isGood 20 = .ok (.laload, 1) := by decide +kernel
theorem d_KE_isGood_21 : decode b_KE_isGood 21 = .ok (.lstore 6, 2) := by decide +kernel
theorem d_KE_isGood_23 : decode b_KE_isGood 23 = .ok (.aload_n 0, 1) := by decide +kernel
theorem d_KE_isGood_24 : decode b_KE_isGood 24 = .ok (.lload_n 3, 1) := by decide +kernel
theorem d_KE_isGood_25 : decode b_KE_isGood 25 = .ok (.invokevirtual 70, 3) := by decide +kernel
theorem d_KE_isGood_28 : decode b_KE_isGood 28 = .ok (.ifCond .eq 22, 3) := by decide +kernel
theorem d_KE_isGood_31 : decode b_KE_isGood 31 = .ok (.iload 5, 2) := by decide +kernel
theorem d_KE_isGood_33 : decode b_KE_isGood 33 = .ok (.ifCond .lt 17, 3) := by decide +kernel
theorem d_KE_isGood_36 : decode b_KE_isGood 36 = .ok (.iload 5, 2) := by decide +kernel
theorem d_KE_isGood_38 : decode b_KE_isGood 38 = .ok (.ldc 113, 2) := by decide +kernel
theorem d_KE_isGood_40 : decode b_KE_isGood 40 = .ok (.if_icmp .gt 10, 3) := by decide +kernel
theorem d_KE_isGood_43 : decode b_KE_isGood 43 = .ok (.lload 6, 2) := by decide +kernel
theorem d_KE_isGood_45 : decode b_KE_isGood 45 = .ok (.lconst 0, 1) := by decide +kernel
theorem d_KE_isGood_46 : decode b_KE_isGood 46 = .ok (.lcmp, 1) := by decide +kernel
theorem d_KE_isGood_47 : decode b_KE_isGood 47 = .ok (.ifCond .ge 5, 3) := by decide +kernel
theorem d_KE_isGood_50 : decode b_KE_isGood 50 = .ok (.iconst 0, 1) := by decide +kernel
theorem d_KE_isGood_51 : decode b_KE_isGood 51 = .ok (.ireturn, 1) := by decide +kernel
theorem d_KE_isGood_52 : decode b_KE_isGood 52 = .ok (.aload_n 0, 1) := by decide +kernel
theorem d_KE_isGood_53 : decode b_KE_isGood 53 = .ok (.lload_n 3, 1) := by decide +kernel
theorem d_KE_isGood_54 : decode b_KE_isGood 54 = .ok (.invokevirtual 114, 3) := by decide +kernel
theorem d_KE_isGood_57 : decode b_KE_isGood 57 = .ok (.ifCond .eq 14, 3) := by decide +kernel
theorem d_KE_isGood_60 : decode b_KE_isGood 60 = .ok (.aload_n 0, 1) := by decide +kernel
theorem d_KE_isGood_61 : decode b_KE_isGood 61 = .ok (.aload_n 1, 1) := by decide +kernel
theorem d_KE_isGood_62 : decode b_KE_isGood 62 = .ok (.getfield 74, 3) := by decide +kernel
theorem d_KE_isGood_65 : decode b_KE_isGood 65 = .ok (.invokevirtual 114, 3) := by decide +kernel
theorem d_KE_isGood_68 : decode b_KE_isGood 68 = .ok (.ifCond .ne 5, 3) := by decide +kernel
theorem d_KE_isGood_71 : decode b_KE_isGood 71 = .ok (.iconst 0, 1) := by decide +kernel
theorem d_KE_isGood_72 : decode b_KE_isGood 72 = .ok (.ireturn, 1) := by decide +kernel
theorem d_KE_isGood_73 : decode b_KE_isGood 73 = .ok (.aload_n 0, 1) := by decide +kernel
theorem d_KE_isGood_74 : decode b_KE_isGood 74 = .ok (.aload_n 1, 1) := by decide +kernel
theorem d_KE_isGood_75 : decode b_KE_isGood 75 = .ok (.getfield 74, 3) := by decide +kernel
theorem d_KE_isGood_78 : decode b_KE_isGood 78 = .ok (.ldc2_w 90, 3) := by decide +kernel
theorem d_KE_isGood_81 : decode b_KE_isGood 81 = .ok (.invokevirtual 59, 3) := by decide +kernel
theorem d_KE_isGood_84 : decode b_KE_isGood 84 = .ok (.lstore 8, 2) := by decide +kernel
theorem d_KE_isGood_86 : decode b_KE_isGood 86 = .ok (.aload_n 0, 1) := by decide +kernel
theorem d_KE_isGood_87 : decode b_KE_isGood 87 = .ok (.lload_n 3, 1) := by decide +kernel
theorem d_KE_isGood_88 : decode b_KE_isGood 88 = .ok (.lload_n 3, 1) := by decide +kernel
theorem d_KE_isGood_89 : decode b_KE_isGood 89 = .ok (.invokevirtual 92, 3) := by decide +kernel
theorem d_KE_isGood_92 : decode b_KE_isGood 92 = .ok (.lstore 10, 2) := by decide +kernel
theorem d_KE_isGood_94 : decode b_KE_isGood 94 = .ok (.aload_n 0, 1) := by decide +kernel
theorem d_KE_isGood_95 : decode b_KE_isGood 95 = .ok (.aload_n 0, 1) := by decide +kernel
theorem d_KE_isGood_96 : decode b_KE_isGood 96 = .ok (.aload_n 0, 1) := by decide +kernel
theorem d_KE_isGood_97 : decode b_KE_isGood 97 = .ok (.getfield 49, 3) := by decide +kernel
theorem d_KE_isGood_100 : decode b_KE_isGood 100 = .ok (.lload 6, 2) := by decide +kernel
theorem d_KE_isGood_102 : decode b_KE_isGood 102 = .ok (.invokevirtual 59, 3) := by decide +kernel
theorem d_KE_isGood_105 : decode b_KE_isGood 105 = .ok (.aload_n 0, 1) := by decide +kernel
theorem d_KE_isGood_106 : decode b_KE_isGood 106 = .ok (.aload_n 0, 1) := by decide +kernel
theorem d_KE_isGood_107 : decode b_KE_isGood 107 = .ok (.getfield 15, 3) := by decide +kernel
theorem d_KE_isGood_110 : decode b_KE_isGood 110 = .ok (.iload_n 2, 1) := by decide +kernel
theorem d_KE_isGood_111 : decode b_KE_isGood 111 = .ok (.laload, 1) := by decide +kernel
theorem d_KE_isGood_112 : decode b_KE_isGood 112 = .ok (.iload 5, 2) := by decide +kernel
theorem d_KE_isGood_114 : decode b_KE_isGood 114 = .ok (.i2l, 1) := by decide +kernel
theorem d_KE_isGood_115 : decode b_KE_isGood 115 = .ok (.invokevirtual 117, 3) := by decide +kernel
theorem d_KE_isGood_118 : decode b_KE_isGood 118 = .ok (.invokevirtual 92, 3) := by decide +kernel
theorem d_KE_isGood_121 : decode b_KE_isGood 121 = .ok (.lstore 12, 2) := by decide +kernel
theorem d_KE_isGood_123 : decode b_KE_isGood 123 = .ok (.aload_n 0, 1) := by decide +kernel
theorem d_KE_isGood_124 : decode b_KE_isGood 124 = .ok (.aload_n 0, 1) := by decide +kernel
theorem d_KE_isGood_125 : decode b_KE_isGood 125 = .ok (.lload 8, 2) := by decide +kernel
theorem d_KE_isGood_127 : decode b_KE_isGood 127 = .ok (.lload 6, 2) := by decide +kernel
theorem d_KE_isGood_129 : decode b_KE_isGood 129 = .ok (.invokevirtual 59, 3) := by decide +kernel
theorem d_KE_isGood_132 : decode b_KE_isGood 132 = .ok (.aload_n 0, 1) := by decide +kernel
theorem d_KE_isGood_133 : decode b_KE_isGood 133 = .ok (.lload 10, 2) := by decide +kernel
theorem d_KE_isGood_135 : decode b_KE_isGood 135 = .ok (.iload 5, 2) := by decide +kernel
theorem d_KE_isGood_137 : decode b_KE_isGood 137 = .ok (.i2l, 1) := by decide +kernel
theorem d_KE_isGood_138 : decode b_KE_isGood 138 = .ok (.invokevirtual 117, 3) := by decide +kernel
theorem d_KE_isGood_141 : decode b_KE_isGood 141 = .ok (.invokevirtual 92, 3) := by decide +kernel
theorem d_KE_isGood_144 : decode b_KE_isGood 144 = .ok (.lstore 14, 2) := by decide +kernel
theorem d_KE_isGood_146 : decode b_KE_isGood 146 = .ok (.aload_n 0, 1) := by decide +kernel
theorem d_KE_isGood_147 : decode b_KE_isGood 147 = .ok (.iload_n 2, 1) := by decide +kernel
theorem d_KE_isGood_148 : decode b_KE_isGood 148 = .ok (.lload 8, 2) := by decide +kernel
theorem d_KE_isGood_150 : decode b_KE_isGood 150 = .ok (.lload 10, 2) := by decide +kernel
theorem d_KE_isGood_152 : decode b_KE_isGood 152 = .ok (.lload 12, 2) := by decide +kernel
theorem d_KE_isGood_154 : decode b_KE_isGood 154 = .ok (.lload 14, 2) := by decide +kernel
theorem d_KE_isGood_156 : decode b_KE_isGood 156 = .ok (.invokevirtual 95, 3) := by decide +kernel
theorem d_KE_isGood_159 : decode b_KE_isGood 159 = .ok (.iload 5, 2) := by decide +kernel
theorem d_KE_isGood_161 : decode b_KE_isGood 161 = .ok (.if_icmp .ne 7, 3) := by decide +kernel
theorem d_KE_isGood_164 : decode b_KE_isGood 164 = .ok (.iconst 1, 1) := by decide +kernel
theorem d_KE_isGood_165 : decode b_KE_isGood 165 = .ok (.goto 4, 3) := by decide +kernel
theorem d_KE_isGood_168 : decode b_KE_isGood 168 = .ok (.iconst 0, 1) := by decide +kernel
theorem d_KE_isGood_169 : decode b_KE_isGood 169 = .ok (.ireturn, 1) := by decide +kernel
theorem d_KE_challenge_0 : decode b_KE_challenge 0 = .ok (.ldc2_w 79, 3) := by decide +kernel
theorem d_KE_challenge_3 : decode b_KE_challenge 3 = .ok (.aload_n 0, 1) := by decide +kernel
theorem d_KE_challenge_4 : decode b_KE_challenge 4 = .ok (.getfield 49, 3) := by decide +kernel
theorem d_KE_challenge_7 : decode b_KE_challenge 7 = .ok (.invokestatic 81, 3) := by decide +kernel
theorem d_KE_challenge_10 : decode b_KE_challenge 10 = .ok (.lload_n 2, 1) := by decide +kernel
theorem d_KE_challenge_11 : decode b_KE_challenge 11 = .ok (.invokestatic 81, 3) := by decide +kernel
theorem d_KE_challenge_14 : decode b_KE_challenge 14 = .ok (.aload_n 0, 1) := by decide +kernel
theorem d_KE_challenge_15 : decode b_KE_challenge 15 = .ok (.getfield 15, 3) := by decide +kernel
theorem d_KE_challenge_18 : decode b_KE_challenge 18 = .ok (.iload_n 1, 1) := by decide +kernel
theorem d_KE_challenge_19 : decode b_KE_challenge 19 = .ok (.laload, 1) := by decide +kernel
theorem d_KE_challenge_20 : decode b_KE_challenge 20 = .ok (.invokestatic 81, 3) := by decide +kernel
theorem d_KE_challenge_23 : decode b_KE_challenge 23 = .ok (.lstore 10, 2) := by decide +kernel
theorem d_KE_challenge_25 : decode b_KE_challenge 25 = .ok (.lload 10, 2) := by decide +kernel
theorem d_KE_challenge_27 : decode b_KE_challenge 27 = .ok (.lload 4, 2) := by decide +kernel
theorem d_KE_challenge_29 : decode b_KE_challenge 29 = .ok (.invokestatic 81, 3) := by decide +kernel
theorem d_KE_challenge_32 : decode b_KE_challenge 32 = .ok (.lload 6, 2) := by decide +kernel
theorem d_KE_challenge_34 : decode b_KE_challenge 34 = .ok (.invokestatic 81, 3) := by decide +kernel
theorem d_KE_challenge_37 : decode b_KE_challenge 37 = .ok (.lload 8, 2) := by decide +kernel
theorem d_KE_challenge_39 : decode b_KE_challenge 39 = .ok (.invokestatic 81, 3) := by decide +kernel
theorem d_KE_challenge_42 : decode b_KE_challenge 42 = .ok (.lstore 10, 2) := by decide +kernel
theorem d_KE_challenge_44 : decode b_KE_challenge 44 = .ok (.lload 10, 2) := by decide +kernel
theorem d_KE_challenge_46 : decode b_KE_challenge 46 = .ok (.invokestatic 84, 3) := by decide +kernel
theorem d_KE_challenge_49 : decode b_KE_challenge 49 = .ok (.bipush 15, 2) := by decide +kernel
theorem d_KE_challenge_51 : decode b_KE_challenge 51 = .ok (.lushr, 1) := by decide +kernel
theorem d_KE_challenge_52 : decode b_KE_challenge 52 = .ok (.l2i, 1) := by decide +kernel
theorem d_KE_challenge_53 : decode b_KE_challenge 53 = .ok (.ireturn, 1) := by decide +kernel
theorem d_KE_isWholeBy_0 : decode b_KE_isWholeBy 0 = .ok (.lconst 0, 1) := by decide +kernel
theorem d_KE_isWholeBy_1 : decode b_KE_isWholeBy 1 = .ok (.lstore_n 2, 1) := by decide +kernel
theorem d_KE_isWholeBy_2 : decode b_KE_isWholeBy 2 = .ok (.iconst 0, 1) := by decide +kernel
theorem d_KE_isWholeBy_3 : decode b_KE_isWholeBy 3 = .ok (.istore 4, 2) := by decide +kernel
theorem d_KE_isWholeBy_5 : decode b_KE_isWholeBy 5 = .ok (.iload 4, 2) := by decide +kernel
theorem d_KE_isWholeBy_7 : decode b_KE_isWholeBy 7 = .ok (.bipush 6, 2) := by decide +kernel
theorem d_KE_isWholeBy_9 : decode b_KE_isWholeBy 9 = .ok (.if_icmp .ge 35, 3) := by decide +kernel
theorem d_KE_isWholeBy_12 : decode b_KE_isWholeBy 12 = .ok (.iload_n 1, 1) := by decide +kernel
theorem d_KE_isWholeBy_13 : decode b_KE_isWholeBy 13 = .ok (.iload 4, 2) := by decide +kernel
theorem d_KE_isWholeBy_15 : decode b_KE_isWholeBy 15 = .ok (.invokestatic 120, 3) := by decide +kernel
theorem d_KE_isWholeBy_18 : decode b_KE_isWholeBy 18 = .ok (.ifCond .eq 20, 3) := by decide +kernel
theorem d_KE_isWholeBy_21 : decode b_KE_isWholeBy 21 = .ok (.lload_n 2, 1) := by decide +kernel
theorem d_KE_isWholeBy_22 : decode b_KE_isWholeBy 22 = .ok (.aload_n 0, 1) := by decide +kernel
theorem d_KE_isWholeBy_23 : decode b_KE_isWholeBy 23 = .ok (.getfield 9, 3) := by decide +kernel
theorem d_KE_isWholeBy_26 : decode b_KE_isWholeBy 26 = .ok (.iload 4, 2) := by decide +kernel
theorem d_KE_isWholeBy_28 : decode b_KE_isWholeBy 28 = .ok (.laload, 1) := by decide +kernel
theorem d_KE_isWholeBy_29 : decode b_KE_isWholeBy 29 = .ok (.iload_n 1, 1) := by decide +kernel
theorem d_KE_isWholeBy_30 : decode b_KE_isWholeBy 30 = .ok (.iload 4, 2) := by decide +kernel
theorem d_KE_isWholeBy_32 : decode b_KE_isWholeBy 32 = .ok (.invokestatic 124, 3) := by decide +kernel
theorem d_KE_isWholeBy_35 : decode b_KE_isWholeBy 35 = .ok (.lmul, 1) := by decide +kernel
theorem d_KE_isWholeBy_36 : decode b_KE_isWholeBy 36 = .ok (.ladd, 1) := by decide +kernel
theorem d_KE_isWholeBy_37 : decode b_KE_isWholeBy 37 = .ok (.lstore_n 2, 1) := by decide +kernel
theorem d_KE_isWholeBy_38 : decode b_KE_isWholeBy 38 = .ok (.iinc 4 1, 3) := by decide +kernel
theorem d_KE_isWholeBy_41 : decode b_KE_isWholeBy 41 = .ok (.goto (-36), 3) := by decide +kernel
theorem d_KE_isWholeBy_44 : decode b_KE_isWholeBy 44 = .ok (.lload_n 2, 1) := by decide +kernel
theorem d_KE_isWholeBy_45 : decode b_KE_isWholeBy 45 = .ok (.aload_n 0, 1) := by decide +kernel
theorem d_KE_isWholeBy_46 : decode b_KE_isWholeBy 46 = .ok (.getfield 30, 3) := by decide +kernel
theorem d_KE_isWholeBy_49 : decode b_KE_isWholeBy 49 = .ok (.invokestatic 42, 3) := by decide +kernel
theorem d_KE_isWholeBy_52 : decode b_KE_isWholeBy 52 = .ok (.ldc2_w 128, 3) := by decide +kernel
theorem d_KE_isWholeBy_55 : decode b_KE_isWholeBy 55 = .ok (.aload_n 0, 1) := by decide +kernel
theorem d_KE_isWholeBy_56 : decode b_KE_isWholeBy 56 = .ok (.getfield 46, 3) := by decide +kernel
theorem d_KE_isWholeBy_59 : decode b_KE_isWholeBy 59 = .ok (.lmul, 1) := by decide +kernel
theorem d_KE_isWholeBy_60 : decode b_KE_isWholeBy 60 = .ok (.aload_n 0, 1) := by decide +kernel
theorem d_KE_isWholeBy_61 : decode b_KE_isWholeBy 61 = .ok (.getfield 30, 3) := by decide +kernel
theorem d_KE_isWholeBy_64 : decode b_KE_isWholeBy 64 = .ok (.invokestatic 42, 3) := by decide +kernel
theorem d_KE_isWholeBy_67 : decode b_KE_isWholeBy 67 = .ok (.lcmp, 1) := by decide +kernel
theorem d_KE_isWholeBy_68 : decode b_KE_isWholeBy 68 = .ok (.ifCond .ne 7, 3) := by decide +kernel
theorem d_KE_isWholeBy_71 : decode b_KE_isWholeBy 71 = .ok (.iconst 1, 1) := by decide +kernel
theorem d_KE_isWholeBy_72 : decode b_KE_isWholeBy 72 = .ok (.goto 4, 3) := by decide +kernel
theorem d_KE_isWholeBy_75 : decode b_KE_isWholeBy 75 = .ok (.iconst 0, 1) := by decide +kernel
theorem d_KE_isWholeBy_76 : decode b_KE_isWholeBy 76 = .ok (.ireturn, 1) := by decide +kernel
theorem d_KE_weight_0 : decode b_KE_weight 0 = .ok (.ldc2_w 128, 3) := by decide +kernel
theorem d_KE_weight_3 : decode b_KE_weight 3 = .ok (.lstore_n 2, 1) := by decide +kernel
theorem d_KE_weight_4 : decode b_KE_weight 4 = .ok (.lconst 1, 1) := by decide +kernel
theorem d_KE_weight_5 : decode b_KE_weight 5 = .ok (.lstore 4, 2) := by decide +kernel
theorem d_KE_weight_7 : decode b_KE_weight 7 = .ok (.iconst 0, 1) := by decide +kernel
theorem d_KE_weight_8 : decode b_KE_weight 8 = .ok (.istore 6, 2) := by decide +kernel
theorem d_KE_weight_10 : decode b_KE_weight 10 = .ok (.iload 6, 2) := by decide +kernel
theorem d_KE_weight_12 : decode b_KE_weight 12 = .ok (.bipush 6, 2) := by decide +kernel
theorem d_KE_weight_14 : decode b_KE_weight 14 = .ok (.if_icmp .ge 42, 3) := by decide +kernel
theorem d_KE_weight_17 : decode b_KE_weight 17 = .ok (.iload 6, 2) := by decide +kernel
theorem d_KE_weight_19 : decode b_KE_weight 19 = .ok (.iload_n 1, 1) := by decide +kernel
theorem d_KE_weight_20 : decode b_KE_weight 20 = .ok (.if_icmp .eq 30, 3) := by decide +kernel
theorem d_KE_weight_23 : decode b_KE_weight 23 = .ok (.iload_n 0, 1) := by decide +kernel
theorem d_KE_weight_24 : decode b_KE_weight 24 = .ok (.iload 6, 2) := by decide +kernel
theorem d_KE_weight_26 : decode b_KE_weight 26 = .ok (.invokestatic 120, 3) := by decide +kernel
theorem d_KE_weight_29 : decode b_KE_weight 29 = .ok (.ifCond .eq 21, 3) := by decide +kernel
theorem d_KE_weight_32 : decode b_KE_weight 32 = .ok (.lload_n 2, 1) := by decide +kernel
theorem d_KE_weight_33 : decode b_KE_weight 33 = .ok (.iload 6, 2) := by decide +kernel
theorem d_KE_weight_35 : decode b_KE_weight 35 = .ok (.iconst 1, 1) := by decide +kernel
theorem d_KE_weight_36 : decode b_KE_weight 36 = .ok (.iadd, 1) := by decide +kernel
theorem d_KE_weight_37 : decode b_KE_weight 37 = .ok (.i2l, 1) := by decide +kernel
theorem d_KE_weight_38 : decode b_KE_weight 38 = .ok (.lmul, 1) := by decide +kernel
theorem d_KE_weight_39 : decode b_KE_weight 39 = .ok (.lstore_n 2, 1) := by decide +kernel
theorem d_KE_weight_40 : decode b_KE_weight 40 = .ok (.lload 4, 2) := by decide +kernel
theorem d_KE_weight_42 : decode b_KE_weight 42 = .ok (.iload 6, 2) := by decide +kernel
theorem d_KE_weight_44 : decode b_KE_weight 44 = .ok (.iload_n 1, 1) := by decide +kernel
theorem d_KE_weight_45 : decode b_KE_weight 45 = .ok (.isub, 1) := by decide +kernel
theorem d_KE_weight_46 : decode b_KE_weight 46 = .ok (.i2l, 1) := by decide +kernel
theorem d_KE_weight_47 : decode b_KE_weight 47 = .ok (.lmul, 1) := by decide +kernel
theorem d_KE_weight_48 : decode b_KE_weight 48 = .ok (.lstore 4, 2) := by decide +kernel
theorem d_KE_weight_50 : decode b_KE_weight 50 = .ok (.iinc 6 1, 3) := by decide +kernel
theorem d_KE_weight_53 : decode b_KE_weight 53 = .ok (.goto (-43), 3) := by decide +kernel
theorem d_KE_weight_56 : decode b_KE_weight 56 = .ok (.lload 4, 2) := by decide +kernel
theorem d_KE_weight_58 : decode b_KE_weight 58 = .ok (.lconst 0, 1) := by decide +kernel
theorem d_KE_weight_59 : decode b_KE_weight 59 = .ok (.lcmp, 1) := by decide +kernel
theorem d_KE_weight_60 : decode b_KE_weight 60 = .ok (.ifCond .ne 7, 3) := by decide +kernel
theorem d_KE_weight_63 : decode b_KE_weight 63 = .ok (.lconst 0, 1) := by decide +kernel
theorem d_KE_weight_64 : decode b_KE_weight 64 = .ok (.goto 7, 3) := by decide +kernel
theorem d_KE_weight_67 : decode b_KE_weight 67 = .ok (.lload_n 2, 1) := by decide +kernel
theorem d_KE_weight_68 : decode b_KE_weight 68 = .ok (.lload 4, 2) := by decide +kernel
theorem d_KE_weight_70 : decode b_KE_weight 70 = .ok (.ldiv, 1) := by decide +kernel
theorem d_KE_weight_71 : decode b_KE_weight 71 = .ok (.lreturn, 1) := by decide +kernel
theorem d_KE_isBelowModulus_0 : decode b_KE_isBelowModulus 0 = .ok (.lload_n 1, 1) := by decide +kernel
theorem d_KE_isBelowModulus_1 : decode b_KE_isBelowModulus 1 = .ok (.lconst 0, 1) := by decide +kernel
theorem d_KE_isBelowModulus_2 : decode b_KE_isBelowModulus 2 = .ok (.lcmp, 1) := by decide +kernel
theorem d_KE_isBelowModulus_3 : decode b_KE_isBelowModulus 3 = .ok (.ifCond .lt 16, 3) := by decide +kernel
theorem d_KE_isBelowModulus_6 : decode b_KE_isBelowModulus 6 = .ok (.lload_n 1, 1) := by decide +kernel
theorem d_KE_isBelowModulus_7 : decode b_KE_isBelowModulus 7 = .ok (.aload_n 0, 1) := by decide +kernel
theorem d_KE_isBelowModulus_8 : decode b_KE_isBelowModulus 8 = .ok (.getfield 25, 3) := by decide +kernel
theorem d_KE_isBelowModulus_11 : decode b_KE_isBelowModulus 11 = .ok (.lcmp, 1) := by decide +kernel
theorem d_KE_isBelowModulus_12 : decode b_KE_isBelowModulus 12 = .ok (.ifCond .ge 7, 3) := by decide +kernel
theorem d_KE_isBelowModulus_15 : decode b_KE_isBelowModulus 15 = .ok (.iconst 1, 1) := by decide +kernel
theorem d_KE_isBelowModulus_16 : decode b_KE_isBelowModulus 16 = .ok (.goto 4, 3) := by decide +kernel
theorem d_KE_isBelowModulus_19 : decode b_KE_isBelowModulus 19 = .ok (.iconst 0, 1) := by decide +kernel
theorem d_KE_isBelowModulus_20 : decode b_KE_isBelowModulus 20 = .ok (.ireturn, 1) := by decide +kernel
theorem d_KE_times_0 : decode b_KE_times 0 = .ok (.lload_n 1, 1) := by decide +kernel
theorem d_KE_times_1 : decode b_KE_times 1 = .ok (.lload_n 3, 1) := by decide +kernel
theorem d_KE_times_2 : decode b_KE_times 2 = .ok (.lmul, 1) := by decide +kernel
theorem d_KE_times_3 : decode b_KE_times 3 = .ok (.aload_n 0, 1) := by decide +kernel
theorem d_KE_times_4 : decode b_KE_times 4 = .ok (.getfield 25, 3) := by decide +kernel
theorem d_KE_times_7 : decode b_KE_times 7 = .ok (.invokestatic 42, 3) := by decide +kernel
theorem d_KE_times_10 : decode b_KE_times 10 = .ok (.lreturn, 1) := by decide +kernel
theorem d_KE_power_0 : decode b_KE_power 0 = .ok (.lload_n 1, 1) := by decide +kernel
theorem d_KE_power_1 : decode b_KE_power 1 = .ok (.lload_n 3, 1) := by decide +kernel
theorem d_KE_power_2 : decode b_KE_power 2 = .ok (.aload_n 0, 1) := by decide +kernel
theorem d_KE_power_3 : decode b_KE_power 3 = .ok (.getfield 25, 3) := by decide +kernel
theorem d_KE_power_6 : decode b_KE_power 6 = .ok (.invokestatic 35, 3) := by decide +kernel
theorem d_KE_power_9 : decode b_KE_power 9 = .ok (.lreturn, 1) := by decide +kernel
theorem d_KE_inversePower_0 : decode b_KE_inversePower 0 = .ok (.aload_n 0, 1) := by decide +kernel
theorem d_KE_inversePower_1 : decode b_KE_inversePower 1 = .ok (.lload_n 1, 1) := by decide +kernel
theorem d_KE_inversePower_2 : decode b_KE_inversePower 2 = .ok (.lload_n 3, 1) := by decide +kernel
theorem d_KE_inversePower_3 : decode b_KE_inversePower 3 = .ok (.lneg, 1) := by decide +kernel
theorem d_KE_inversePower_4 : decode b_KE_inversePower 4 = .ok (.ldc2_w 28, 3) := by decide +kernel
theorem d_KE_inversePower_7 : decode b_KE_inversePower 7 = .ok (.aload_n 0, 1) := by decide +kernel
theorem d_KE_inversePower_8 : decode b_KE_inversePower 8 = .ok (.getfield 30, 3) := by decide +kernel
theorem d_KE_inversePower_11 : decode b_KE_inversePower 11 = .ok (.lmul, 1) := by decide +kernel
theorem d_KE_inversePower_12 : decode b_KE_inversePower 12 = .ok (.invokestatic 42, 3) := by decide +kernel
theorem d_KE_inversePower_15 : decode b_KE_inversePower 15 = .ok (.invokevirtual 59, 3) := by decide +kernel
theorem d_KE_inversePower_18 : decode b_KE_inversePower 18 = .ok (.lreturn, 1) := by decide +kernel
end
section
/-! decode rows -/
theorem d_ST_init_0 : decode b_ST_init 0 = .ok (.aload_n 0, 1) := by decide +kernel
theorem d_ST_init_1 : decode b_ST_init 1 = .ok (.invokespecial 1, 3) := by decide +kernel
theorem d_ST_init_4 : decode b_ST_init 4 = .ok (.aload_n 0, 1) := by decide +kernel
theorem d_ST_init_5 : decode b_ST_init 5 = .ok (.new 7, 3) := by decide +kernel
theorem d_ST_init_8 : decode b_ST_init 8 = .ok (.dup, 1) := by decide +kernel
theorem d_ST_init_9 : decode b_ST_init 9 = .ok (.invokespecial 9, 3) := by decide +kernel
theorem d_ST_init_12 : decode b_ST_init 12 = .ok (.putfield 10, 3) := by decide +kernel
theorem d_ST_init_15 : decode b_ST_init 15 = .ok (.aload_n 0, 1) := by decide +kernel
theorem d_ST_init_16 : decode b_ST_init 16 = .ok (.new 16, 3) := by decide +kernel
theorem d_ST_init_19 : decode b_ST_init 19 = .ok (.dup, 1) := by decide +kernel
theorem d_ST_init_20 : decode b_ST_init 20 = .ok (.invokespecial 18, 3) := by decide +kernel
theorem d_ST_init_23 : decode b_ST_init 23 = .ok (.putfield 19, 3) := by decide +kernel
theorem d_ST_init_26 : decode b_ST_init 26 = .ok (.aload_n 0, 1) := by decide +kernel
theorem d_ST_init_27 : decode b_ST_init 27 = .ok (.bipush 12, 2) := by decide +kernel
theorem d_ST_init_29 : decode b_ST_init 29 = .ok (.anewarray 23, 3) := by decide +kernel
theorem d_ST_init_32 : decode b_ST_init 32 = .ok (.putfield 25, 3) := by decide +kernel
theorem d_ST_init_35 : decode b_ST_init 35 = .ok (.iconst 0, 1) := by decide +kernel
theorem d_ST_init_36 : decode b_ST_init 36 = .ok (.istore_n 1, 1) := by decide +kernel
theorem d_ST_init_37 : decode b_ST_init 37 = .ok (.iload_n 1, 1) := by decide +kernel
theorem d_ST_init_38 : decode b_ST_init 38 = .ok (.bipush 12, 2) := by decide +kernel
theorem d_ST_init_40 : decode b_ST_init 40 = .ok (.if_icmp .ge 22, 3) := by decide +kernel
theorem d_ST_init_43 : decode b_ST_init 43 = .ok (.aload_n 0, 1) := by decide +kernel
theorem d_ST_init_44 : decode b_ST_init 44 = .ok (.getfield 25, 3) := by decide +kernel
theorem d_ST_init_47 : decode b_ST_init 47 = .ok (.iload_n 1, 1) := by decide +kernel
theorem d_ST_init_48 : decode b_ST_init 48 = .ok (.new 23, 3) := by decide +kernel
theorem d_ST_init_51 : decode b_ST_init 51 = .ok (.dup, 1) := by decide +kernel
theorem d_ST_init_52 : decode b_ST_init 52 = .ok (.invokespecial 29, 3) := by decide +kernel
theorem d_ST_init_55 : decode b_ST_init 55 = .ok (.aastore, 1) := by decide +kernel
theorem d_ST_init_56 : decode b_ST_init 56 = .ok (.iinc 1 1, 3) := by decide +kernel
theorem d_ST_init_59 : decode b_ST_init 59 = .ok (.goto (-22), 3) := by decide +kernel
theorem d_ST_init_62 : decode b_ST_init 62 = .ok (.aload_n 0, 1) := by decide +kernel
theorem d_ST_init_63 : decode b_ST_init 63 = .ok (.bipush 12, 2) := by decide +kernel
theorem d_ST_init_65 : decode b_ST_init 65 = .ok (.newarray .int, 2) := by decide +kernel
theorem d_ST_init_67 : decode b_ST_init 67 = .ok (.putfield 30, 3) := by decide +kernel
theorem d_ST_init_70 : decode b_ST_init 70 = .ok (.return_, 1) := by decide +kernel
theorem d_ST_deal_0 : decode b_ST_deal 0 = .ok (.iload_n 1, 1) := by decide +kernel
theorem d_ST_deal_1 : decode b_ST_deal 1 = .ok (.invokestatic 34, 3) := by decide +kernel
theorem d_ST_deal_4 : decode b_ST_deal 4 = .ok (.ifCond .eq 15, 3) := by decide +kernel
theorem d_ST_deal_7 : decode b_ST_deal 7 = .ok (.iload_n 2, 1) := by decide +kernel
theorem d_ST_deal_8 : decode b_ST_deal 8 = .ok (.invokestatic 34, 3) := by decide +kernel
theorem d_ST_deal_11 : decode b_ST_deal 11 = .ok (.ifCond .eq 8, 3) := by decide +kernel
theorem d_ST_deal_14 : decode b_ST_deal 14 = .ok (.iload_n 1, 1) := by decide +kernel
theorem d_ST_deal_15 : decode b_ST_deal 15 = .ok (.iload_n 2, 1) := by decide +kernel
theorem d_ST_deal_16 : decode b_ST_deal 16 = .ok (.if_icmp .ne 13, 3) := by decide +kernel
theorem d_ST_deal_19 : decode b_ST_deal 19 = .ok (.new 38, 3) := by decide +kernel
theorem d_ST_deal_22 : decode b_ST_deal 22 = .ok (.dup, 1) := by decide +kernel
theorem d_ST_deal_23 : decode b_ST_deal 23 = .ok (.ldc 40, 2) := by decide +kernel
theorem d_ST_deal_25 : decode b_ST_deal 25 = .ok (.invokespecial 42, 3) := by decide +kernel
theorem d_ST_deal_28 : decode b_ST_deal 28 = .ok (.athrow, 1) := by decide +kernel
theorem d_ST_deal_29 : decode b_ST_deal 29 = .ok (.iload_n 3, 1) := by decide +kernel
theorem d_ST_deal_30 : decode b_ST_deal 30 = .ok (.ifCond .lt 8, 3) := by decide +kernel
theorem d_ST_deal_33 : decode b_ST_deal 33 = .ok (.iload 4, 2) := by decide +kernel
theorem d_ST_deal_35 : decode b_ST_deal 35 = .ok (.ifCond .ge 13, 3) := by decide +kernel
theorem d_ST_deal_38 : decode b_ST_deal 38 = .ok (.new 38, 3) := by decide +kernel
theorem d_ST_deal_41 : decode b_ST_deal 41 = .ok (.dup, 1) := by decide +kernel
theorem d_ST_deal_42 : decode b_ST_deal 42 = .ok (.ldc 45, 2) := by decide +kernel
theorem d_ST_deal_44 : decode b_ST_deal 44 = .ok (.invokespecial 42, 3) := by decide +kernel
theorem d_ST_deal_47 : decode b_ST_deal 47 = .ok (.athrow, 1) := by decide +kernel
theorem d_ST_deal_48 : decode b_ST_deal 48 = .ok (.iload 5, 2) := by decide +kernel
theorem d_ST_deal_50 : decode b_ST_deal 50 = .ok (.iconst 2, 1) := by decide +kernel
theorem d_ST_deal_51 : decode b_ST_deal 51 = .ok (.if_icmp .lt 27, 3) := by decide +kernel
theorem d_ST_deal_54 : decode b_ST_deal 54 = .ok (.iload 5, 2) := by decide +kernel
theorem d_ST_deal_56 : decode b_ST_deal 56 = .ok (.iload_n 1, 1) := by decide +kernel
theorem d_ST_deal_57 : decode b_ST_deal 57 = .ok (.iload_n 2, 1) := by decide +kernel
theorem d_ST_deal_58 : decode b_ST_deal 58 = .ok (.imul, 1) := by decide +kernel
theorem d_ST_deal_59 : decode b_ST_deal 59 = .ok (.iconst 2, 1) := by decide +kernel
theorem d_ST_deal_60 : decode b_ST_deal 60 = .ok (.isub, 1) := by decide +kernel
theorem d_ST_deal_61 : decode b_ST_deal 61 = .ok (.if_icmp .gt 17, 3) := by decide +kernel
theorem d_ST_deal_64 : decode b_ST_deal 64 = .ok (.iload 5, 2) := by decide +kernel
theorem d_ST_deal_66 : decode b_ST_deal 66 = .ok (.iload_n 1, 1) := by decide +kernel
theorem d_ST_deal_67 : decode b_ST_deal 67 = .ok (.irem, 1) := by decide +kernel
theorem d_ST_deal_68 : decode b_ST_deal 68 = .ok (.ifCond .eq 10, 3) := by decide +kernel
theorem d_ST_deal_71 : decode b_ST_deal 71 = .ok (.iload 5, 2) := by decide +kernel
theorem d_ST_deal_73 : decode b_ST_deal 73 = .ok (.iload_n 2, 1) := by decide +kernel
theorem d_ST_deal_74 : decode b_ST_deal 74 = .ok (.irem, 1) := by decide +kernel
theorem d_ST_deal_75 : decode b_ST_deal 75 = .ok (.ifCond .ne 13, 3) := by decide +kernel
theorem d_ST_deal_78 : decode b_ST_deal 78 = .ok (.new 38, 3) := by decide +kernel
theorem d_ST_deal_81 : decode b_ST_deal 81 = .ok (.dup, 1) := by decide +kernel
theorem d_ST_deal_82 : decode b_ST_deal 82 = .ok (.ldc 47, 2) := by decide +kernel
theorem d_ST_deal_84 : decode b_ST_deal 84 = .ok (.invokespecial 42, 3) := by decide +kernel
theorem d_ST_deal_87 : decode b_ST_deal 87 = .ok (.athrow, 1) := by decide +kernel
theorem d_ST_deal_88 : decode b_ST_deal 88 = .ok (.aload_n 0, 1) := by decide +kernel
theorem d_ST_deal_89 : decode b_ST_deal 89 = .ok (.getfield 10, 3) := by decide +kernel
theorem d_ST_deal_92 : decode b_ST_deal 92 = .ok (.iload_n 1, 1) := by decide +kernel
theorem d_ST_deal_93 : decode b_ST_deal 93 = .ok (.i2l, 1) := by decide +kernel
theorem d_ST_deal_94 : decode b_ST_deal 94 = .ok (.iload_n 2, 1) := by decide +kernel
theorem d_ST_deal_95 : decode b_ST_deal 95 = .ok (.i2l, 1) := by decide +kernel
theorem d_ST_deal_96 : decode b_ST_deal 96 = .ok (.iload 5, 2) := by decide +kernel
theorem d_ST_deal_98 : decode b_ST_deal 98 = .ok (.i2l, 1) := by decide +kernel
theorem d_ST_deal_99 : decode b_ST_deal 99 = .ok (.invokevirtual 49, 3) := by decide +kernel
theorem d_ST_deal_102 : decode b_ST_deal 102 = .ok (.aload_n 0, 1) := by decide +kernel
theorem d_ST_deal_103 : decode b_ST_deal 103 = .ok (.getfield 10, 3) := by decide +kernel
theorem d_ST_deal_106 : decode b_ST_deal 106 = .ok (.iload_n 3, 1) := by decide +kernel
theorem d_ST_deal_107 : decode b_ST_deal 107 = .ok (.i2l, 1) := by decide +kernel
theorem d_ST_deal_108 : decode b_ST_deal 108 = .ok (.iload 4, 2) := by decide +kernel
theorem d_ST_deal_110 : decode b_ST_deal 110 = .ok (.i2l, 1) := by decide +kernel
theorem d_ST_deal_111 : decode b_ST_deal 111 = .ok (.invokevirtual 53, 3) := by decide +kernel
theorem d_ST_deal_114 : decode b_ST_deal 114 = .ok (.aload_n 0, 1) := by decide +kernel
theorem d_ST_deal_115 : decode b_ST_deal 115 = .ok (.iconst 0, 1) := by decide +kernel
theorem d_ST_deal_116 : decode b_ST_deal 116 = .ok (.putfield 57, 3) := by decide +kernel
theorem d_ST_deal_119 : decode b_ST_deal 119 = .ok (.aload_n 0, 1) := by decide +kernel
theorem d_ST_deal_120 : decode b_ST_deal 120 = .ok (.iconst 0, 1) := by decide +kernel
theorem d_ST_deal_121 : decode b_ST_deal 121 = .ok (.putfield 61, 3) := by decide +kernel
theorem d_ST_deal_124 : decode b_ST_deal 124 = .ok (.aload_n 0, 1) := by decide +kernel
theorem d_ST_deal_125 : decode b_ST_deal 125 = .ok (.iconst 0, 1) := by decide +kernel
theorem d_ST_deal_126 : decode b_ST_deal 126 = .ok (.putfield 64, 3) := by decide +kernel
theorem d_ST_deal_129 : decode b_ST_deal 129 = .ok (.return_, 1) := by decide +kernel
theorem d_ST_put_0 : decode b_ST_put 0 = .ok (.iload_n 2, 1) := by decide +kernel
theorem d_ST_put_1 : decode b_ST_put 1 = .ok (.iconst 1, 1) := by decide +kernel
theorem d_ST_put_2 : decode b_ST_put 2 = .ok (.if_icmp .lt 19, 3) := by decide +kernel
theorem d_ST_put_5 : decode b_ST_put 5 = .ok (.iload_n 2, 1) := by decide +kernel
theorem d_ST_put_6 : decode b_ST_put 6 = .ok (.iconst 4, 1) := by decide +kernel
theorem d_ST_put_7 : decode b_ST_put 7 = .ok (.if_icmp .gt 14, 3) := by decide +kernel
theorem d_ST_put_10 : decode b_ST_put 10 = .ok (.iload_n 2, 1) := by decide +kernel
theorem d_ST_put_11 : decode b_ST_put 11 = .ok (.aload_n 0, 1) := by decide +kernel
theorem d_ST_put_12 : decode b_ST_put 12 = .ok (.getfield 19, 3) := by decide +kernel
theorem d_ST_put_15 : decode b_ST_put 15 = .ok (.invokevirtual 67, 3) := by decide +kernel
theorem d_ST_put_18 : decode b_ST_put 18 = .ok (.if_icmp .le 13, 3) := by decide +kernel
theorem d_ST_put_21 : decode b_ST_put 21 = .ok (.new 38, 3) := by decide +kernel
theorem d_ST_put_24 : decode b_ST_put 24 = .ok (.dup, 1) := by decide +kernel
theorem d_ST_put_25 : decode b_ST_put 25 = .ok (.ldc 71, 2) := by decide +kernel
theorem d_ST_put_27 : decode b_ST_put 27 = .ok (.invokespecial 42, 3) := by decide +kernel
theorem d_ST_put_30 : decode b_ST_put 30 = .ok (.athrow, 1) := by decide +kernel
theorem d_ST_put_31 : decode b_ST_put 31 = .ok (.aload_n 0, 1) := by decide +kernel
theorem d_ST_put_32 : decode b_ST_put 32 = .ok (.getfield 19, 3) := by decide +kernel
theorem d_ST_put_35 : decode b_ST_put 35 = .ok (.iload_n 1, 1) := by decide +kernel
theorem d_ST_put_36 : decode b_ST_put 36 = .ok (.iload_n 2, 1) := by decide +kernel
theorem d_ST_put_37 : decode b_ST_put 37 = .ok (.invokevirtual 73, 3) := by decide +kernel
theorem d_ST_put_40 : decode b_ST_put 40 = .ok (.aload_n 0, 1) := by decide +kernel
theorem d_ST_put_41 : decode b_ST_put 41 = .ok (.getfield 19, 3) := by decide +kernel
theorem d_ST_put_44 : decode b_ST_put 44 = .ok (.invokevirtual 77, 3) := by decide +kernel
theorem d_ST_put_47 : decode b_ST_put 47 = .ok (.ireturn, 1) := by decide +kernel
theorem d_ST_motion_0 : decode b_ST_motion 0 = .ok (.aload_n 0, 1) := by decide +kernel
theorem d_ST_motion_1 : decode b_ST_motion 1 = .ok (.invokevirtual 80, 3) := by decide +kernel
theorem d_ST_motion_4 : decode b_ST_motion 4 = .ok (.aload_n 0, 1) := by decide +kernel
theorem d_ST_motion_5 : decode b_ST_motion 5 = .ok (.getfield 57, 3) := by decide +kernel
theorem d_ST_motion_8 : decode b_ST_motion 8 = .ok (.bipush 12, 2) := by decide +kernel
theorem d_ST_motion_10 : decode b_ST_motion 10 = .ok (.if_icmp .lt 13, 3) := by decide +kernel
theorem d_ST_motion_13 : decode b_ST_motion 13 = .ok (.new 83, 3) := by decide +kernel
theorem d_ST_motion_16 : decode b_ST_motion 16 = .ok (.dup, 1) := by decide +kernel
theorem d_ST_motion_17 : decode b_ST_motion 17 = .ok (.ldc 85, 2) := by decide +kernel
theorem d_ST_motion_19 : decode b_ST_motion 19 = .ok (.invokespecial 87, 3) := by decide +kernel
theorem d_ST_motion_22 : decode b_ST_motion 22 = .ok (.athrow, 1) := by decide +kernel
theorem d_ST_motion_23 : decode b_ST_motion 23 = .ok (.aload_n 0, 1) := by decide +kernel
theorem d_ST_motion_24 : decode b_ST_motion 24 = .ok (.getfield 25, 3) := by decide +kernel
theorem d_ST_motion_27 : decode b_ST_motion 27 = .ok (.aload_n 0, 1) := by decide +kernel
theorem d_ST_motion_28 : decode b_ST_motion 28 = .ok (.getfield 57, 3) := by decide +kernel
theorem d_ST_motion_31 : decode b_ST_motion 31 = .ok (.aaload, 1) := by decide +kernel
theorem d_ST_motion_32 : decode b_ST_motion 32 = .ok (.aload_n 0, 1) := by decide +kernel
theorem d_ST_motion_33 : decode b_ST_motion 33 = .ok (.getfield 10, 3) := by decide +kernel
theorem d_ST_motion_36 : decode b_ST_motion 36 = .ok (.aload_n 0, 1) := by decide +kernel
theorem d_ST_motion_37 : decode b_ST_motion 37 = .ok (.getfield 19, 3) := by decide +kernel
theorem d_ST_motion_40 : decode b_ST_motion 40 = .ok (.invokevirtual 88, 3) := by decide +kernel
theorem d_ST_motion_43 : decode b_ST_motion 43 = .ok (.invokevirtual 92, 3) := by decide +kernel
theorem d_ST_motion_46 : decode b_ST_motion 46 = .ok (.aload_n 0, 1) := by decide +kernel
theorem d_ST_motion_47 : decode b_ST_motion 47 = .ok (.getfield 19, 3) := by decide +kernel
theorem d_ST_motion_50 : decode b_ST_motion 50 = .ok (.invokevirtual 95, 3) := by decide +kernel
theorem d_ST_motion_53 : decode b_ST_motion 53 = .ok (.aload_n 0, 1) := by decide +kernel
theorem d_ST_motion_54 : decode b_ST_motion 54 = .ok (.dup, 1) := by decide +kernel
theorem d_ST_motion_55 : decode b_ST_motion 55 = .ok (.getfield 57, 3) := by decide +kernel
theorem d_ST_motion_58 : decode b_ST_motion 58 = .ok (.iconst 1, 1) := by decide +kernel
theorem d_ST_motion_59 : decode b_ST_motion 59 = .ok (.iadd, 1) := by decide +kernel
theorem d_ST_motion_60 : decode b_ST_motion 60 = .ok (.putfield 57, 3) := by decide +kernel
theorem d_ST_motion_63 : decode b_ST_motion 63 = .ok (.aload_n 0, 1) := by decide +kernel
theorem d_ST_motion_64 : decode b_ST_motion 64 = .ok (.getfield 57, 3) := by decide +kernel
theorem d_ST_motion_67 : decode b_ST_motion 67 = .ok (.iconst 1, 1) := by decide +kernel
theorem d_ST_motion_68 : decode b_ST_motion 68 = .ok (.isub, 1) := by decide +kernel
theorem d_ST_motion_69 : decode b_ST_motion 69 = .ok (.ireturn, 1) := by decide +kernel
theorem d_ST_consent_0 : decode b_ST_consent 0 = .ok (.aload_n 0, 1) := by decide +kernel
theorem d_ST_consent_1 : decode b_ST_consent 1 = .ok (.iload_n 1, 1) := by decide +kernel
theorem d_ST_consent_2 : decode b_ST_consent 2 = .ok (.invokevirtual 98, 3) := by decide +kernel
theorem d_ST_consent_5 : decode b_ST_consent 5 = .ok (.astore_n 3, 1) := by decide +kernel
theorem d_ST_consent_6 : decode b_ST_consent 6 = .ok (.iload_n 2, 1) := by decide +kernel
theorem d_ST_consent_7 : decode b_ST_consent 7 = .ok (.invokestatic 102, 3) := by decide +kernel
theorem d_ST_consent_10 : decode b_ST_consent 10 = .ok (.aload_n 3, 1) := by decide +kernel
theorem d_ST_consent_11 : decode b_ST_consent 11 = .ok (.invokestatic 106, 3) := by decide +kernel
theorem d_ST_consent_14 : decode b_ST_consent 14 = .ok (.aload_n 3, 1) := by decide +kernel
theorem d_ST_consent_15 : decode b_ST_consent 15 = .ok (.iload_n 2, 1) := by decide +kernel
theorem d_ST_consent_16 : decode b_ST_consent 16 = .ok (.invokestatic 110, 3) := by decide +kernel
theorem d_ST_consent_19 : decode b_ST_consent 19 = .ok (.aload_n 0, 1) := by decide +kernel
theorem d_ST_consent_20 : decode b_ST_consent 20 = .ok (.getfield 64, 3) := by decide +kernel
theorem d_ST_consent_23 : decode b_ST_consent 23 = .ok (.iload_n 2, 1) := by decide +kernel
theorem d_ST_consent_24 : decode b_ST_consent 24 = .ok (.invokestatic 114, 3) := by decide +kernel
theorem d_ST_consent_27 : decode b_ST_consent 27 = .ok (.ifCond .eq 13, 3) := by decide +kernel
theorem d_ST_consent_30 : decode b_ST_consent 30 = .ok (.new 83, 3) := by decide +kernel
theorem d_ST_consent_33 : decode b_ST_consent 33 = .ok (.dup, 1) := by decide +kernel
theorem d_ST_consent_34 : decode b_ST_consent 34 = .ok (.ldc 118, 2) := by decide +kernel
theorem d_ST_consent_36 : decode b_ST_consent 36 = .ok (.invokespecial 87, 3) := by decide +kernel
theorem d_ST_consent_39 : decode b_ST_consent 39 = .ok (.athrow, 1) := by decide +kernel
theorem d_ST_consent_40 : decode b_ST_consent 40 = .ok (.aload_n 0, 1) := by decide +kernel
theorem d_ST_consent_41 : decode b_ST_consent 41 = .ok (.getfield 10, 3) := by decide +kernel
theorem d_ST_consent_44 : decode b_ST_consent 44 = .ok (.aload_n 3, 1) := by decide +kernel
theorem d_ST_consent_45 : decode b_ST_consent 45 = .ok (.iload_n 2, 1) := by decide +kernel
theorem d_ST_consent_46 : decode b_ST_consent 46 = .ok (.invokevirtual 120, 3) := by decide +kernel
theorem d_ST_consent_49 : decode b_ST_consent 49 = .ok (.return_, 1) := by decide +kernel
theorem d_ST_object_0 : decode b_ST_object 0 = .ok (.aload_n 0, 1) := by decide +kernel
theorem d_ST_object_1 : decode b_ST_object 1 = .ok (.iload_n 1, 1) := by decide +kernel
theorem d_ST_object_2 : decode b_ST_object 2 = .ok (.invokevirtual 98, 3) := by decide +kernel
theorem d_ST_object_5 : decode b_ST_object 5 = .ok (.astore_n 3, 1) := by decide +kernel
theorem d_ST_object_6 : decode b_ST_object 6 = .ok (.iload_n 2, 1) := by decide +kernel
theorem d_ST_object_7 : decode b_ST_object 7 = .ok (.invokestatic 102, 3) := by decide +kernel
theorem d_ST_object_10 : decode b_ST_object 10 = .ok (.aload_n 3, 1) := by decide +kernel
theorem d_ST_object_11 : decode b_ST_object 11 = .ok (.invokestatic 106, 3) := by decide +kernel
theorem d_ST_object_14 : decode b_ST_object 14 = .ok (.aload_n 3, 1) := by decide +kernel
theorem d_ST_object_15 : decode b_ST_object 15 = .ok (.iload_n 2, 1) := by decide +kernel
theorem d_ST_object_16 : decode b_ST_object 16 = .ok (.invokestatic 110, 3) := by decide +kernel
theorem d_ST_object_19 : decode b_ST_object 19 = .ok (.aload_n 3, 1) := by decide +kernel
theorem d_ST_object_20 : decode b_ST_object 20 = .ok (.iload_n 2, 1) := by decide +kernel
theorem d_ST_object_21 : decode b_ST_object 21 = .ok (.invokevirtual 123, 3) := by decide +kernel
theorem d_ST_object_24 : decode b_ST_object 24 = .ok (.return_, 1) := by decide +kernel
theorem d_ST_file_0 : decode b_ST_file 0 = .ok (.aload_n 0, 1) := by decide +kernel
theorem d_ST_file_1 : decode b_ST_file 1 = .ok (.iload_n 1, 1) := by decide +kernel
theorem d_ST_file_2 : decode b_ST_file 2 = .ok (.invokevirtual 98, 3) := by decide +kernel
theorem d_ST_file_5 : decode b_ST_file 5 = .ok (.astore 8, 2) := by decide +kernel
theorem d_ST_file_7 : decode b_ST_file 7 = .ok (.iload_n 2, 1) := by decide +kernel
theorem d_ST_file_8 : decode b_ST_file 8 = .ok (.invokestatic 102, 3) := by decide +kernel
theorem d_ST_file_11 : decode b_ST_file 11 = .ok (.aload 8, 2) := by decide +kernel
theorem d_ST_file_13 : decode b_ST_file 13 = .ok (.invokestatic 106, 3) := by decide +kernel
theorem d_ST_file_16 : decode b_ST_file 16 = .ok (.aload 8, 2) := by decide +kernel
theorem d_ST_file_18 : decode b_ST_file 18 = .ok (.getfield 126, 3) := by decide +kernel
theorem d_ST_file_21 : decode b_ST_file 21 = .ok (.iload_n 2, 1) := by decide +kernel
theorem d_ST_file_22 : decode b_ST_file 22 = .ok (.invokestatic 114, 3) := by decide +kernel
theorem d_ST_file_25 : decode b_ST_file 25 = .ok (.ifCond .eq 13, 3) := by decide +kernel
theorem d_ST_file_28 : decode b_ST_file 28 = .ok (.new 83, 3) := by decide +kernel
theorem d_ST_file_31 : decode b_ST_file 31 = .ok (.dup, 1) := by decide +kernel
theorem d_ST_file_32 : decode b_ST_file 32 = .ok (.ldc 129, 2) := by decide +kernel
theorem d_ST_file_34 : decode b_ST_file 34 = .ok (.invokespecial 87, 3) := by decide +kernel
theorem d_ST_file_37 : decode b_ST_file 37 = .ok (.athrow, 1) := by decide +kernel
theorem d_ST_file_38 : decode b_ST_file 38 = .ok (.aload 8, 2) := by decide +kernel
theorem d_ST_file_40 : decode b_ST_file 40 = .ok (.iload_n 2, 1) := by decide +kernel
theorem d_ST_file_41 : decode b_ST_file 41 = .ok (.lload_n 3, 1) := by decide +kernel
theorem d_ST_file_42 : decode b_ST_file 42 = .ok (.iload 5, 2) := by decide +kernel
theorem d_ST_file_44 : decode b_ST_file 44 = .ok (.lload 6, 2) := by decide +kernel
theorem d_ST_file_46 : decode b_ST_file 46 = .ok (.invokevirtual 131, 3) := by decide +kernel
theorem d_ST_file_49 : decode b_ST_file 49 = .ok (.return_, 1) := by decide +kernel
theorem d_ST_partial_0 : decode b_ST_partial 0 = .ok (.aload_n 0, 1) := by decide +kernel
theorem d_ST_partial_1 : decode b_ST_partial 1 = .ok (.iload_n 1, 1) := by decide +kernel
theorem d_ST_partial_2 : decode b_ST_partial 2 = .ok (.invokevirtual 98, 3) := by decide +kernel
theorem d_ST_partial_5 : decode b_ST_partial 5 = .ok (.astore 4, 2) := by decide +kernel
theorem d_ST_partial_7 : decode b_ST_partial 7 = .ok (.iload_n 2, 1) := by decide +kernel
theorem d_ST_partial_8 : decode b_ST_partial 8 = .ok (.invokestatic 102, 3) := by decide +kernel
theorem d_ST_partial_11 : decode b_ST_partial 11 = .ok (.aload 4, 2) := by decide +kernel
theorem d_ST_partial_13 : decode b_ST_partial 13 = .ok (.getfield 135, 3) := by decide +kernel
theorem d_ST_partial_16 : decode b_ST_partial 16 = .ok (.iload_n 2, 1) := by decide +kernel
theorem d_ST_partial_17 : decode b_ST_partial 17 = .ok (.invokestatic 114, 3) := by decide +kernel
theorem d_ST_partial_20 : decode b_ST_partial 20 = .ok (.ifCond .ne 13, 3) := by decide +kernel
theorem d_ST_partial_23 : decode b_ST_partial 23 = .ok (.new 138, 3) := by decide +kernel
theorem d_ST_partial_26 : decode b_ST_partial 26 = .ok (.dup, 1) := by decide +kernel
theorem d_ST_partial_27 : decode b_ST_partial 27 = .ok (.ldc 140, 2) := by decide +kernel
theorem d_ST_partial_29 : decode b_ST_partial 29 = .ok (.invokespecial 142, 3) := by decide +kernel
theorem d_ST_partial_32 : decode b_ST_partial 32 = .ok (.athrow, 1) := by decide +kernel
theorem d_ST_partial_33 : decode b_ST_partial 33 = .ok (.iload_n 3, 1) := by decide +kernel
theorem d_ST_partial_34 : decode b_ST_partial 34 = .ok (.tableswitch 51 0 2 #[26, 34, 43], 26) := by decide +kernel
theorem d_ST_partial_60 : decode b_ST_partial 60 = .ok (.aload 4, 2) := by decide +kernel
theorem d_ST_partial_62 : decode b_ST_partial 62 = .ok (.getfield 143, 3) := by decide +kernel
theorem d_ST_partial_65 : decode b_ST_partial 65 = .ok (.iload_n 2, 1) := by decide +kernel
theorem d_ST_partial_66 : decode b_ST_partial 66 = .ok (.laload, 1) := by decide +kernel
theorem d_ST_partial_67 : decode b_ST_partial 67 = .ok (.lreturn, 1) := by decide +kernel
theorem d_ST_partial_68 : decode b_ST_partial 68 = .ok (.aload 4, 2) := by decide +kernel
theorem d_ST_partial_70 : decode b_ST_partial 70 = .ok (.getfield 147, 3) := by decide +kernel
theorem d_ST_partial_73 : decode b_ST_partial 73 = .ok (.iload_n 2, 1) := by decide +kernel
theorem d_ST_partial_74 : decode b_ST_partial 74 = .ok (.iaload, 1) := by decide +kernel
theorem d_ST_partial_75 : decode b_ST_partial 75 = .ok (.i2l, 1) := by decide +kernel
theorem d_ST_partial_76 : decode b_ST_partial 76 = .ok (.lreturn, 1) := by decide +kernel
theorem d_ST_partial_77 : decode b_ST_partial 77 = .ok (.aload 4, 2) := by decide +kernel
theorem d_ST_partial_79 : decode b_ST_partial 79 = .ok (.getfield 150, 3) := by decide +kernel
theorem d_ST_partial_82 : decode b_ST_partial 82 = .ok (.iload_n 2, 1) := by decide +kernel
theorem d_ST_partial_83 : decode b_ST_partial 83 = .ok (.laload, 1) := by decide +kernel
theorem d_ST_partial_84 : decode b_ST_partial 84 = .ok (.lreturn, 1) := by decide +kernel
theorem d_ST_partial_85 : decode b_ST_partial 85 = .ok (.new 38, 3) := by decide +kernel
theorem d_ST_partial_88 : decode b_ST_partial 88 = .ok (.dup, 1) := by decide +kernel
theorem d_ST_partial_89 : decode b_ST_partial 89 = .ok (.ldc 153, 2) := by decide +kernel
theorem d_ST_partial_91 : decode b_ST_partial 91 = .ok (.invokespecial 42, 3) := by decide +kernel
theorem d_ST_partial_94 : decode b_ST_partial 94 = .ok (.athrow, 1) := by decide +kernel
theorem d_ST_bad_0 : decode b_ST_bad 0 = .ok (.aload_n 0, 1) := by decide +kernel
theorem d_ST_bad_1 : decode b_ST_bad 1 = .ok (.iload_n 1, 1) := by decide +kernel
theorem d_ST_bad_2 : decode b_ST_bad 2 = .ok (.invokevirtual 98, 3) := by decide +kernel
theorem d_ST_bad_5 : decode b_ST_bad 5 = .ok (.astore_n 2, 1) := by decide +kernel
theorem d_ST_bad_6 : decode b_ST_bad 6 = .ok (.aload_n 2, 1) := by decide +kernel
theorem d_ST_bad_7 : decode b_ST_bad 7 = .ok (.getfield 135, 3) := by decide +kernel
theorem d_ST_bad_10 : decode b_ST_bad 10 = .ok (.aload_n 0, 1) := by decide +kernel
theorem d_ST_bad_11 : decode b_ST_bad 11 = .ok (.aload_n 2, 1) := by decide +kernel
theorem d_ST_bad_12 : decode b_ST_bad 12 = .ok (.invokevirtual 155, 3) := by decide +kernel
theorem d_ST_bad_15 : decode b_ST_bad 15 = .ok (.iconst (-1), 1) := by decide +kernel
theorem d_ST_bad_16 : decode b_ST_bad 16 = .ok (.ixor, 1) := by decide +kernel
theorem d_ST_bad_17 : decode b_ST_bad 17 = .ok (.iand, 1) := by decide +kernel
theorem d_ST_bad_18 : decode b_ST_bad 18 = .ok (.ireturn, 1) := by decide +kernel
theorem d_ST_join_0 : decode b_ST_join 0 = .ok (.aload_n 0, 1) := by decide +kernel
theorem d_ST_join_1 : decode b_ST_join 1 = .ok (.iload_n 1, 1) := by decide +kernel
theorem d_ST_join_2 : decode b_ST_join 2 = .ok (.invokevirtual 98, 3) := by decide +kernel
theorem d_ST_join_5 : decode b_ST_join 5 = .ok (.astore_n 2, 1) := by decide +kernel
theorem d_ST_join_6 : decode b_ST_join 6 = .ok (.aload_n 2, 1) := by decide +kernel
theorem d_ST_join_7 : decode b_ST_join 7 = .ok (.invokestatic 106, 3) := by decide +kernel
theorem d_ST_join_10 : decode b_ST_join 10 = .ok (.aload_n 0, 1) := by decide +kernel
theorem d_ST_join_11 : decode b_ST_join 11 = .ok (.getfield 10, 3) := by decide +kernel
theorem d_ST_join_14 : decode b_ST_join 14 = .ok (.aload_n 2, 1) := by decide +kernel
theorem d_ST_join_15 : decode b_ST_join 15 = .ok (.getfield 159, 3) := by decide +kernel
theorem d_ST_join_18 : decode b_ST_join 18 = .ok (.invokevirtual 163, 3) := by decide +kernel
theorem d_ST_join_21 : decode b_ST_join 21 = .ok (.ifCond .ne 13, 3) := by decide +kernel
theorem d_ST_join_24 : decode b_ST_join 24 = .ok (.new 167, 3) := by decide +kernel
theorem d_ST_join_27 : decode b_ST_join 27 = .ok (.dup, 1) := by decide +kernel
theorem d_ST_join_28 : decode b_ST_join 28 = .ok (.ldc 169, 2) := by decide +kernel
theorem d_ST_join_30 : decode b_ST_join 30 = .ok (.invokespecial 171, 3) := by decide +kernel
theorem d_ST_join_33 : decode b_ST_join 33 = .ok (.athrow, 1) := by decide +kernel
theorem d_ST_join_34 : decode b_ST_join 34 = .ok (.aload_n 0, 1) := by decide +kernel
theorem d_ST_join_35 : decode b_ST_join 35 = .ok (.aload_n 2, 1) := by decide +kernel
theorem d_ST_join_36 : decode b_ST_join 36 = .ok (.invokevirtual 155, 3) := by decide +kernel
theorem d_ST_join_39 : decode b_ST_join 39 = .ok (.invokestatic 172, 3) := by decide +kernel
theorem d_ST_join_42 : decode b_ST_join 42 = .ok (.iconst 3, 1) := by decide +kernel
theorem d_ST_join_43 : decode b_ST_join 43 = .ok (.if_icmp .ge 13, 3) := by decide +kernel
theorem d_ST_join_46 : decode b_ST_join 46 = .ok (.new 83, 3) := by decide +kernel
theorem d_ST_join_49 : decode b_ST_join 49 = .ok (.dup, 1) := by decide +kernel
theorem d_ST_join_50 : decode b_ST_join 50 = .ok (.ldc 178, 2) := by decide +kernel
theorem d_ST_join_52 : decode b_ST_join 52 = .ok (.invokespecial 87, 3) := by decide +kernel
theorem d_ST_join_55 : decode b_ST_join 55 = .ok (.athrow, 1) := by decide +kernel
theorem d_ST_join_56 : decode b_ST_join 56 = .ok (.aload_n 2, 1) := by decide +kernel
theorem d_ST_join_57 : decode b_ST_join 57 = .ok (.aload_n 0, 1) := by decide +kernel
theorem d_ST_join_58 : decode b_ST_join 58 = .ok (.getfield 10, 3) := by decide +kernel
theorem d_ST_join_61 : decode b_ST_join 61 = .ok (.aload_n 2, 1) := by decide +kernel
theorem d_ST_join_62 : decode b_ST_join 62 = .ok (.getfield 159, 3) := by decide +kernel
theorem d_ST_join_65 : decode b_ST_join 65 = .ok (.invokevirtual 180, 3) := by decide +kernel
theorem d_ST_join_68 : decode b_ST_join 68 = .ok (.invokevirtual 184, 3) := by decide +kernel
theorem d_ST_join_71 : decode b_ST_join 71 = .ok (.aload_n 0, 1) := by decide +kernel
theorem d_ST_join_72 : decode b_ST_join 72 = .ok (.iload_n 1, 1) := by decide +kernel
theorem d_ST_join_73 : decode b_ST_join 73 = .ok (.invokevirtual 187, 3) := by decide +kernel
theorem d_ST_join_76 : decode b_ST_join 76 = .ok (.aload_n 2, 1) := by decide +kernel
theorem d_ST_join_77 : decode b_ST_join 77 = .ok (.getfield 190, 3) := by decide +kernel
theorem d_ST_join_80 : decode b_ST_join 80 = .ok (.lreturn, 1) := by decide +kernel
theorem d_ST_verify_0 : decode b_ST_verify 0 = .ok (.aload_n 0, 1) := by decide +kernel
theorem d_ST_verify_1 : decode b_ST_verify 1 = .ok (.invokevirtual 80, 3) := by decide +kernel
theorem d_ST_verify_4 : decode b_ST_verify 4 = .ok (.aload_n 0, 1) := by decide +kernel
theorem d_ST_verify_5 : decode b_ST_verify 5 = .ok (.getfield 10, 3) := by decide +kernel
theorem d_ST_verify_8 : decode b_ST_verify 8 = .ok (.lload_n 1, 1) := by decide +kernel
theorem d_ST_verify_9 : decode b_ST_verify 9 = .ok (.aload_n 0, 1) := by decide +kernel
theorem d_ST_verify_10 : decode b_ST_verify 10 = .ok (.getfield 10, 3) := by decide +kernel
theorem d_ST_verify_13 : decode b_ST_verify 13 = .ok (.aload_n 0, 1) := by decide +kernel
theorem d_ST_verify_14 : decode b_ST_verify 14 = .ok (.getfield 19, 3) := by decide +kernel
theorem d_ST_verify_17 : decode b_ST_verify 17 = .ok (.invokevirtual 88, 3) := by decide +kernel
theorem d_ST_verify_20 : decode b_ST_verify 20 = .ok (.invokevirtual 193, 3) := by decide +kernel
theorem d_ST_verify_23 : decode b_ST_verify 23 = .ok (.ireturn, 1) := by decide +kernel
theorem d_ST_refresh_0 : decode b_ST_refresh 0 = .ok (.iload_n 1, 1) := by decide +kernel
theorem d_ST_refresh_1 : decode b_ST_refresh 1 = .ok (.ifCond .lt 7, 3) := by decide +kernel
theorem d_ST_refresh_4 : decode b_ST_refresh 4 = .ok (.iload_n 2, 1) := by decide +kernel
theorem d_ST_refresh_5 : decode b_ST_refresh 5 = .ok (.ifCond .ge 13, 3) := by decide +kernel
theorem d_ST_refresh_8 : decode b_ST_refresh 8 = .ok (.new 38, 3) := by decide +kernel
theorem d_ST_refresh_11 : decode b_ST_refresh 11 = .ok (.dup, 1) := by decide +kernel
theorem d_ST_refresh_12 : decode b_ST_refresh 12 = .ok (.ldc 45, 2) := by decide +kernel
theorem d_ST_refresh_14 : decode b_ST_refresh 14 = .ok (.invokespecial 42, 3) := by decide +kernel
theorem d_ST_refresh_17 : decode b_ST_refresh 17 = .ok (.athrow, 1) := by decide +kernel
theorem d_ST_refresh_18 : decode b_ST_refresh 18 = .ok (.aload_n 0, 1) := by decide +kernel
theorem d_ST_refresh_19 : decode b_ST_refresh 19 = .ok (.invokevirtual 197, 3) := by decide +kernel
theorem d_ST_refresh_22 : decode b_ST_refresh 22 = .ok (.aload_n 0, 1) := by decide +kernel
theorem d_ST_refresh_23 : decode b_ST_refresh 23 = .ok (.getfield 10, 3) := by decide +kernel
theorem d_ST_refresh_26 : decode b_ST_refresh 26 = .ok (.iload_n 1, 1) := by decide +kernel
theorem d_ST_refresh_27 : decode b_ST_refresh 27 = .ok (.i2l, 1) := by decide +kernel
theorem d_ST_refresh_28 : decode b_ST_refresh 28 = .ok (.iload_n 2, 1) := by decide +kernel
theorem d_ST_refresh_29 : decode b_ST_refresh 29 = .ok (.i2l, 1) := by decide +kernel
theorem d_ST_refresh_30 : decode b_ST_refresh 30 = .ok (.invokevirtual 53, 3) := by decide +kernel
theorem d_ST_refresh_33 : decode b_ST_refresh 33 = .ok (.aload_n 0, 1) := by decide +kernel
theorem d_ST_refresh_34 : decode b_ST_refresh 34 = .ok (.getfield 10, 3) := by decide +kernel
theorem d_ST_refresh_37 : decode b_ST_refresh 37 = .ok (.dup, 1) := by decide +kernel
theorem d_ST_refresh_38 : decode b_ST_refresh 38 = .ok (.getfield 200, 3) := by decide +kernel
theorem d_ST_refresh_41 : decode b_ST_refresh 41 = .ok (.lconst 1, 1) := by decide +kernel
theorem d_ST_refresh_42 : decode b_ST_refresh 42 = .ok (.ladd, 1) := by decide +kernel
theorem d_ST_refresh_43 : decode b_ST_refresh 43 = .ok (.putfield 200, 3) := by decide +kernel
theorem d_ST_refresh_46 : decode b_ST_refresh 46 = .ok (.aload_n 0, 1) := by decide +kernel
theorem d_ST_refresh_47 : decode b_ST_refresh 47 = .ok (.invokevirtual 203, 3) := by decide +kernel
theorem d_ST_refresh_50 : decode b_ST_refresh 50 = .ok (.return_, 1) := by decide +kernel
theorem d_ST_suspend_0 : decode b_ST_suspend 0 = .ok (.iload_n 1, 1) := by decide +kernel
theorem d_ST_suspend_1 : decode b_ST_suspend 1 = .ok (.invokestatic 102, 3) := by decide +kernel
theorem d_ST_suspend_4 : decode b_ST_suspend 4 = .ok (.aload_n 0, 1) := by decide +kernel
theorem d_ST_suspend_5 : decode b_ST_suspend 5 = .ok (.invokevirtual 197, 3) := by decide +kernel
theorem d_ST_suspend_8 : decode b_ST_suspend 8 = .ok (.aload_n 0, 1) := by decide +kernel
theorem d_ST_suspend_9 : decode b_ST_suspend 9 = .ok (.getfield 64, 3) := by decide +kernel
theorem d_ST_suspend_12 : decode b_ST_suspend 12 = .ok (.iload_n 1, 1) := by decide +kernel
theorem d_ST_suspend_13 : decode b_ST_suspend 13 = .ok (.invokestatic 114, 3) := by decide +kernel
theorem d_ST_suspend_16 : decode b_ST_suspend 16 = .ok (.iload_n 2, 1) := by decide +kernel
theorem d_ST_suspend_17 : decode b_ST_suspend 17 = .ok (.if_icmp .ne 5, 3) := by decide +kernel
theorem d_ST_suspend_20 : decode b_ST_suspend 20 = .ok (.iconst 0, 1) := by decide +kernel
theorem d_ST_suspend_21 : decode b_ST_suspend 21 = .ok (.ireturn, 1) := by decide +kernel
theorem d_ST_suspend_22 : decode b_ST_suspend 22 = .ok (.aload_n 0, 1) := by decide +kernel
theorem d_ST_suspend_23 : decode b_ST_suspend 23 = .ok (.dup, 1) := by decide +kernel
theorem d_ST_suspend_24 : decode b_ST_suspend 24 = .ok (.getfield 64, 3) := by decide +kernel
theorem d_ST_suspend_27 : decode b_ST_suspend 27 = .ok (.iconst 1, 1) := by decide +kernel
theorem d_ST_suspend_28 : decode b_ST_suspend 28 = .ok (.iload_n 1, 1) := by decide +kernel
theorem d_ST_suspend_29 : decode b_ST_suspend 29 = .ok (.ishl, 1) := by decide +kernel
theorem d_ST_suspend_30 : decode b_ST_suspend 30 = .ok (.ixor, 1) := by decide +kernel
theorem d_ST_suspend_31 : decode b_ST_suspend 31 = .ok (.putfield 64, 3) := by decide +kernel
theorem d_ST_suspend_34 : decode b_ST_suspend 34 = .ok (.iconst 1, 1) := by decide +kernel
theorem d_ST_suspend_35 : decode b_ST_suspend 35 = .ok (.ireturn, 1) := by decide +kernel
theorem d_ST_parts_0 : decode b_ST_parts 0 = .ok (.iload_n 1, 1) := by decide +kernel
theorem d_ST_parts_1 : decode b_ST_parts 1 = .ok (.ifCond .lt 17, 3) := by decide +kernel
theorem d_ST_parts_4 : decode b_ST_parts 4 = .ok (.iload_n 1, 1) := by decide +kernel
theorem d_ST_parts_5 : decode b_ST_parts 5 = .ok (.bipush 64, 2) := by decide +kernel
theorem d_ST_parts_7 : decode b_ST_parts 7 = .ok (.if_icmp .ge 11, 3) := by decide +kernel
theorem d_ST_parts_10 : decode b_ST_parts 10 = .ok (.iload_n 1, 1) := by decide +kernel
theorem d_ST_parts_11 : decode b_ST_parts 11 = .ok (.invokestatic 172, 3) := by decide +kernel
theorem d_ST_parts_14 : decode b_ST_parts 14 = .ok (.iconst 3, 1) := by decide +kernel
theorem d_ST_parts_15 : decode b_ST_parts 15 = .ok (.if_icmp .eq 13, 3) := by decide +kernel
theorem d_ST_parts_18 : decode b_ST_parts 18 = .ok (.new 38, 3) := by decide +kernel
theorem d_ST_parts_21 : decode b_ST_parts 21 = .ok (.dup, 1) := by decide +kernel
theorem d_ST_parts_22 : decode b_ST_parts 22 = .ok (.ldc 206, 2) := by decide +kernel
theorem d_ST_parts_24 : decode b_ST_parts 24 = .ok (.invokespecial 42, 3) := by decide +kernel
theorem d_ST_parts_27 : decode b_ST_parts 27 = .ok (.athrow, 1) := by decide +kernel
theorem d_ST_parts_28 : decode b_ST_parts 28 = .ok (.aload_n 0, 1) := by decide +kernel
theorem d_ST_parts_29 : decode b_ST_parts 29 = .ok (.invokevirtual 197, 3) := by decide +kernel
theorem d_ST_parts_32 : decode b_ST_parts 32 = .ok (.aload_n 0, 1) := by decide +kernel
theorem d_ST_parts_33 : decode b_ST_parts 33 = .ok (.getfield 10, 3) := by decide +kernel
theorem d_ST_parts_36 : decode b_ST_parts 36 = .ok (.iload_n 1, 1) := by decide +kernel
theorem d_ST_parts_37 : decode b_ST_parts 37 = .ok (.invokevirtual 208, 3) := by decide +kernel
theorem d_ST_parts_40 : decode b_ST_parts 40 = .ok (.ireturn, 1) := by decide +kernel
theorem d_ST_told_0 : decode b_ST_told 0 = .ok (.aload_n 0, 1) := by decide +kernel
theorem d_ST_told_1 : decode b_ST_told 1 = .ok (.iload_n 1, 1) := by decide +kernel
theorem d_ST_told_2 : decode b_ST_told 2 = .ok (.invokevirtual 98, 3) := by decide +kernel
theorem d_ST_told_5 : decode b_ST_told 5 = .ok (.astore_n 3, 1) := by decide +kernel
theorem d_ST_told_6 : decode b_ST_told 6 = .ok (.iload_n 2, 1) := by decide +kernel
theorem d_ST_told_7 : decode b_ST_told 7 = .ok (.tableswitch 61 0 4 #[33, 39, 44, 50, 56], 33) := by decide +kernel
theorem d_ST_told_40 : decode b_ST_told 40 = .ok (.aload_n 3, 1) := by decide +kernel
theorem d_ST_told_41 : decode b_ST_told 41 = .ok (.getfield 211, 3) := by decide +kernel
theorem d_ST_told_44 : decode b_ST_told 44 = .ok (.i2l, 1) := by decide +kernel
theorem d_ST_told_45 : decode b_ST_told 45 = .ok (.lreturn, 1) := by decide +kernel
theorem d_ST_told_46 : decode b_ST_told 46 = .ok (.aload_n 3, 1) := by decide +kernel
theorem d_ST_told_47 : decode b_ST_told 47 = .ok (.getfield 159, 3) := by decide +kernel
theorem d_ST_told_50 : decode b_ST_told 50 = .ok (.lreturn, 1) := by decide +kernel
theorem d_ST_told_51 : decode b_ST_told 51 = .ok (.aload_n 3, 1) := by decide +kernel
theorem d_ST_told_52 : decode b_ST_told 52 = .ok (.getfield 135, 3) := by decide +kernel
theorem d_ST_told_55 : decode b_ST_told 55 = .ok (.i2l, 1) := by decide +kernel
theorem d_ST_told_56 : decode b_ST_told 56 = .ok (.lreturn, 1) := by decide +kernel
theorem d_ST_told_57 : decode b_ST_told 57 = .ok (.aload_n 3, 1) := by decide +kernel
theorem d_ST_told_58 : decode b_ST_told 58 = .ok (.getfield 126, 3) := by decide +kernel
theorem d_ST_told_61 : decode b_ST_told 61 = .ok (.i2l, 1) := by decide +kernel
theorem d_ST_told_62 : decode b_ST_told 62 = .ok (.lreturn, 1) := by decide +kernel
theorem d_ST_told_63 : decode b_ST_told 63 = .ok (.aload_n 3, 1) := by decide +kernel
theorem d_ST_told_64 : decode b_ST_told 64 = .ok (.getfield 190, 3) := by decide +kernel
theorem d_ST_told_67 : decode b_ST_told 67 = .ok (.lreturn, 1) := by decide +kernel
theorem d_ST_told_68 : decode b_ST_told 68 = .ok (.new 38, 3) := by decide +kernel
theorem d_ST_told_71 : decode b_ST_told 71 = .ok (.dup, 1) := by decide +kernel
theorem d_ST_told_72 : decode b_ST_told 72 = .ok (.ldc 214, 2) := by decide +kernel
theorem d_ST_told_74 : decode b_ST_told 74 = .ok (.invokespecial 42, 3) := by decide +kernel
theorem d_ST_told_77 : decode b_ST_told 77 = .ok (.athrow, 1) := by decide +kernel
theorem d_ST_book_0 : decode b_ST_book 0 = .ok (.iload_n 1, 1) := by decide +kernel
theorem d_ST_book_1 : decode b_ST_book 1 = .ok (.ifCond .ge 13, 3) := by decide +kernel
theorem d_ST_book_4 : decode b_ST_book 4 = .ok (.new 38, 3) := by decide +kernel
theorem d_ST_book_7 : decode b_ST_book 7 = .ok (.dup, 1) := by decide +kernel
theorem d_ST_book_8 : decode b_ST_book 8 = .ok (.ldc 216, 2) := by decide +kernel
theorem d_ST_book_10 : decode b_ST_book 10 = .ok (.invokespecial 42, 3) := by decide +kernel
theorem d_ST_book_13 : decode b_ST_book 13 = .ok (.athrow, 1) := by decide +kernel
theorem d_ST_book_14 : decode b_ST_book 14 = .ok (.iload_n 1, 1) := by decide +kernel
theorem d_ST_book_15 : decode b_ST_book 15 = .ok (.aload_n 0, 1) := by decide +kernel
theorem d_ST_book_16 : decode b_ST_book 16 = .ok (.getfield 61, 3) := by decide +kernel
theorem d_ST_book_19 : decode b_ST_book 19 = .ok (.if_icmp .ge 12, 3) := by decide +kernel
theorem d_ST_book_22 : decode b_ST_book 22 = .ok (.aload_n 0, 1) := by decide +kernel
theorem d_ST_book_23 : decode b_ST_book 23 = .ok (.getfield 30, 3) := by decide +kernel
theorem d_ST_book_26 : decode b_ST_book 26 = .ok (.iload_n 1, 1) := by decide +kernel
theorem d_ST_book_27 : decode b_ST_book 27 = .ok (.iaload, 1) := by decide +kernel
theorem d_ST_book_28 : decode b_ST_book 28 = .ok (.goto 4, 3) := by decide +kernel
theorem d_ST_book_31 : decode b_ST_book 31 = .ok (.iconst (-1), 1) := by decide +kernel
theorem d_ST_book_32 : decode b_ST_book 32 = .ok (.ireturn, 1) := by decide +kernel
theorem d_ST_state_0 : decode b_ST_state 0 = .ok (.iload_n 1, 1) := by decide +kernel
theorem d_ST_state_1 : decode b_ST_state 1 = .ok (.ifCond .lt 9, 3) := by decide +kernel
theorem d_ST_state_4 : decode b_ST_state 4 = .ok (.iload_n 1, 1) := by decide +kernel
theorem d_ST_state_5 : decode b_ST_state 5 = .ok (.bipush 10, 2) := by decide +kernel
theorem d_ST_state_7 : decode b_ST_state 7 = .ok (.if_icmp .le 13, 3) := by decide +kernel
theorem d_ST_state_10 : decode b_ST_state 10 = .ok (.new 38, 3) := by decide +kernel
theorem d_ST_state_13 : decode b_ST_state 13 = .ok (.dup, 1) := by decide +kernel
theorem d_ST_state_14 : decode b_ST_state 14 = .ok (.ldc 218, 2) := by decide +kernel
theorem d_ST_state_16 : decode b_ST_state 16 = .ok (.invokespecial 42, 3) := by decide +kernel
theorem d_ST_state_19 : decode b_ST_state 19 = .ok (.athrow, 1) := by decide +kernel
theorem d_ST_state_20 : decode b_ST_state 20 = .ok (.iload_n 1, 1) := by decide +kernel
theorem d_ST_state_21 : decode b_ST_state 21 = .ok (.iconst 4, 1) := by decide +kernel
theorem d_ST_state_22 : decode b_ST_state 22 = .ok (.if_icmp .ne 12, 3) := by decide +kernel
theorem d_ST_state_25 : decode b_ST_state 25 = .ok (.aload_n 0, 1) := by decide +kernel
theorem d_ST_state_26 : decode b_ST_state 26 = .ok (.getfield 19, 3) := by decide +kernel
theorem d_ST_state_29 : decode b_ST_state 29 = .ok (.invokevirtual 77, 3) := by decide +kernel
theorem d_ST_state_32 : decode b_ST_state 32 = .ok (.i2l, 1) := by decide +kernel
theorem d_ST_state_33 : decode b_ST_state 33 = .ok (.lreturn, 1) := by decide +kernel
theorem d_ST_state_34 : decode b_ST_state 34 = .ok (.aload_n 0, 1) := by decide +kernel
theorem d_ST_state_35 : decode b_ST_state 35 = .ok (.getfield 10, 3) := by decide +kernel
theorem d_ST_state_38 : decode b_ST_state 38 = .ok (.getfield 220, 3) := by decide +kernel
theorem d_ST_state_41 : decode b_ST_state 41 = .ok (.ifCond .ne 5, 3) := by decide +kernel
theorem d_ST_state_44 : decode b_ST_state 44 = .ok (.lconst 0, 1) := by decide +kernel
theorem d_ST_state_45 : decode b_ST_state 45 = .ok (.lreturn, 1) := by decide +kernel
theorem d_ST_state_46 : decode b_ST_state 46 = .ok (.iload_n 1, 1) := by decide +kernel
theorem d_ST_state_47 : decode b_ST_state 47 = .ok (.tableswitch 57 0 3 #[29, 37, 45, 51], 29) := by decide +kernel
theorem d_ST_state_76 : decode b_ST_state 76 = .ok (.aload_n 0, 1) := by decide +kernel
theorem d_ST_state_77 : decode b_ST_state 77 = .ok (.getfield 10, 3) := by decide +kernel
theorem d_ST_state_80 : decode b_ST_state 80 = .ok (.getfield 224, 3) := by decide +kernel
theorem d_ST_state_83 : decode b_ST_state 83 = .ok (.lreturn, 1) := by decide +kernel
theorem d_ST_state_84 : decode b_ST_state 84 = .ok (.aload_n 0, 1) := by decide +kernel
theorem d_ST_state_85 : decode b_ST_state 85 = .ok (.getfield 10, 3) := by decide +kernel
theorem d_ST_state_88 : decode b_ST_state 88 = .ok (.getfield 200, 3) := by decide +kernel
theorem d_ST_state_91 : decode b_ST_state 91 = .ok (.lreturn, 1) := by decide +kernel
theorem d_ST_state_92 : decode b_ST_state 92 = .ok (.aload_n 0, 1) := by decide +kernel
theorem d_ST_state_93 : decode b_ST_state 93 = .ok (.getfield 57, 3) := by decide +kernel
theorem d_ST_state_96 : decode b_ST_state 96 = .ok (.i2l, 1) := by decide +kernel
theorem d_ST_state_97 : decode b_ST_state 97 = .ok (.lreturn, 1) := by decide +kernel
theorem d_ST_state_98 : decode b_ST_state 98 = .ok (.aload_n 0, 1) := by decide +kernel
theorem d_ST_state_99 : decode b_ST_state 99 = .ok (.getfield 64, 3) := by decide +kernel
theorem d_ST_state_102 : decode b_ST_state 102 = .ok (.i2l, 1) := by decide +kernel
theorem d_ST_state_103 : decode b_ST_state 103 = .ok (.lreturn, 1) := by decide +kernel
theorem d_ST_state_104 : decode b_ST_state 104 = .ok (.aload_n 0, 1) := by decide +kernel
theorem d_ST_state_105 : decode b_ST_state 105 = .ok (.getfield 10, 3) := by decide +kernel
theorem d_ST_state_108 : decode b_ST_state 108 = .ok (.getfield 227, 3) := by decide +kernel
theorem d_ST_state_111 : decode b_ST_state 111 = .ok (.iload_n 1, 1) := by decide +kernel
theorem d_ST_state_112 : decode b_ST_state 112 = .ok (.iconst 5, 1) := by decide +kernel
theorem d_ST_state_113 : decode b_ST_state 113 = .ok (.isub, 1) := by decide +kernel
theorem d_ST_state_114 : decode b_ST_state 114 = .ok (.laload, 1) := by decide +kernel
theorem d_ST_state_115 : decode b_ST_state 115 = .ok (.lreturn, 1) := by decide +kernel
theorem d_ST_requireKey_0 : decode b_ST_requireKey 0 = .ok (.aload_n 0, 1) := by decide +kernel
theorem d_ST_requireKey_1 : decode b_ST_requireKey 1 = .ok (.getfield 10, 3) := by decide +kernel
theorem d_ST_requireKey_4 : decode b_ST_requireKey 4 = .ok (.getfield 220, 3) := by decide +kernel
theorem d_ST_requireKey_7 : decode b_ST_requireKey 7 = .ok (.ifCond .ne 13, 3) := by decide +kernel
theorem d_ST_requireKey_10 : decode b_ST_requireKey 10 = .ok (.new 83, 3) := by decide +kernel
theorem d_ST_requireKey_13 : decode b_ST_requireKey 13 = .ok (.dup, 1) := by decide +kernel
theorem d_ST_requireKey_14 : decode b_ST_requireKey 14 = .ok (.ldc 230, 2) := by decide +kernel
theorem d_ST_requireKey_16 : decode b_ST_requireKey 16 = .ok (.invokespecial 87, 3) := by decide +kernel
theorem d_ST_requireKey_19 : decode b_ST_requireKey 19 = .ok (.athrow, 1) := by decide +kernel
theorem d_ST_requireKey_20 : decode b_ST_requireKey 20 = .ok (.return_, 1) := by decide +kernel
theorem d_ST_requireDocument_0 : decode b_ST_requireDocument 0 = .ok (.aload_n 0, 1) := by decide +kernel
theorem d_ST_requireDocument_1 : decode b_ST_requireDocument 1 = .ok (.invokevirtual 197, 3) := by decide +kernel
theorem d_ST_requireDocument_4 : decode b_ST_requireDocument 4 = .ok (.aload_n 0, 1) := by decide +kernel
theorem d_ST_requireDocument_5 : decode b_ST_requireDocument 5 = .ok (.getfield 19, 3) := by decide +kernel
theorem d_ST_requireDocument_8 : decode b_ST_requireDocument 8 = .ok (.invokevirtual 77, 3) := by decide +kernel
theorem d_ST_requireDocument_11 : decode b_ST_requireDocument 11 = .ok (.ifCond .ne 13, 3) := by decide +kernel
theorem d_ST_requireDocument_14 : decode b_ST_requireDocument 14 = .ok (.new 83, 3) := by decide +kernel
theorem d_ST_requireDocument_17 : decode b_ST_requireDocument 17 = .ok (.dup, 1) := by decide +kernel
theorem d_ST_requireDocument_18 : decode b_ST_requireDocument 18 = .ok (.ldc 232, 2) := by decide +kernel
theorem d_ST_requireDocument_20 : decode b_ST_requireDocument 20 = .ok (.invokespecial 87, 3) := by decide +kernel
theorem d_ST_requireDocument_23 : decode b_ST_requireDocument 23 = .ok (.athrow, 1) := by decide +kernel
theorem d_ST_requireDocument_24 : decode b_ST_requireDocument 24 = .ok (.return_, 1) := by decide +kernel
theorem d_ST_motionAt_0 : decode b_ST_motionAt 0 = .ok (.iload_n 1, 1) := by decide +kernel
theorem d_ST_motionAt_1 : decode b_ST_motionAt 1 = .ok (.ifCond .lt 11, 3) := by decide +kernel
theorem d_ST_motionAt_4 : decode b_ST_motionAt 4 = .ok (.iload_n 1, 1) := by decide +kernel
theorem d_ST_motionAt_5 : decode b_ST_motionAt 5 = .ok (.aload_n 0, 1) := by decide +kernel
theorem d_ST_motionAt_6 : decode b_ST_motionAt 6 = .ok (.getfield 57, 3) := by decide +kernel
theorem d_ST_motionAt_9 : decode b_ST_motionAt 9 = .ok (.if_icmp .lt 13, 3) := by decide +kernel
theorem d_ST_motionAt_12 : decode b_ST_motionAt 12 = .ok (.new 138, 3) := by decide +kernel
theorem d_ST_motionAt_15 : decode b_ST_motionAt 15 = .ok (.dup, 1) := by decide +kernel
theorem d_ST_motionAt_16 : decode b_ST_motionAt 16 = .ok (.ldc 234, 2) := by decide +kernel
theorem d_ST_motionAt_18 : decode b_ST_motionAt 18 = .ok (.invokespecial 142, 3) := by decide +kernel
theorem d_ST_motionAt_21 : decode b_ST_motionAt 21 = .ok (.athrow, 1) := by decide +kernel
theorem d_ST_motionAt_22 : decode b_ST_motionAt 22 = .ok (.aload_n 0, 1) := by decide +kernel
theorem d_ST_motionAt_23 : decode b_ST_motionAt 23 = .ok (.getfield 25, 3) := by decide +kernel
theorem d_ST_motionAt_26 : decode b_ST_motionAt 26 = .ok (.iload_n 1, 1) := by decide +kernel
theorem d_ST_motionAt_27 : decode b_ST_motionAt 27 = .ok (.aaload, 1) := by decide +kernel
theorem d_ST_motionAt_28 : decode b_ST_motionAt 28 = .ok (.areturn, 1) := by decide +kernel
theorem d_ST_requireTrustee_0 : decode b_ST_requireTrustee 0 = .ok (.iload_n 0, 1) := by decide +kernel
theorem d_ST_requireTrustee_1 : decode b_ST_requireTrustee 1 = .ok (.ifCond .lt 9, 3) := by decide +kernel
theorem d_ST_requireTrustee_4 : decode b_ST_requireTrustee 4 = .ok (.iload_n 0, 1) := by decide +kernel
theorem d_ST_requireTrustee_5 : decode b_ST_requireTrustee 5 = .ok (.bipush 6, 2) := by decide +kernel
theorem d_ST_requireTrustee_7 : decode b_ST_requireTrustee 7 = .ok (.if_icmp .lt 13, 3) := by decide +kernel
theorem d_ST_requireTrustee_10 : decode b_ST_requireTrustee 10 = .ok (.new 138, 3) := by decide +kernel
theorem d_ST_requireTrustee_13 : decode b_ST_requireTrustee 13 = .ok (.dup, 1) := by decide +kernel
theorem d_ST_requireTrustee_14 : decode b_ST_requireTrustee 14 = .ok (.ldc 236, 2) := by decide +kernel
theorem d_ST_requireTrustee_16 : decode b_ST_requireTrustee 16 = .ok (.invokespecial 142, 3) := by decide +kernel
theorem d_ST_requireTrustee_19 : decode b_ST_requireTrustee 19 = .ok (.athrow, 1) := by decide +kernel
theorem d_ST_requireTrustee_20 : decode b_ST_requireTrustee 20 = .ok (.return_, 1) := by decide +kernel
theorem d_ST_requireOpen_0 : decode b_ST_requireOpen 0 = .ok (.aload_n 0, 1) := by decide +kernel
theorem d_ST_requireOpen_1 : decode b_ST_requireOpen 1 = .ok (.getfield 211, 3) := by decide +kernel
theorem d_ST_requireOpen_4 : decode b_ST_requireOpen 4 = .ok (.ifCond .eq 13, 3) := by decide +kernel
theorem d_ST_requireOpen_7 : decode b_ST_requireOpen 7 = .ok (.new 83, 3) := by decide +kernel
theorem d_ST_requireOpen_10 : decode b_ST_requireOpen 10 = .ok (.dup, 1) := by decide +kernel
theorem d_ST_requireOpen_11 : decode b_ST_requireOpen 11 = .ok (.ldc 238, 2) := by decide +kernel
theorem d_ST_requireOpen_13 : decode b_ST_requireOpen 13 = .ok (.invokespecial 87, 3) := by decide +kernel
theorem d_ST_requireOpen_16 : decode b_ST_requireOpen 16 = .ok (.athrow, 1) := by decide +kernel
theorem d_ST_requireOpen_17 : decode b_ST_requireOpen 17 = .ok (.return_, 1) := by decide +kernel
theorem d_ST_requireNoVoice_0 : decode b_ST_requireNoVoice 0 = .ok (.aload_n 0, 1) := by decide +kernel
theorem d_ST_requireNoVoice_1 : decode b_ST_requireNoVoice 1 = .ok (.getfield 135, 3) := by decide +kernel
theorem d_ST_requireNoVoice_4 : decode b_ST_requireNoVoice 4 = .ok (.aload_n 0, 1) := by decide +kernel
theorem d_ST_requireNoVoice_5 : decode b_ST_requireNoVoice 5 = .ok (.getfield 126, 3) := by decide +kernel
theorem d_ST_requireNoVoice_8 : decode b_ST_requireNoVoice 8 = .ok (.ior, 1) := by decide +kernel
theorem d_ST_requireNoVoice_9 : decode b_ST_requireNoVoice 9 = .ok (.iload_n 1, 1) := by decide +kernel
theorem d_ST_requireNoVoice_10 : decode b_ST_requireNoVoice 10 = .ok (.invokestatic 114, 3) := by decide +kernel
theorem d_ST_requireNoVoice_13 : decode b_ST_requireNoVoice 13 = .ok (.ifCond .eq 13, 3) := by decide +kernel
theorem d_ST_requireNoVoice_16 : decode b_ST_requireNoVoice 16 = .ok (.new 83, 3) := by decide +kernel
theorem d_ST_requireNoVoice_19 : decode b_ST_requireNoVoice 19 = .ok (.dup, 1) := by decide +kernel
theorem d_ST_requireNoVoice_20 : decode b_ST_requireNoVoice 20 = .ok (.ldc 240, 2) := by decide +kernel
theorem d_ST_requireNoVoice_22 : decode b_ST_requireNoVoice 22 = .ok (.invokespecial 87, 3) := by decide +kernel
theorem d_ST_requireNoVoice_25 : decode b_ST_requireNoVoice 25 = .ok (.athrow, 1) := by decide +kernel
theorem d_ST_requireNoVoice_26 : decode b_ST_requireNoVoice 26 = .ok (.return_, 1) := by decide +kernel
theorem d_ST_goodPartials_0 : decode b_ST_goodPartials 0 = .ok (.iconst 0, 1) := by decide +kernel
theorem d_ST_goodPartials_1 : decode b_ST_goodPartials 1 = .ok (.istore_n 2, 1) := by decide +kernel
theorem d_ST_goodPartials_2 : decode b_ST_goodPartials 2 = .ok (.iconst 0, 1) := by decide +kernel
theorem d_ST_goodPartials_3 : decode b_ST_goodPartials 3 = .ok (.istore_n 3, 1) := by decide +kernel
theorem d_ST_goodPartials_4 : decode b_ST_goodPartials 4 = .ok (.iload_n 3, 1) := by decide +kernel
theorem d_ST_goodPartials_5 : decode b_ST_goodPartials 5 = .ok (.bipush 6, 2) := by decide +kernel
theorem d_ST_goodPartials_7 : decode b_ST_goodPartials 7 = .ok (.if_icmp .ge 38, 3) := by decide +kernel
theorem d_ST_goodPartials_10 : decode b_ST_goodPartials 10 = .ok (.aload_n 1, 1) := by decide +kernel
theorem d_ST_goodPartials_11 : decode b_ST_goodPartials 11 = .ok (.getfield 135, 3) := by decide +kernel
theorem d_ST_goodPartials_14 : decode b_ST_goodPartials 14 = .ok (.iload_n 3, 1) := by decide +kernel
theorem d_ST_goodPartials_15 : decode b_ST_goodPartials 15 = .ok (.invokestatic 114, 3) := by decide +kernel
theorem d_ST_goodPartials_18 : decode b_ST_goodPartials 18 = .ok (.ifCond .eq 21, 3) := by decide +kernel
theorem d_ST_goodPartials_21 : decode b_ST_goodPartials 21 = .ok (.aload_n 0, 1) := by decide +kernel
theorem d_ST_goodPartials_22 : decode b_ST_goodPartials 22 = .ok (.getfield 10, 3) := by decide +kernel
theorem d_ST_goodPartials_25 : decode b_ST_goodPartials 25 = .ok (.aload_n 1, 1) := by decide +kernel
theorem d_ST_goodPartials_26 : decode b_ST_goodPartials 26 = .ok (.iload_n 3, 1) := by decide +kernel
theorem d_ST_goodPartials_27 : decode b_ST_goodPartials 27 = .ok (.invokevirtual 242, 3) := by decide +kernel
theorem d_ST_goodPartials_30 : decode b_ST_goodPartials 30 = .ok (.ifCond .eq 9, 3) := by decide +kernel
theorem d_ST_goodPartials_33 : decode b_ST_goodPartials 33 = .ok (.iload_n 2, 1) := by decide +kernel
theorem d_ST_goodPartials_34 : decode b_ST_goodPartials 34 = .ok (.iconst 1, 1) := by decide +kernel
theorem d_ST_goodPartials_35 : decode b_ST_goodPartials 35 = .ok (.iload_n 3, 1) := by decide +kernel
theorem d_ST_goodPartials_36 : decode b_ST_goodPartials 36 = .ok (.ishl, 1) := by decide +kernel
theorem d_ST_goodPartials_37 : decode b_ST_goodPartials 37 = .ok (.ior, 1) := by decide +kernel
theorem d_ST_goodPartials_38 : decode b_ST_goodPartials 38 = .ok (.istore_n 2, 1) := by decide +kernel
theorem d_ST_goodPartials_39 : decode b_ST_goodPartials 39 = .ok (.iinc 3 1, 3) := by decide +kernel
theorem d_ST_goodPartials_42 : decode b_ST_goodPartials 42 = .ok (.goto (-38), 3) := by decide +kernel
theorem d_ST_goodPartials_45 : decode b_ST_goodPartials 45 = .ok (.iload_n 2, 1) := by decide +kernel
theorem d_ST_goodPartials_46 : decode b_ST_goodPartials 46 = .ok (.ireturn, 1) := by decide +kernel
theorem d_ST_dropOpenPartials_0 : decode b_ST_dropOpenPartials 0 = .ok (.iconst 0, 1) := by decide +kernel
theorem d_ST_dropOpenPartials_1 : decode b_ST_dropOpenPartials 1 = .ok (.istore_n 1, 1) := by decide +kernel
theorem d_ST_dropOpenPartials_2 : decode b_ST_dropOpenPartials 2 = .ok (.iload_n 1, 1) := by decide +kernel
theorem d_ST_dropOpenPartials_3 : decode b_ST_dropOpenPartials 3 = .ok (.aload_n 0, 1) := by decide +kernel
theorem d_ST_dropOpenPartials_4 : decode b_ST_dropOpenPartials 4 = .ok (.getfield 57, 3) := by decide +kernel
theorem d_ST_dropOpenPartials_7 : decode b_ST_dropOpenPartials 7 = .ok (.if_icmp .ge 30, 3) := by decide +kernel
theorem d_ST_dropOpenPartials_10 : decode b_ST_dropOpenPartials 10 = .ok (.aload_n 0, 1) := by decide +kernel
theorem d_ST_dropOpenPartials_11 : decode b_ST_dropOpenPartials 11 = .ok (.getfield 25, 3) := by decide +kernel
theorem d_ST_dropOpenPartials_14 : decode b_ST_dropOpenPartials 14 = .ok (.iload_n 1, 1) := by decide +kernel
theorem d_ST_dropOpenPartials_15 : decode b_ST_dropOpenPartials 15 = .ok (.aaload, 1) := by decide +kernel
theorem d_ST_dropOpenPartials_16 : decode b_ST_dropOpenPartials 16 = .ok (.getfield 211, 3) := by decide +kernel
theorem d_ST_dropOpenPartials_19 : decode b_ST_dropOpenPartials 19 = .ok (.ifCond .ne 12, 3) := by decide +kernel
theorem d_ST_dropOpenPartials_22 : decode b_ST_dropOpenPartials 22 = .ok (.aload_n 0, 1) := by decide +kernel
theorem d_ST_dropOpenPartials_23 : decode b_ST_dropOpenPartials 23 = .ok (.getfield 25, 3) := by decide +kernel
theorem d_ST_dropOpenPartials_26 : decode b_ST_dropOpenPartials 26 = .ok (.iload_n 1, 1) := by decide +kernel
theorem d_ST_dropOpenPartials_27 : decode b_ST_dropOpenPartials 27 = .ok (.aaload, 1) := by decide +kernel
theorem d_ST_dropOpenPartials_28 : decode b_ST_dropOpenPartials 28 = .ok (.invokevirtual 246, 3) := by decide +kernel
theorem d_ST_dropOpenPartials_31 : decode b_ST_dropOpenPartials 31 = .ok (.iinc 1 1, 3) := by decide +kernel
theorem d_ST_dropOpenPartials_34 : decode b_ST_dropOpenPartials 34 = .ok (.goto (-32), 3) := by decide +kernel
theorem d_ST_dropOpenPartials_37 : decode b_ST_dropOpenPartials 37 = .ok (.return_, 1) := by decide +kernel
theorem d_ST_enter_0 : decode b_ST_enter 0 = .ok (.aload_n 0, 1) := by decide +kernel
theorem d_ST_enter_1 : decode b_ST_enter 1 = .ok (.getfield 61, 3) := by decide +kernel
theorem d_ST_enter_4 : decode b_ST_enter 4 = .ok (.bipush 12, 2) := by decide +kernel
theorem d_ST_enter_6 : decode b_ST_enter 6 = .ok (.if_icmp .ge 23, 3) := by decide +kernel
theorem d_ST_enter_9 : decode b_ST_enter 9 = .ok (.aload_n 0, 1) := by decide +kernel
theorem d_ST_enter_10 : decode b_ST_enter 10 = .ok (.getfield 30, 3) := by decide +kernel
theorem d_ST_enter_13 : decode b_ST_enter 13 = .ok (.aload_n 0, 1) := by decide +kernel
theorem d_ST_enter_14 : decode b_ST_enter 14 = .ok (.getfield 61, 3) := by decide +kernel
theorem d_ST_enter_17 : decode b_ST_enter 17 = .ok (.iload_n 1, 1) := by decide +kernel
theorem d_ST_enter_18 : decode b_ST_enter 18 = .ok (.iastore, 1) := by decide +kernel
theorem d_ST_enter_19 : decode b_ST_enter 19 = .ok (.aload_n 0, 1) := by decide +kernel
theorem d_ST_enter_20 : decode b_ST_enter 20 = .ok (.dup, 1) := by decide +kernel
theorem d_ST_enter_21 : decode b_ST_enter 21 = .ok (.getfield 61, 3) := by decide +kernel
theorem d_ST_enter_24 : decode b_ST_enter 24 = .ok (.iconst 1, 1) := by decide +kernel
theorem d_ST_enter_25 : decode b_ST_enter 25 = .ok (.iadd, 1) := by decide +kernel
theorem d_ST_enter_26 : decode b_ST_enter 26 = .ok (.putfield 61, 3) := by decide +kernel
theorem d_ST_enter_29 : decode b_ST_enter 29 = .ok (.return_, 1) := by decide +kernel
theorem d_ST_isIn_0 : decode b_ST_isIn 0 = .ok (.iload_n 0, 1) := by decide +kernel
theorem d_ST_isIn_1 : decode b_ST_isIn 1 = .ok (.iload_n 1, 1) := by decide +kernel
theorem d_ST_isIn_2 : decode b_ST_isIn 2 = .ok (.iushr, 1) := by decide +kernel
theorem d_ST_isIn_3 : decode b_ST_isIn 3 = .ok (.iconst 1, 1) := by decide +kernel
theorem d_ST_isIn_4 : decode b_ST_isIn 4 = .ok (.iand, 1) := by decide +kernel
theorem d_ST_isIn_5 : decode b_ST_isIn 5 = .ok (.iconst 1, 1) := by decide +kernel
theorem d_ST_isIn_6 : decode b_ST_isIn 6 = .ok (.if_icmp .ne 7, 3) := by decide +kernel
theorem d_ST_isIn_9 : decode b_ST_isIn 9 = .ok (.iconst 1, 1) := by decide +kernel
theorem d_ST_isIn_10 : decode b_ST_isIn 10 = .ok (.goto 4, 3) := by decide +kernel
theorem d_ST_isIn_13 : decode b_ST_isIn 13 = .ok (.iconst 0, 1) := by decide +kernel
theorem d_ST_isIn_14 : decode b_ST_isIn 14 = .ok (.ireturn, 1) := by decide +kernel
theorem d_ST_isSafePrime_0 : decode b_ST_isSafePrime 0 = .ok (.iload_n 0, 1) := by decide +kernel
theorem d_ST_isSafePrime_1 : decode b_ST_isSafePrime 1 = .ok (.bipush 20, 2) := by decide +kernel
theorem d_ST_isSafePrime_3 : decode b_ST_isSafePrime 3 = .ok (.if_icmp .lt 32, 3) := by decide +kernel
theorem d_ST_isSafePrime_6 : decode b_ST_isSafePrime 6 = .ok (.iload_n 0, 1) := by decide +kernel
theorem d_ST_isSafePrime_7 : decode b_ST_isSafePrime 7 = .ok (.sipush 32767, 3) := by decide +kernel
theorem d_ST_isSafePrime_10 : decode b_ST_isSafePrime 10 = .ok (.if_icmp .gt 25, 3) := by decide +kernel
theorem d_ST_isSafePrime_13 : decode b_ST_isSafePrime 13 = .ok (.iload_n 0, 1) := by decide +kernel
theorem d_ST_isSafePrime_14 : decode b_ST_isSafePrime 14 = .ok (.invokestatic 249, 3) := by decide +kernel
theorem d_ST_isSafePrime_17 : decode b_ST_isSafePrime 17 = .ok (.ifCond .eq 18, 3) := by decide +kernel
theorem d_ST_isSafePrime_20 : decode b_ST_isSafePrime 20 = .ok (.iload_n 0, 1) := by decide +kernel
theorem d_ST_isSafePrime_21 : decode b_ST_isSafePrime 21 = .ok (.iconst 1, 1) := by decide +kernel
theorem d_ST_isSafePrime_22 : decode b_ST_isSafePrime 22 = .ok (.isub, 1) := by decide +kernel
theorem d_ST_isSafePrime_23 : decode b_ST_isSafePrime 23 = .ok (.iconst 2, 1) := by decide +kernel
theorem d_ST_isSafePrime_24 : decode b_ST_isSafePrime 24 = .ok (.idiv, 1) := by decide +kernel
theorem d_ST_isSafePrime_25 : decode b_ST_isSafePrime 25 = .ok (.invokestatic 249, 3) := by decide +kernel
theorem d_ST_isSafePrime_28 : decode b_ST_isSafePrime 28 = .ok (.ifCond .eq 7, 3) := by decide +kernel
theorem d_ST_isSafePrime_31 : decode b_ST_isSafePrime 31 = .ok (.iconst 1, 1) := by decide +kernel
theorem d_ST_isSafePrime_32 : decode b_ST_isSafePrime 32 = .ok (.goto 4, 3) := by decide +kernel
theorem d_ST_isSafePrime_35 : decode b_ST_isSafePrime 35 = .ok (.iconst 0, 1) := by decide +kernel
theorem d_ST_isSafePrime_36 : decode b_ST_isSafePrime 36 = .ok (.ireturn, 1) := by decide +kernel
theorem d_ST_isPrime_0 : decode b_ST_isPrime 0 = .ok (.iconst 2, 1) := by decide +kernel
theorem d_ST_isPrime_1 : decode b_ST_isPrime 1 = .ok (.istore_n 1, 1) := by decide +kernel
theorem d_ST_isPrime_2 : decode b_ST_isPrime 2 = .ok (.iload_n 1, 1) := by decide +kernel
theorem d_ST_isPrime_3 : decode b_ST_isPrime 3 = .ok (.iload_n 1, 1) := by decide +kernel
theorem d_ST_isPrime_4 : decode b_ST_isPrime 4 = .ok (.imul, 1) := by decide +kernel
theorem d_ST_isPrime_5 : decode b_ST_isPrime 5 = .ok (.iload_n 0, 1) := by decide +kernel
theorem d_ST_isPrime_6 : decode b_ST_isPrime 6 = .ok (.if_icmp .gt 17, 3) := by decide +kernel
theorem d_ST_isPrime_9 : decode b_ST_isPrime 9 = .ok (.iload_n 0, 1) := by decide +kernel
theorem d_ST_isPrime_10 : decode b_ST_isPrime 10 = .ok (.iload_n 1, 1) := by decide +kernel
theorem d_ST_isPrime_11 : decode b_ST_isPrime 11 = .ok (.irem, 1) := by decide +kernel
theorem d_ST_isPrime_12 : decode b_ST_isPrime 12 = .ok (.ifCond .ne 5, 3) := by decide +kernel
theorem d_ST_isPrime_15 : decode b_ST_isPrime 15 = .ok (.iconst 0, 1) := by decide +kernel
theorem d_ST_isPrime_16 : decode b_ST_isPrime 16 = .ok (.ireturn, 1) := by decide +kernel
theorem d_ST_isPrime_17 : decode b_ST_isPrime 17 = .ok (.iinc 1 1, 3) := by decide +kernel
theorem d_ST_isPrime_20 : decode b_ST_isPrime 20 = .ok (.goto (-18), 3) := by decide +kernel
theorem d_ST_isPrime_23 : decode b_ST_isPrime 23 = .ok (.iload_n 0, 1) := by decide +kernel
theorem d_ST_isPrime_24 : decode b_ST_isPrime 24 = .ok (.iconst 2, 1) := by decide +kernel
theorem d_ST_isPrime_25 : decode b_ST_isPrime 25 = .ok (.if_icmp .lt 7, 3) := by decide +kernel
theorem d_ST_isPrime_28 : decode b_ST_isPrime 28 = .ok (.iconst 1, 1) := by decide +kernel
theorem d_ST_isPrime_29 : decode b_ST_isPrime 29 = .ok (.goto 4, 3) := by decide +kernel
theorem d_ST_isPrime_32 : decode b_ST_isPrime 32 = .ok (.iconst 0, 1) := by decide +kernel
theorem d_ST_isPrime_33 : decode b_ST_isPrime 33 = .ok (.ireturn, 1) := by decide +kernel
theorem d_ST_mixIn_0 : decode b_ST_mixIn 0 = .ok (.lload_n 0, 1) := by decide +kernel
theorem d_ST_mixIn_1 : decode b_ST_mixIn 1 = .ok (.lload_n 2, 1) := by decide +kernel
theorem d_ST_mixIn_2 : decode b_ST_mixIn 2 = .ok (.lxor, 1) := by decide +kernel
theorem d_ST_mixIn_3 : decode b_ST_mixIn 3 = .ok (.ldc2_w 252, 3) := by decide +kernel
theorem d_ST_mixIn_6 : decode b_ST_mixIn 6 = .ok (.lmul, 1) := by decide +kernel
theorem d_ST_mixIn_7 : decode b_ST_mixIn 7 = .ok (.ldc2_w 254, 3) := by decide +kernel
theorem d_ST_mixIn_10 : decode b_ST_mixIn 10 = .ok (.ladd, 1) := by decide +kernel
theorem d_ST_mixIn_11 : decode b_ST_mixIn 11 = .ok (.lreturn, 1) := by decide +kernel
theorem d_ST_mixOf_0 : decode b_ST_mixOf 0 = .ok (.lload_n 0, 1) := by decide +kernel
theorem d_ST_mixOf_1 : decode b_ST_mixOf 1 = .ok (.bipush 33, 2) := by decide +kernel
theorem d_ST_mixOf_3 : decode b_ST_mixOf 3 = .ok (.lushr, 1) := by decide +kernel
theorem d_ST_mixOf_4 : decode b_ST_mixOf 4 = .ok (.lreturn, 1) := by decide +kernel
theorem d_ST_rest_0 : decode b_ST_rest 0 = .ok (.lload_n 2, 1) := by decide +kernel
theorem d_ST_rest_1 : decode b_ST_rest 1 = .ok (.lconst 0, 1) := by decide +kernel
theorem d_ST_rest_2 : decode b_ST_rest 2 = .ok (.lcmp, 1) := by decide +kernel
theorem d_ST_rest_3 : decode b_ST_rest 3 = .ok (.ifCond .gt 5, 3) := by decide +kernel
theorem d_ST_rest_6 : decode b_ST_rest 6 = .ok (.lconst 0, 1) := by decide +kernel
theorem d_ST_rest_7 : decode b_ST_rest 7 = .ok (.lreturn, 1) := by decide +kernel
theorem d_ST_rest_8 : decode b_ST_rest 8 = .ok (.lload_n 0, 1) := by decide +kernel
theorem d_ST_rest_9 : decode b_ST_rest 9 = .ok (.lload_n 2, 1) := by decide +kernel
theorem d_ST_rest_10 : decode b_ST_rest 10 = .ok (.lrem, 1) := by decide +kernel
theorem d_ST_rest_11 : decode b_ST_rest 11 = .ok (.lstore 4, 2) := by decide +kernel
theorem d_ST_rest_13 : decode b_ST_rest 13 = .ok (.lload 4, 2) := by decide +kernel
theorem d_ST_rest_15 : decode b_ST_rest 15 = .ok (.lconst 0, 1) := by decide +kernel
theorem d_ST_rest_16 : decode b_ST_rest 16 = .ok (.lcmp, 1) := by decide +kernel
theorem d_ST_rest_17 : decode b_ST_rest 17 = .ok (.ifCond .ge 10, 3) := by decide +kernel
theorem d_ST_rest_20 : decode b_ST_rest 20 = .ok (.lload 4, 2) := by decide +kernel
theorem d_ST_rest_22 : decode b_ST_rest 22 = .ok (.lload_n 2, 1) := by decide +kernel
theorem d_ST_rest_23 : decode b_ST_rest 23 = .ok (.ladd, 1) := by decide +kernel
theorem d_ST_rest_24 : decode b_ST_rest 24 = .ok (.goto 5, 3) := by decide +kernel
theorem d_ST_rest_27 : decode b_ST_rest 27 = .ok (.lload 4, 2) := by decide +kernel
theorem d_ST_rest_29 : decode b_ST_rest 29 = .ok (.lreturn, 1) := by decide +kernel
theorem d_ST_powerModulo_0 : decode b_ST_powerModulo 0 = .ok (.lconst 1, 1) := by decide +kernel
theorem d_ST_powerModulo_1 : decode b_ST_powerModulo 1 = .ok (.lload 4, 2) := by decide +kernel
theorem d_ST_powerModulo_3 : decode b_ST_powerModulo 3 = .ok (.invokestatic 256, 3) := by decide +kernel
theorem d_ST_powerModulo_6 : decode b_ST_powerModulo 6 = .ok (.lstore 6, 2) := by decide +kernel
theorem d_ST_powerModulo_8 : decode b_ST_powerModulo 8 = .ok (.lload_n 0, 1) := by decide +kernel
theorem d_ST_powerModulo_9 : decode b_ST_powerModulo 9 = .ok (.lload 4, 2) := by decide +kernel
theorem d_ST_powerModulo_11 : decode b_ST_powerModulo 11 = .ok (.invokestatic 256, 3) := by decide +kernel
theorem d_ST_powerModulo_14 : decode b_ST_powerModulo 14 = .ok (.lstore 8, 2) := by decide +kernel
theorem d_ST_powerModulo_16 : decode b_ST_powerModulo 16 = .ok (.lload_n 2, 1) := by decide +kernel
theorem d_ST_powerModulo_17 : decode b_ST_powerModulo 17 = .ok (.lstore 10, 2) := by decide +kernel
theorem d_ST_powerModulo_19 : decode b_ST_powerModulo 19 = .ok (.iconst 0, 1) := by decide +kernel
theorem d_ST_powerModulo_20 : decode b_ST_powerModulo 20 = .ok (.istore 12, 2) := by decide +kernel
theorem d_ST_powerModulo_22 : decode b_ST_powerModulo 22 = .ok (.iload 12, 2) := by decide +kernel
theorem d_ST_powerModulo_24 : decode b_ST_powerModulo 24 = .ok (.bipush 63, 2) := by decide +kernel
theorem d_ST_powerModulo_26 : decode b_ST_powerModulo 26 = .ok (.if_icmp .ge 55, 3) := by decide +kernel
theorem d_ST_powerModulo_29 : decode b_ST_powerModulo 29 = .ok (.lload 10, 2) := by decide +kernel
theorem d_ST_powerModulo_31 : decode b_ST_powerModulo 31 = .ok (.lconst 0, 1) := by decide +kernel
theorem d_ST_powerModulo_32 : decode b_ST_powerModulo 32 = .ok (.lcmp, 1) := by decide +kernel
theorem d_ST_powerModulo_33 : decode b_ST_powerModulo 33 = .ok (.ifCond .le 48, 3) := by decide +kernel
theorem d_ST_powerModulo_36 : decode b_ST_powerModulo 36 = .ok (.lload 10, 2) := by decide +kernel
theorem d_ST_powerModulo_38 : decode b_ST_powerModulo 38 = .ok (.lconst 1, 1) := by decide +kernel
theorem d_ST_powerModulo_39 : decode b_ST_powerModulo 39 = .ok (.land, 1) := by decide +kernel
theorem d_ST_powerModulo_40 : decode b_ST_powerModulo 40 = .ok (.lconst 1, 1) := by decide +kernel
theorem d_ST_powerModulo_41 : decode b_ST_powerModulo 41 = .ok (.lcmp, 1) := by decide +kernel
theorem d_ST_powerModulo_42 : decode b_ST_powerModulo 42 = .ok (.ifCond .ne 15, 3) := by decide +kernel
theorem d_ST_powerModulo_45 : decode b_ST_powerModulo 45 = .ok (.lload 6, 2) := by decide +kernel
theorem d_ST_powerModulo_47 : decode b_ST_powerModulo 47 = .ok (.lload 8, 2) := by decide +kernel
theorem d_ST_powerModulo_49 : decode b_ST_powerModulo 49 = .ok (.lmul, 1) := by decide +kernel
theorem d_ST_powerModulo_50 : decode b_ST_powerModulo 50 = .ok (.lload 4, 2) := by decide +kernel
theorem d_ST_powerModulo_52 : decode b_ST_powerModulo 52 = .ok (.invokestatic 256, 3) := by decide +kernel
theorem d_ST_powerModulo_55 : decode b_ST_powerModulo 55 = .ok (.lstore 6, 2) := by decide +kernel
theorem d_ST_powerModulo_57 : decode b_ST_powerModulo 57 = .ok (.lload 8, 2) := by decide +kernel
theorem d_ST_powerModulo_59 : decode b_ST_powerModulo 59 = .ok (.lload 8, 2) := by decide +kernel
theorem d_ST_powerModulo_61 : decode b_ST_powerModulo 61 = .ok (.lmul, 1) := by decide +kernel
theorem d_ST_powerModulo_62 : decode b_ST_powerModulo 62 = .ok (.lload 4, 2) := by decide +kernel
theorem d_ST_powerModulo_64 : decode b_ST_powerModulo 64 = .ok (.invokestatic 256, 3) := by decide +kernel
theorem d_ST_powerModulo_67 : decode b_ST_powerModulo 67 = .ok (.lstore 8, 2) := by decide +kernel
theorem d_ST_powerModulo_69 : decode b_ST_powerModulo 69 = .ok (.lload 10, 2) := by decide +kernel
theorem d_ST_powerModulo_71 : decode b_ST_powerModulo 71 = .ok (.iconst 1, 1) := by decide +kernel
theorem d_ST_powerModulo_72 : decode b_ST_powerModulo 72 = .ok (.lshr, 1) := by decide +kernel
theorem d_ST_powerModulo_73 : decode b_ST_powerModulo 73 = .ok (.lstore 10, 2) := by decide +kernel
theorem d_ST_powerModulo_75 : decode b_ST_powerModulo 75 = .ok (.iinc 12 1, 3) := by decide +kernel
theorem d_ST_powerModulo_78 : decode b_ST_powerModulo 78 = .ok (.goto (-56), 3) := by decide +kernel
theorem d_ST_powerModulo_81 : decode b_ST_powerModulo 81 = .ok (.lload 6, 2) := by decide +kernel
theorem d_ST_powerModulo_83 : decode b_ST_powerModulo 83 = .ok (.lreturn, 1) := by decide +kernel
end
section
/-! decode rows -/
theorem d_MD_init_0 : decode b_MD_init 0 = .ok (.aload_n 0, 1) := by decide +kernel
theorem d_MD_init_1 : decode b_MD_init 1 = .ok (.invokespecial 1, 3) := by decide +kernel
theorem d_MD_init_4 : decode b_MD_init 4 = .ok (.aload_n 0, 1) := by decide +kernel
theorem d_MD_init_5 : decode b_MD_init 5 = .ok (.iconst 0, 1) := by decide +kernel
theorem d_MD_init_6 : decode b_MD_init 6 = .ok (.putfield 7, 3) := by decide +kernel
theorem d_MD_init_9 : decode b_MD_init 9 = .ok (.aload_n 0, 1) := by decide +kernel
theorem d_MD_init_10 : decode b_MD_init 10 = .ok (.lconst 0, 1) := by decide +kernel
theorem d_MD_init_11 : decode b_MD_init 11 = .ok (.putfield 13, 3) := by decide +kernel
theorem d_MD_init_14 : decode b_MD_init 14 = .ok (.aload_n 0, 1) := by decide +kernel
theorem d_MD_init_15 : decode b_MD_init 15 = .ok (.lconst 0, 1) := by decide +kernel
theorem d_MD_init_16 : decode b_MD_init 16 = .ok (.putfield 17, 3) := by decide +kernel
theorem d_MD_init_19 : decode b_MD_init 19 = .ok (.aload_n 0, 1) := by decide +kernel
theorem d_MD_init_20 : decode b_MD_init 20 = .ok (.lconst 0, 1) := by decide +kernel
theorem d_MD_init_21 : decode b_MD_init 21 = .ok (.putfield 20, 3) := by decide +kernel
theorem d_MD_init_24 : decode b_MD_init 24 = .ok (.aload_n 0, 1) := by decide +kernel
theorem d_MD_init_25 : decode b_MD_init 25 = .ok (.lconst 0, 1) := by decide +kernel
theorem d_MD_init_26 : decode b_MD_init 26 = .ok (.putfield 23, 3) := by decide +kernel
theorem d_MD_init_29 : decode b_MD_init 29 = .ok (.aload_n 0, 1) := by decide +kernel
theorem d_MD_init_30 : decode b_MD_init 30 = .ok (.lconst 0, 1) := by decide +kernel
theorem d_MD_init_31 : decode b_MD_init 31 = .ok (.putfield 26, 3) := by decide +kernel
theorem d_MD_init_34 : decode b_MD_init 34 = .ok (.aload_n 0, 1) := by decide +kernel
theorem d_MD_init_35 : decode b_MD_init 35 = .ok (.lconst 0, 1) := by decide +kernel
theorem d_MD_init_36 : decode b_MD_init 36 = .ok (.putfield 29, 3) := by decide +kernel
theorem d_MD_init_39 : decode b_MD_init 39 = .ok (.aload_n 0, 1) := by decide +kernel
theorem d_MD_init_40 : decode b_MD_init 40 = .ok (.iconst 0, 1) := by decide +kernel
theorem d_MD_init_41 : decode b_MD_init 41 = .ok (.putfield 32, 3) := by decide +kernel
theorem d_MD_init_44 : decode b_MD_init 44 = .ok (.aload_n 0, 1) := by decide +kernel
theorem d_MD_init_45 : decode b_MD_init 45 = .ok (.iconst 0, 1) := by decide +kernel
theorem d_MD_init_46 : decode b_MD_init 46 = .ok (.putfield 35, 3) := by decide +kernel
theorem d_MD_init_49 : decode b_MD_init 49 = .ok (.aload_n 0, 1) := by decide +kernel
theorem d_MD_init_50 : decode b_MD_init 50 = .ok (.bipush 24, 2) := by decide +kernel
theorem d_MD_init_52 : decode b_MD_init 52 = .ok (.newarray .int, 2) := by decide +kernel
theorem d_MD_init_54 : decode b_MD_init 54 = .ok (.putfield 38, 3) := by decide +kernel
theorem d_MD_init_57 : decode b_MD_init 57 = .ok (.aload_n 0, 1) := by decide +kernel
theorem d_MD_init_58 : decode b_MD_init 58 = .ok (.iconst 0, 1) := by decide +kernel
theorem d_MD_init_59 : decode b_MD_init 59 = .ok (.putfield 42, 3) := by decide +kernel
theorem d_MD_init_62 : decode b_MD_init 62 = .ok (.aload_n 0, 1) := by decide +kernel
theorem d_MD_init_63 : decode b_MD_init 63 = .ok (.iconst 0, 1) := by decide +kernel
theorem d_MD_init_64 : decode b_MD_init 64 = .ok (.putfield 45, 3) := by decide +kernel
theorem d_MD_init_67 : decode b_MD_init 67 = .ok (.aload_n 0, 1) := by decide +kernel
theorem d_MD_init_68 : decode b_MD_init 68 = .ok (.bipush 12, 2) := by decide +kernel
theorem d_MD_init_70 : decode b_MD_init 70 = .ok (.newarray .int, 2) := by decide +kernel
theorem d_MD_init_72 : decode b_MD_init 72 = .ok (.putfield 48, 3) := by decide +kernel
theorem d_MD_init_75 : decode b_MD_init 75 = .ok (.aload_n 0, 1) := by decide +kernel
theorem d_MD_init_76 : decode b_MD_init 76 = .ok (.bipush 12, 2) := by decide +kernel
theorem d_MD_init_78 : decode b_MD_init 78 = .ok (.newarray .long, 2) := by decide +kernel
theorem d_MD_init_80 : decode b_MD_init 80 = .ok (.putfield 51, 3) := by decide +kernel
theorem d_MD_init_83 : decode b_MD_init 83 = .ok (.aload_n 0, 1) := by decide +kernel
theorem d_MD_init_84 : decode b_MD_init 84 = .ok (.bipush 12, 2) := by decide +kernel
theorem d_MD_init_86 : decode b_MD_init 86 = .ok (.newarray .int, 2) := by decide +kernel
theorem d_MD_init_88 : decode b_MD_init 88 = .ok (.putfield 55, 3) := by decide +kernel
theorem d_MD_init_91 : decode b_MD_init 91 = .ok (.aload_n 0, 1) := by decide +kernel
theorem d_MD_init_92 : decode b_MD_init 92 = .ok (.bipush 12, 2) := by decide +kernel
theorem d_MD_init_94 : decode b_MD_init 94 = .ok (.newarray .int, 2) := by decide +kernel
theorem d_MD_init_96 : decode b_MD_init 96 = .ok (.putfield 58, 3) := by decide +kernel
theorem d_MD_init_99 : decode b_MD_init 99 = .ok (.aload_n 0, 1) := by decide +kernel
theorem d_MD_init_100 : decode b_MD_init 100 = .ok (.bipush 12, 2) := by decide +kernel
theorem d_MD_init_102 : decode b_MD_init 102 = .ok (.newarray .long, 2) := by decide +kernel
theorem d_MD_init_104 : decode b_MD_init 104 = .ok (.putfield 61, 3) := by decide +kernel
theorem d_MD_init_107 : decode b_MD_init 107 = .ok (.aload_n 0, 1) := by decide +kernel
theorem d_MD_init_108 : decode b_MD_init 108 = .ok (.bipush 72, 2) := by decide +kernel
theorem d_MD_init_110 : decode b_MD_init 110 = .ok (.newarray .long, 2) := by decide +kernel
theorem d_MD_init_112 : decode b_MD_init 112 = .ok (.putfield 64, 3) := by decide +kernel
theorem d_MD_init_115 : decode b_MD_init 115 = .ok (.aload_n 0, 1) := by decide +kernel
theorem d_MD_init_116 : decode b_MD_init 116 = .ok (.bipush 72, 2) := by decide +kernel
theorem d_MD_init_118 : decode b_MD_init 118 = .ok (.newarray .int, 2) := by decide +kernel
theorem d_MD_init_120 : decode b_MD_init 120 = .ok (.putfield 67, 3) := by decide +kernel
theorem d_MD_init_123 : decode b_MD_init 123 = .ok (.aload_n 0, 1) := by decide +kernel
theorem d_MD_init_124 : decode b_MD_init 124 = .ok (.bipush 72, 2) := by decide +kernel
theorem d_MD_init_126 : decode b_MD_init 126 = .ok (.newarray .long, 2) := by decide +kernel
theorem d_MD_init_128 : decode b_MD_init 128 = .ok (.putfield 70, 3) := by decide +kernel
theorem d_MD_init_131 : decode b_MD_init 131 = .ok (.aload_n 0, 1) := by decide +kernel
theorem d_MD_init_132 : decode b_MD_init 132 = .ok (.iconst 0, 1) := by decide +kernel
theorem d_MD_init_133 : decode b_MD_init 133 = .ok (.putfield 73, 3) := by decide +kernel
theorem d_MD_init_136 : decode b_MD_init 136 = .ok (.aload_n 0, 1) := by decide +kernel
theorem d_MD_init_137 : decode b_MD_init 137 = .ok (.bipush 12, 2) := by decide +kernel
theorem d_MD_init_139 : decode b_MD_init 139 = .ok (.newarray .int, 2) := by decide +kernel
theorem d_MD_init_141 : decode b_MD_init 141 = .ok (.putfield 76, 3) := by decide +kernel
theorem d_MD_init_144 : decode b_MD_init 144 = .ok (.aload_n 0, 1) := by decide +kernel
theorem d_MD_init_145 : decode b_MD_init 145 = .ok (.lconst 0, 1) := by decide +kernel
theorem d_MD_init_146 : decode b_MD_init 146 = .ok (.putfield 79, 3) := by decide +kernel
theorem d_MD_init_149 : decode b_MD_init 149 = .ok (.return_, 1) := by decide +kernel
theorem d_MD_prime_0 : decode b_MD_prime 0 = .ok (.iload_n 0, 1) := by decide +kernel
theorem d_MD_prime_1 : decode b_MD_prime 1 = .ok (.iconst 2, 1) := by decide +kernel
theorem d_MD_prime_2 : decode b_MD_prime 2 = .ok (.if_icmp .ge 5, 3) := by decide +kernel
theorem d_MD_prime_5 : decode b_MD_prime 5 = .ok (.iconst 0, 1) := by decide +kernel
theorem d_MD_prime_6 : decode b_MD_prime 6 = .ok (.ireturn, 1) := by decide +kernel
theorem d_MD_prime_7 : decode b_MD_prime 7 = .ok (.iconst 2, 1) := by decide +kernel
theorem d_MD_prime_8 : decode b_MD_prime 8 = .ok (.istore_n 1, 1) := by decide +kernel
theorem d_MD_prime_9 : decode b_MD_prime 9 = .ok (.iload_n 1, 1) := by decide +kernel
theorem d_MD_prime_10 : decode b_MD_prime 10 = .ok (.iload_n 1, 1) := by decide +kernel
theorem d_MD_prime_11 : decode b_MD_prime 11 = .ok (.imul, 1) := by decide +kernel
theorem d_MD_prime_12 : decode b_MD_prime 12 = .ok (.iload_n 0, 1) := by decide +kernel
theorem d_MD_prime_13 : decode b_MD_prime 13 = .ok (.if_icmp .gt 17, 3) := by decide +kernel
theorem d_MD_prime_16 : decode b_MD_prime 16 = .ok (.iload_n 0, 1) := by decide +kernel
theorem d_MD_prime_17 : decode b_MD_prime 17 = .ok (.iload_n 1, 1) := by decide +kernel
theorem d_MD_prime_18 : decode b_MD_prime 18 = .ok (.irem, 1) := by decide +kernel
theorem d_MD_prime_19 : decode b_MD_prime 19 = .ok (.ifCond .ne 5, 3) := by decide +kernel
theorem d_MD_prime_22 : decode b_MD_prime 22 = .ok (.iconst 0, 1) := by decide +kernel
theorem d_MD_prime_23 : decode b_MD_prime 23 = .ok (.ireturn, 1) := by decide +kernel
theorem d_MD_prime_24 : decode b_MD_prime 24 = .ok (.iinc 1 1, 3) := by decide +kernel
theorem d_MD_prime_27 : decode b_MD_prime 27 = .ok (.goto (-18), 3) := by decide +kernel
theorem d_MD_prime_30 : decode b_MD_prime 30 = .ok (.iconst 1, 1) := by decide +kernel
theorem d_MD_prime_31 : decode b_MD_prime 31 = .ok (.ireturn, 1) := by decide +kernel
theorem d_MD_safe_0 : decode b_MD_safe 0 = .ok (.iload_n 0, 1) := by decide +kernel
theorem d_MD_safe_1 : decode b_MD_safe 1 = .ok (.bipush 20, 2) := by decide +kernel
theorem d_MD_safe_3 : decode b_MD_safe 3 = .ok (.if_icmp .lt 37, 3) := by decide +kernel
theorem d_MD_safe_6 : decode b_MD_safe 6 = .ok (.iload_n 0, 1) := by decide +kernel
theorem d_MD_safe_7 : decode b_MD_safe 7 = .ok (.sipush 32767, 3) := by decide +kernel
theorem d_MD_safe_10 : decode b_MD_safe 10 = .ok (.if_icmp .gt 30, 3) := by decide +kernel
theorem d_MD_safe_13 : decode b_MD_safe 13 = .ok (.iload_n 0, 1) := by decide +kernel
theorem d_MD_safe_14 : decode b_MD_safe 14 = .ok (.iconst 2, 1) := by decide +kernel
theorem d_MD_safe_15 : decode b_MD_safe 15 = .ok (.irem, 1) := by decide +kernel
theorem d_MD_safe_16 : decode b_MD_safe 16 = .ok (.iconst 1, 1) := by decide +kernel
theorem d_MD_safe_17 : decode b_MD_safe 17 = .ok (.if_icmp .ne 23, 3) := by decide +kernel
theorem d_MD_safe_20 : decode b_MD_safe 20 = .ok (.iload_n 0, 1) := by decide +kernel
theorem d_MD_safe_21 : decode b_MD_safe 21 = .ok (.invokestatic 82, 3) := by decide +kernel
theorem d_MD_safe_24 : decode b_MD_safe 24 = .ok (.ifCond .eq 16, 3) := by decide +kernel
theorem d_MD_safe_27 : decode b_MD_safe 27 = .ok (.iload_n 0, 1) := by decide +kernel
theorem d_MD_safe_28 : decode b_MD_safe 28 = .ok (.iconst 2, 1) := by decide +kernel
theorem d_MD_safe_29 : decode b_MD_safe 29 = .ok (.idiv, 1) := by decide +kernel
theorem d_MD_safe_30 : decode b_MD_safe 30 = .ok (.invokestatic 82, 3) := by decide +kernel
theorem d_MD_safe_33 : decode b_MD_safe 33 = .ok (.ifCond .eq 7, 3) := by decide +kernel
theorem d_MD_safe_36 : decode b_MD_safe 36 = .ok (.iconst 1, 1) := by decide +kernel
theorem d_MD_safe_37 : decode b_MD_safe 37 = .ok (.goto 4, 3) := by decide +kernel
theorem d_MD_safe_40 : decode b_MD_safe 40 = .ok (.iconst 0, 1) := by decide +kernel
theorem d_MD_safe_41 : decode b_MD_safe 41 = .ok (.ireturn, 1) := by decide +kernel
theorem d_MD_common_0 : decode b_MD_common 0 = .ok (.lload_n 0, 1) := by decide +kernel
theorem d_MD_common_1 : decode b_MD_common 1 = .ok (.lstore 4, 2) := by decide +kernel
theorem d_MD_common_3 : decode b_MD_common 3 = .ok (.lload_n 2, 1) := by decide +kernel
theorem d_MD_common_4 : decode b_MD_common 4 = .ok (.lstore 6, 2) := by decide +kernel
theorem d_MD_common_6 : decode b_MD_common 6 = .ok (.lload 6, 2) := by decide +kernel
theorem d_MD_common_8 : decode b_MD_common 8 = .ok (.lconst 0, 1) := by decide +kernel
theorem d_MD_common_9 : decode b_MD_common 9 = .ok (.lcmp, 1) := by decide +kernel
theorem d_MD_common_10 : decode b_MD_common 10 = .ok (.ifCond .eq 21, 3) := by decide +kernel
theorem d_MD_common_13 : decode b_MD_common 13 = .ok (.lload 4, 2) := by decide +kernel
theorem d_MD_common_15 : decode b_MD_common 15 = .ok (.lload 6, 2) := by decide +kernel
theorem d_MD_common_17 : decode b_MD_common 17 = .ok (.lrem, 1) := by decide +kernel
theorem d_MD_common_18 : decode b_MD_common 18 = .ok (.lstore 8, 2) := by decide +kernel
theorem d_MD_common_20 : decode b_MD_common 20 = .ok (.lload 6, 2) := by decide +kernel
theorem d_MD_common_22 : decode b_MD_common 22 = .ok (.lstore 4, 2) := by decide +kernel
theorem d_MD_common_24 : decode b_MD_common 24 = .ok (.lload 8, 2) := by decide +kernel
theorem d_MD_common_26 : decode b_MD_common 26 = .ok (.lstore 6, 2) := by decide +kernel
theorem d_MD_common_28 : decode b_MD_common 28 = .ok (.goto (-22), 3) := by decide +kernel
theorem d_MD_common_31 : decode b_MD_common 31 = .ok (.lload 4, 2) := by decide +kernel
theorem d_MD_common_33 : decode b_MD_common 33 = .ok (.lreturn, 1) := by decide +kernel
theorem d_MD_raised_0 : decode b_MD_raised 0 = .ok (.lconst 1, 1) := by decide +kernel
theorem d_MD_raised_1 : decode b_MD_raised 1 = .ok (.lload 4, 2) := by decide +kernel
theorem d_MD_raised_3 : decode b_MD_raised 3 = .ok (.lrem, 1) := by decide +kernel
theorem d_MD_raised_4 : decode b_MD_raised 4 = .ok (.lstore 6, 2) := by decide +kernel
theorem d_MD_raised_6 : decode b_MD_raised 6 = .ok (.lload_n 0, 1) := by decide +kernel
theorem d_MD_raised_7 : decode b_MD_raised 7 = .ok (.lload 4, 2) := by decide +kernel
theorem d_MD_raised_9 : decode b_MD_raised 9 = .ok (.lrem, 1) := by decide +kernel
theorem d_MD_raised_10 : decode b_MD_raised 10 = .ok (.lstore 8, 2) := by decide +kernel
theorem d_MD_raised_12 : decode b_MD_raised 12 = .ok (.lload_n 2, 1) := by decide +kernel
theorem d_MD_raised_13 : decode b_MD_raised 13 = .ok (.lstore 10, 2) := by decide +kernel
theorem d_MD_raised_15 : decode b_MD_raised 15 = .ok (.lload 10, 2) := by decide +kernel
theorem d_MD_raised_17 : decode b_MD_raised 17 = .ok (.lconst 0, 1) := by decide +kernel
theorem d_MD_raised_18 : decode b_MD_raised 18 = .ok (.lcmp, 1) := by decide +kernel
theorem d_MD_raised_19 : decode b_MD_raised 19 = .ok (.ifCond .le 41, 3) := by decide +kernel
theorem d_MD_raised_22 : decode b_MD_raised 22 = .ok (.lload 10, 2) := by decide +kernel
theorem d_MD_raised_24 : decode b_MD_raised 24 = .ok (.lconst 1, 1) := by decide +kernel
theorem d_MD_raised_25 : decode b_MD_raised 25 = .ok (.land, 1) := by decide +kernel
theorem d_MD_raised_26 : decode b_MD_raised 26 = .ok (.lconst 1, 1) := by decide +kernel
theorem d_MD_raised_27 : decode b_MD_raised 27 = .ok (.lcmp, 1) := by decide +kernel
theorem d_MD_raised_28 : decode b_MD_raised 28 = .ok (.ifCond .ne 13, 3) := by decide +kernel
theorem d_MD_raised_31 : decode b_MD_raised 31 = .ok (.lload 6, 2) := by decide +kernel
theorem d_MD_raised_33 : decode b_MD_raised 33 = .ok (.lload 8, 2) := by decide +kernel
theorem d_MD_raised_35 : decode b_MD_raised 35 = .ok (.lmul, 1) := by decide +kernel
theorem d_MD_raised_36 : decode b_MD_raised 36 = .ok (.lload 4, 2) := by decide +kernel
theorem d_MD_raised_38 : decode b_MD_raised 38 = .ok (.lrem, 1) := by decide +kernel
theorem d_MD_raised_39 : decode b_MD_raised 39 = .ok (.lstore 6, 2) := by decide +kernel
theorem d_MD_raised_41 : decode b_MD_raised 41 = .ok (.lload 8, 2) := by decide +kernel
theorem d_MD_raised_43 : decode b_MD_raised 43 = .ok (.lload 8, 2) := by decide +kernel
theorem d_MD_raised_45 : decode b_MD_raised 45 = .ok (.lmul, 1) := by decide +kernel
theorem d_MD_raised_46 : decode b_MD_raised 46 = .ok (.lload 4, 2) := by decide +kernel
theorem d_MD_raised_48 : decode b_MD_raised 48 = .ok (.lrem, 1) := by decide +kernel
theorem d_MD_raised_49 : decode b_MD_raised 49 = .ok (.lstore 8, 2) := by decide +kernel
theorem d_MD_raised_51 : decode b_MD_raised 51 = .ok (.lload 10, 2) := by decide +kernel
theorem d_MD_raised_53 : decode b_MD_raised 53 = .ok (.iconst 1, 1) := by decide +kernel
theorem d_MD_raised_54 : decode b_MD_raised 54 = .ok (.lshr, 1) := by decide +kernel
theorem d_MD_raised_55 : decode b_MD_raised 55 = .ok (.lstore 10, 2) := by decide +kernel
theorem d_MD_raised_57 : decode b_MD_raised 57 = .ok (.goto (-42), 3) := by decide +kernel
theorem d_MD_raised_60 : decode b_MD_raised 60 = .ok (.lload 6, 2) := by decide +kernel
theorem d_MD_raised_62 : decode b_MD_raised 62 = .ok (.lreturn, 1) := by decide +kernel
theorem d_MD_inverse_0 : decode b_MD_inverse 0 = .ok (.lload_n 2, 1) := by decide +kernel
theorem d_MD_inverse_1 : decode b_MD_inverse 1 = .ok (.lstore 4, 2) := by decide +kernel
theorem d_MD_inverse_3 : decode b_MD_inverse 3 = .ok (.lload_n 0, 1) := by decide +kernel
theorem d_MD_inverse_4 : decode b_MD_inverse 4 = .ok (.lload_n 2, 1) := by decide +kernel
theorem d_MD_inverse_5 : decode b_MD_inverse 5 = .ok (.lrem, 1) := by decide +kernel
theorem d_MD_inverse_6 : decode b_MD_inverse 6 = .ok (.lstore 6, 2) := by decide +kernel
theorem d_MD_inverse_8 : decode b_MD_inverse 8 = .ok (.lconst 0, 1) := by decide +kernel
theorem d_MD_inverse_9 : decode b_MD_inverse 9 = .ok (.lstore 8, 2) := by decide +kernel
theorem d_MD_inverse_11 : decode b_MD_inverse 11 = .ok (.lconst 1, 1) := by decide +kernel
theorem d_MD_inverse_12 : decode b_MD_inverse 12 = .ok (.lstore 10, 2) := by decide +kernel
theorem d_MD_inverse_14 : decode b_MD_inverse 14 = .ok (.lload 6, 2) := by decide +kernel
theorem d_MD_inverse_16 : decode b_MD_inverse 16 = .ok (.lconst 0, 1) := by decide +kernel
theorem d_MD_inverse_17 : decode b_MD_inverse 17 = .ok (.lcmp, 1) := by decide +kernel
theorem d_MD_inverse_18 : decode b_MD_inverse 18 = .ok (.ifCond .eq 49, 3) := by decide +kernel
theorem d_MD_inverse_21 : decode b_MD_inverse 21 = .ok (.lload 4, 2) := by decide +kernel
theorem d_MD_inverse_23 : decode b_MD_inverse 23 = .ok (.lload 6, 2) := by decide +kernel
theorem d_MD_inverse_25 : decode b_MD_inverse 25 = .ok (.ldiv, 1) := by decide +kernel
theorem d_MD_inverse_26 : decode b_MD_inverse 26 = .ok (.lstore 12, 2) := by decide +kernel
theorem d_MD_inverse_28 : decode b_MD_inverse 28 = .ok (.lload 4, 2) := by decide +kernel
theorem d_MD_inverse_30 : decode b_MD_inverse 30 = .ok (.lload 12, 2) := by decide +kernel
theorem d_MD_inverse_32 : decode b_MD_inverse 32 = .ok (.lload 6, 2) := by decide +kernel
theorem d_MD_inverse_34 : decode b_MD_inverse 34 = .ok (.lmul, 1) := by decide +kernel
theorem d_MD_inverse_35 : decode b_MD_inverse 35 = .ok (.lsub, 1) := by decide +kernel
theorem d_MD_inverse_36 : decode b_MD_inverse 36 = .ok (.lstore 14, 2) := by decide +kernel
theorem d_MD_inverse_38 : decode b_MD_inverse 38 = .ok (.lload 6, 2) := by decide +kernel
theorem d_MD_inverse_40 : decode b_MD_inverse 40 = .ok (.lstore 4, 2) := by decide +kernel
theorem d_MD_inverse_42 : decode b_MD_inverse 42 = .ok (.lload 14, 2) := by decide +kernel
theorem d_MD_inverse_44 : decode b_MD_inverse 44 = .ok (.lstore 6, 2) := by decide +kernel
theorem d_MD_inverse_46 : decode b_MD_inverse 46 = .ok (.lload 8, 2) := by decide +kernel
theorem d_MD_inverse_48 : decode b_MD_inverse 48 = .ok (.lload 12, 2) := by decide +kernel
theorem d_MD_inverse_50 : decode b_MD_inverse 50 = .ok (.lload 10, 2) := by decide +kernel
theorem d_MD_inverse_52 : decode b_MD_inverse 52 = .ok (.lmul, 1) := by decide +kernel
theorem d_MD_inverse_53 : decode b_MD_inverse 53 = .ok (.lsub, 1) := by decide +kernel
theorem d_MD_inverse_54 : decode b_MD_inverse 54 = .ok (.lstore 16, 2) := by decide +kernel
theorem d_MD_inverse_56 : decode b_MD_inverse 56 = .ok (.lload 10, 2) := by decide +kernel
theorem d_MD_inverse_58 : decode b_MD_inverse 58 = .ok (.lstore 8, 2) := by decide +kernel
theorem d_MD_inverse_60 : decode b_MD_inverse 60 = .ok (.lload 16, 2) := by decide +kernel
theorem d_MD_inverse_62 : decode b_MD_inverse 62 = .ok (.lstore 10, 2) := by decide +kernel
theorem d_MD_inverse_64 : decode b_MD_inverse 64 = .ok (.goto (-50), 3) := by decide +kernel
theorem d_MD_inverse_67 : decode b_MD_inverse 67 = .ok (.lload 8, 2) := by decide +kernel
theorem d_MD_inverse_69 : decode b_MD_inverse 69 = .ok (.lconst 0, 1) := by decide +kernel
theorem d_MD_inverse_70 : decode b_MD_inverse 70 = .ok (.lcmp, 1) := by decide +kernel
theorem d_MD_inverse_71 : decode b_MD_inverse 71 = .ok (.ifCond .ge 10, 3) := by decide +kernel
theorem d_MD_inverse_74 : decode b_MD_inverse 74 = .ok (.lload 8, 2) := by decide +kernel
theorem d_MD_inverse_76 : decode b_MD_inverse 76 = .ok (.lload_n 2, 1) := by decide +kernel
theorem d_MD_inverse_77 : decode b_MD_inverse 77 = .ok (.ladd, 1) := by decide +kernel
theorem d_MD_inverse_78 : decode b_MD_inverse 78 = .ok (.goto 5, 3) := by decide +kernel
theorem d_MD_inverse_81 : decode b_MD_inverse 81 = .ok (.lload 8, 2) := by decide +kernel
theorem d_MD_inverse_83 : decode b_MD_inverse 83 = .ok (.lreturn, 1) := by decide +kernel
theorem d_MD_begin_0 : decode b_MD_begin 0 = .ok (.aload_n 0, 1) := by decide +kernel
theorem d_MD_begin_1 : decode b_MD_begin 1 = .ok (.ldc2_w 86, 3) := by decide +kernel
theorem d_MD_begin_4 : decode b_MD_begin 4 = .ok (.putfield 79, 3) := by decide +kernel
theorem d_MD_begin_7 : decode b_MD_begin 7 = .ok (.return_, 1) := by decide +kernel
theorem d_MD_mix_0 : decode b_MD_mix 0 = .ok (.aload_n 0, 1) := by decide +kernel
theorem d_MD_mix_1 : decode b_MD_mix 1 = .ok (.aload_n 0, 1) := by decide +kernel
theorem d_MD_mix_2 : decode b_MD_mix 2 = .ok (.getfield 79, 3) := by decide +kernel
theorem d_MD_mix_5 : decode b_MD_mix 5 = .ok (.lload_n 1, 1) := by decide +kernel
theorem d_MD_mix_6 : decode b_MD_mix 6 = .ok (.lxor, 1) := by decide +kernel
theorem d_MD_mix_7 : decode b_MD_mix 7 = .ok (.ldc2_w 88, 3) := by decide +kernel
theorem d_MD_mix_10 : decode b_MD_mix 10 = .ok (.lmul, 1) := by decide +kernel
theorem d_MD_mix_11 : decode b_MD_mix 11 = .ok (.ldc2_w 90, 3) := by decide +kernel
theorem d_MD_mix_14 : decode b_MD_mix 14 = .ok (.ladd, 1) := by decide +kernel
theorem d_MD_mix_15 : decode b_MD_mix 15 = .ok (.putfield 79, 3) := by decide +kernel
theorem d_MD_mix_18 : decode b_MD_mix 18 = .ok (.return_, 1) := by decide +kernel
theorem d_MD_mixed_0 : decode b_MD_mixed 0 = .ok (.aload_n 0, 1) := by decide +kernel
theorem d_MD_mixed_1 : decode b_MD_mixed 1 = .ok (.getfield 79, 3) := by decide +kernel
theorem d_MD_mixed_4 : decode b_MD_mixed 4 = .ok (.bipush 33, 2) := by decide +kernel
theorem d_MD_mixed_6 : decode b_MD_mixed 6 = .ok (.lushr, 1) := by decide +kernel
theorem d_MD_mixed_7 : decode b_MD_mixed 7 = .ok (.lreturn, 1) := by decide +kernel
theorem d_MD_part_0 : decode b_MD_part 0 = .ok (.iload_n 1, 1) := by decide +kernel
theorem d_MD_part_1 : decode b_MD_part 1 = .ok (.i2l, 1) := by decide +kernel
theorem d_MD_part_2 : decode b_MD_part 2 = .ok (.lconst 1, 1) := by decide +kernel
theorem d_MD_part_3 : decode b_MD_part 3 = .ok (.ladd, 1) := by decide +kernel
theorem d_MD_part_4 : decode b_MD_part 4 = .ok (.lstore_n 2, 1) := by decide +kernel
theorem d_MD_part_5 : decode b_MD_part 5 = .ok (.aload_n 0, 1) := by decide +kernel
theorem d_MD_part_6 : decode b_MD_part 6 = .ok (.getfield 20, 3) := by decide +kernel
theorem d_MD_part_9 : decode b_MD_part 9 = .ok (.aload_n 0, 1) := by decide +kernel
theorem d_MD_part_10 : decode b_MD_part 10 = .ok (.getfield 23, 3) := by decide +kernel
theorem d_MD_part_13 : decode b_MD_part 13 = .ok (.lload_n 2, 1) := by decide +kernel
theorem d_MD_part_14 : decode b_MD_part 14 = .ok (.lmul, 1) := by decide +kernel
theorem d_MD_part_15 : decode b_MD_part 15 = .ok (.ladd, 1) := by decide +kernel
theorem d_MD_part_16 : decode b_MD_part 16 = .ok (.aload_n 0, 1) := by decide +kernel
theorem d_MD_part_17 : decode b_MD_part 17 = .ok (.getfield 26, 3) := by decide +kernel
theorem d_MD_part_20 : decode b_MD_part 20 = .ok (.lload_n 2, 1) := by decide +kernel
theorem d_MD_part_21 : decode b_MD_part 21 = .ok (.lmul, 1) := by decide +kernel
theorem d_MD_part_22 : decode b_MD_part 22 = .ok (.aload_n 0, 1) := by decide +kernel
theorem d_MD_part_23 : decode b_MD_part 23 = .ok (.getfield 17, 3) := by decide +kernel
theorem d_MD_part_26 : decode b_MD_part 26 = .ok (.lrem, 1) := by decide +kernel
theorem d_MD_part_27 : decode b_MD_part 27 = .ok (.lload_n 2, 1) := by decide +kernel
theorem d_MD_part_28 : decode b_MD_part 28 = .ok (.lmul, 1) := by decide +kernel
theorem d_MD_part_29 : decode b_MD_part 29 = .ok (.ladd, 1) := by decide +kernel
theorem d_MD_part_30 : decode b_MD_part 30 = .ok (.aload_n 0, 1) := by decide +kernel
theorem d_MD_part_31 : decode b_MD_part 31 = .ok (.getfield 17, 3) := by decide +kernel
theorem d_MD_part_34 : decode b_MD_part 34 = .ok (.lrem, 1) := by decide +kernel
theorem d_MD_part_35 : decode b_MD_part 35 = .ok (.lreturn, 1) := by decide +kernel
theorem d_MD_check_0 : decode b_MD_check 0 = .ok (.aload_n 0, 1) := by decide +kernel
theorem d_MD_check_1 : decode b_MD_check 1 = .ok (.getfield 29, 3) := by decide +kernel
theorem d_MD_check_4 : decode b_MD_check 4 = .ok (.aload_n 0, 1) := by decide +kernel
theorem d_MD_check_5 : decode b_MD_check 5 = .ok (.iload_n 1, 1) := by decide +kernel
theorem d_MD_check_6 : decode b_MD_check 6 = .ok (.invokevirtual 92, 3) := by decide +kernel
theorem d_MD_check_9 : decode b_MD_check 9 = .ok (.aload_n 0, 1) := by decide +kernel
theorem d_MD_check_10 : decode b_MD_check 10 = .ok (.getfield 13, 3) := by decide +kernel
theorem d_MD_check_13 : decode b_MD_check 13 = .ok (.invokestatic 96, 3) := by decide +kernel
theorem d_MD_check_16 : decode b_MD_check 16 = .ok (.lreturn, 1) := by decide +kernel
theorem d_MD_blockOf_0 : decode b_MD_blockOf 0 = .ok (.aload_n 0, 1) := by decide +kernel
theorem d_MD_blockOf_1 : decode b_MD_blockOf 1 = .ok (.invokevirtual 100, 3) := by decide +kernel
theorem d_MD_blockOf_4 : decode b_MD_blockOf 4 = .ok (.iconst 0, 1) := by decide +kernel
theorem d_MD_blockOf_5 : decode b_MD_blockOf 5 = .ok (.istore_n 1, 1) := by decide +kernel
theorem d_MD_blockOf_6 : decode b_MD_blockOf 6 = .ok (.iload_n 1, 1) := by decide +kernel
theorem d_MD_blockOf_7 : decode b_MD_blockOf 7 = .ok (.aload_n 0, 1) := by decide +kernel
theorem d_MD_blockOf_8 : decode b_MD_blockOf 8 = .ok (.getfield 42, 3) := by decide +kernel
theorem d_MD_blockOf_11 : decode b_MD_blockOf 11 = .ok (.if_icmp .ge 20, 3) := by decide +kernel
theorem d_MD_blockOf_14 : decode b_MD_blockOf 14 = .ok (.aload_n 0, 1) := by decide +kernel
theorem d_MD_blockOf_15 : decode b_MD_blockOf 15 = .ok (.aload_n 0, 1) := by decide +kernel
theorem d_MD_blockOf_16 : decode b_MD_blockOf 16 = .ok (.getfield 38, 3) := by decide +kernel
theorem d_MD_blockOf_19 : decode b_MD_blockOf 19 = .ok (.iload_n 1, 1) := by decide +kernel
theorem d_MD_blockOf_20 : decode b_MD_blockOf 20 = .ok (.iaload, 1) := by decide +kernel
theorem d_MD_blockOf_21 : decode b_MD_blockOf 21 = .ok (.i2l, 1) := by decide +kernel
theorem d_MD_blockOf_22 : decode b_MD_blockOf 22 = .ok (.invokevirtual 103, 3) := by decide +kernel
theorem d_MD_blockOf_25 : decode b_MD_blockOf 25 = .ok (.iinc 1 1, 3) := by decide +kernel
theorem d_MD_blockOf_28 : decode b_MD_blockOf 28 = .ok (.goto (-22), 3) := by decide +kernel
theorem d_MD_blockOf_31 : decode b_MD_blockOf 31 = .ok (.aload_n 0, 1) := by decide +kernel
theorem d_MD_blockOf_32 : decode b_MD_blockOf 32 = .ok (.aload_n 0, 1) := by decide +kernel
theorem d_MD_blockOf_33 : decode b_MD_blockOf 33 = .ok (.getfield 42, 3) := by decide +kernel
theorem d_MD_blockOf_36 : decode b_MD_blockOf 36 = .ok (.i2l, 1) := by decide +kernel
theorem d_MD_blockOf_37 : decode b_MD_blockOf 37 = .ok (.invokevirtual 103, 3) := by decide +kernel
theorem d_MD_blockOf_40 : decode b_MD_blockOf 40 = .ok (.ldc2_w 107, 3) := by decide +kernel
theorem d_MD_blockOf_43 : decode b_MD_blockOf 43 = .ok (.aload_n 0, 1) := by decide +kernel
theorem d_MD_blockOf_44 : decode b_MD_blockOf 44 = .ok (.invokevirtual 109, 3) := by decide +kernel
theorem d_MD_blockOf_47 : decode b_MD_blockOf 47 = .ok (.aload_n 0, 1) := by decide +kernel
theorem d_MD_blockOf_48 : decode b_MD_blockOf 48 = .ok (.getfield 13, 3) := by decide +kernel
theorem d_MD_blockOf_51 : decode b_MD_blockOf 51 = .ok (.ldc2_w 113, 3) := by decide +kernel
theorem d_MD_blockOf_54 : decode b_MD_blockOf 54 = .ok (.lsub, 1) := by decide +kernel
theorem d_MD_blockOf_55 : decode b_MD_blockOf 55 = .ok (.lrem, 1) := by decide +kernel
theorem d_MD_blockOf_56 : decode b_MD_blockOf 56 = .ok (.ladd, 1) := by decide +kernel
theorem d_MD_blockOf_57 : decode b_MD_blockOf 57 = .ok (.lreturn, 1) := by decide +kernel
theorem d_MD_challenge_0 : decode b_MD_challenge 0 = .ok (.aload_n 0, 1) := by decide +kernel
theorem d_MD_challenge_1 : decode b_MD_challenge 1 = .ok (.invokevirtual 100, 3) := by decide +kernel
theorem d_MD_challenge_4 : decode b_MD_challenge 4 = .ok (.aload_n 0, 1) := by decide +kernel
theorem d_MD_challenge_5 : decode b_MD_challenge 5 = .ok (.aload_n 0, 1) := by decide +kernel
theorem d_MD_challenge_6 : decode b_MD_challenge 6 = .ok (.getfield 29, 3) := by decide +kernel
theorem d_MD_challenge_9 : decode b_MD_challenge 9 = .ok (.invokevirtual 103, 3) := by decide +kernel
theorem d_MD_challenge_12 : decode b_MD_challenge 12 = .ok (.aload_n 0, 1) := by decide +kernel
theorem d_MD_challenge_13 : decode b_MD_challenge 13 = .ok (.lload_n 1, 1) := by decide +kernel
theorem d_MD_challenge_14 : decode b_MD_challenge 14 = .ok (.invokevirtual 103, 3) := by decide +kernel
theorem d_MD_challenge_17 : decode b_MD_challenge 17 = .ok (.aload_n 0, 1) := by decide +kernel
theorem d_MD_challenge_18 : decode b_MD_challenge 18 = .ok (.lload_n 3, 1) := by decide +kernel
theorem d_MD_challenge_19 : decode b_MD_challenge 19 = .ok (.invokevirtual 103, 3) := by decide +kernel
theorem d_MD_challenge_22 : decode b_MD_challenge 22 = .ok (.aload_n 0, 1) := by decide +kernel
theorem d_MD_challenge_23 : decode b_MD_challenge 23 = .ok (.lload 5, 2) := by decide +kernel
theorem d_MD_challenge_25 : decode b_MD_challenge 25 = .ok (.invokevirtual 103, 3) := by decide +kernel
theorem d_MD_challenge_28 : decode b_MD_challenge 28 = .ok (.aload_n 0, 1) := by decide +kernel
theorem d_MD_challenge_29 : decode b_MD_challenge 29 = .ok (.lload 7, 2) := by decide +kernel
theorem d_MD_challenge_31 : decode b_MD_challenge 31 = .ok (.invokevirtual 103, 3) := by decide +kernel
theorem d_MD_challenge_34 : decode b_MD_challenge 34 = .ok (.aload_n 0, 1) := by decide +kernel
theorem d_MD_challenge_35 : decode b_MD_challenge 35 = .ok (.lload 9, 2) := by decide +kernel
theorem d_MD_challenge_37 : decode b_MD_challenge 37 = .ok (.invokevirtual 103, 3) := by decide +kernel
theorem d_MD_challenge_40 : decode b_MD_challenge 40 = .ok (.aload_n 0, 1) := by decide +kernel
theorem d_MD_challenge_41 : decode b_MD_challenge 41 = .ok (.invokevirtual 109, 3) := by decide +kernel
theorem d_MD_challenge_44 : decode b_MD_challenge 44 = .ok (.bipush 15, 2) := by decide +kernel
theorem d_MD_challenge_46 : decode b_MD_challenge 46 = .ok (.lushr, 1) := by decide +kernel
theorem d_MD_challenge_47 : decode b_MD_challenge 47 = .ok (.l2i, 1) := by decide +kernel
theorem d_MD_challenge_48 : decode b_MD_challenge 48 = .ok (.ireturn, 1) := by decide +kernel
theorem d_MD_make_0 : decode b_MD_make 0 = .ok (.aload_n 0, 1) := by decide +kernel
theorem d_MD_make_1 : decode b_MD_make 1 = .ok (.getfield 51, 3) := by decide +kernel
theorem d_MD_make_4 : decode b_MD_make 4 = .ok (.iload_n 1, 1) := by decide +kernel
theorem d_MD_make_5 : decode b_MD_make 5 = .ok (.laload, 1) := by decide +kernel
theorem d_MD_make_6 : decode b_MD_make 6 = .ok (.lstore_n 3, 1) := by decide +kernel
theorem d_MD_make_7 : decode b_MD_make 7 = .ok (.aload_n 0, 1) := by decide +kernel
theorem d_MD_make_8 : decode b_MD_make 8 = .ok (.iload_n 2, 1) := by decide +kernel
theorem d_MD_make_9 : decode b_MD_make 9 = .ok (.invokevirtual 92, 3) := by decide +kernel
theorem d_MD_make_12 : decode b_MD_make 12 = .ok (.lstore 5, 2) := by decide +kernel
theorem d_MD_make_14 : decode b_MD_make 14 = .ok (.lload_n 3, 1) := by decide +kernel
theorem d_MD_make_15 : decode b_MD_make 15 = .ok (.ldc2_w 115, 3) := by decide +kernel
theorem d_MD_make_18 : decode b_MD_make 18 = .ok (.lload 5, 2) := by decide +kernel
theorem d_MD_make_20 : decode b_MD_make 20 = .ok (.lmul, 1) := by decide +kernel
theorem d_MD_make_21 : decode b_MD_make 21 = .ok (.aload_n 0, 1) := by decide +kernel
theorem d_MD_make_22 : decode b_MD_make 22 = .ok (.getfield 13, 3) := by decide +kernel
theorem d_MD_make_25 : decode b_MD_make 25 = .ok (.invokestatic 96, 3) := by decide +kernel
theorem d_MD_make_28 : decode b_MD_make 28 = .ok (.lstore 7, 2) := by decide +kernel
theorem d_MD_make_30 : decode b_MD_make 30 = .ok (.aload_n 0, 1) := by decide +kernel
theorem d_MD_make_31 : decode b_MD_make 31 = .ok (.invokevirtual 100, 3) := by decide +kernel
theorem d_MD_make_34 : decode b_MD_make 34 = .ok (.aload_n 0, 1) := by decide +kernel
theorem d_MD_make_35 : decode b_MD_make 35 = .ok (.lload 5, 2) := by decide +kernel
theorem d_MD_make_37 : decode b_MD_make 37 = .ok (.invokevirtual 103, 3) := by decide +kernel
theorem d_MD_make_40 : decode b_MD_make 40 = .ok (.aload_n 0, 1) := by decide +kernel
theorem d_MD_make_41 : decode b_MD_make 41 = .ok (.lload_n 3, 1) := by decide +kernel
theorem d_MD_make_42 : decode b_MD_make 42 = .ok (.invokevirtual 103, 3) := by decide +kernel
theorem d_MD_make_45 : decode b_MD_make 45 = .ok (.aload_n 0, 1) := by decide +kernel
theorem d_MD_make_46 : decode b_MD_make 46 = .ok (.aload_n 0, 1) := by decide +kernel
theorem d_MD_make_47 : decode b_MD_make 47 = .ok (.getfield 32, 3) := by decide +kernel
theorem d_MD_make_50 : decode b_MD_make 50 = .ok (.i2l, 1) := by decide +kernel
theorem d_MD_make_51 : decode b_MD_make 51 = .ok (.invokevirtual 103, 3) := by decide +kernel
theorem d_MD_make_54 : decode b_MD_make 54 = .ok (.aload_n 0, 1) := by decide +kernel
theorem d_MD_make_55 : decode b_MD_make 55 = .ok (.invokevirtual 109, 3) := by decide +kernel
theorem d_MD_make_58 : decode b_MD_make 58 = .ok (.lstore 9, 2) := by decide +kernel
theorem d_MD_make_60 : decode b_MD_make 60 = .ok (.lload_n 3, 1) := by decide +kernel
theorem d_MD_make_61 : decode b_MD_make 61 = .ok (.ldc2_w 117, 3) := by decide +kernel
theorem d_MD_make_64 : decode b_MD_make 64 = .ok (.aload_n 0, 1) := by decide +kernel
theorem d_MD_make_65 : decode b_MD_make 65 = .ok (.getfield 13, 3) := by decide +kernel
theorem d_MD_make_68 : decode b_MD_make 68 = .ok (.invokestatic 96, 3) := by decide +kernel
theorem d_MD_make_71 : decode b_MD_make 71 = .ok (.lstore 11, 2) := by decide +kernel
theorem d_MD_make_73 : decode b_MD_make 73 = .ok (.aload_n 0, 1) := by decide +kernel
theorem d_MD_make_74 : decode b_MD_make 74 = .ok (.lload 11, 2) := by decide +kernel
theorem d_MD_make_76 : decode b_MD_make 76 = .ok (.aload_n 0, 1) := by decide +kernel
theorem d_MD_make_77 : decode b_MD_make 77 = .ok (.iload_n 2, 1) := by decide +kernel
theorem d_MD_make_78 : decode b_MD_make 78 = .ok (.invokevirtual 119, 3) := by decide +kernel
theorem d_MD_make_81 : decode b_MD_make 81 = .ok (.lload 7, 2) := by decide +kernel
theorem d_MD_make_83 : decode b_MD_make 83 = .ok (.lload 7, 2) := by decide +kernel
theorem d_MD_make_85 : decode b_MD_make 85 = .ok (.lmul, 1) := by decide +kernel
theorem d_MD_make_86 : decode b_MD_make 86 = .ok (.aload_n 0, 1) := by decide +kernel
theorem d_MD_make_87 : decode b_MD_make 87 = .ok (.getfield 13, 3) := by decide +kernel
theorem d_MD_make_90 : decode b_MD_make 90 = .ok (.lrem, 1) := by decide +kernel
theorem d_MD_make_91 : decode b_MD_make 91 = .ok (.aload_n 0, 1) := by decide +kernel
theorem d_MD_make_92 : decode b_MD_make 92 = .ok (.getfield 29, 3) := by decide +kernel
theorem d_MD_make_95 : decode b_MD_make 95 = .ok (.lload 9, 2) := by decide +kernel
theorem d_MD_make_97 : decode b_MD_make 97 = .ok (.aload_n 0, 1) := by decide +kernel
theorem d_MD_make_98 : decode b_MD_make 98 = .ok (.getfield 13, 3) := by decide +kernel
theorem d_MD_make_101 : decode b_MD_make 101 = .ok (.invokestatic 96, 3) := by decide +kernel
theorem d_MD_make_104 : decode b_MD_make 104 = .ok (.lload 11, 2) := by decide +kernel
theorem d_MD_make_106 : decode b_MD_make 106 = .ok (.lload 9, 2) := by decide +kernel
theorem d_MD_make_108 : decode b_MD_make 108 = .ok (.aload_n 0, 1) := by decide +kernel
theorem d_MD_make_109 : decode b_MD_make 109 = .ok (.getfield 13, 3) := by decide +kernel
theorem d_MD_make_112 : decode b_MD_make 112 = .ok (.invokestatic 96, 3) := by decide +kernel
theorem d_MD_make_115 : decode b_MD_make 115 = .ok (.invokevirtual 122, 3) := by decide +kernel
theorem d_MD_make_118 : decode b_MD_make 118 = .ok (.istore 13, 2) := by decide +kernel
theorem d_MD_make_120 : decode b_MD_make 120 = .ok (.aload_n 0, 1) := by decide +kernel
theorem d_MD_make_121 : decode b_MD_make 121 = .ok (.getfield 64, 3) := by decide +kernel
theorem d_MD_make_124 : decode b_MD_make 124 = .ok (.bipush 6, 2) := by decide +kernel
theorem d_MD_make_126 : decode b_MD_make 126 = .ok (.iload_n 1, 1) := by decide +kernel
theorem d_MD_make_127 : decode b_MD_make 127 = .ok (.imul, 1) := by decide +kernel
theorem d_MD_make_128 : decode b_MD_make 128 = .ok (.iload_n 2, 1) := by decide +kernel
theorem d_MD_make_129 : decode b_MD_make 129 = .ok (.iadd, 1) := by decide +kernel
theorem d_MD_make_130 : decode b_MD_make 130 = .ok (.lload 7, 2) := by decide +kernel
theorem d_MD_make_132 : decode b_MD_make 132 = .ok (.lastore, 1) := by decide +kernel
theorem d_MD_make_133 : decode b_MD_make 133 = .ok (.aload_n 0, 1) := by decide +kernel
theorem d_MD_make_134 : decode b_MD_make 134 = .ok (.getfield 67, 3) := by decide +kernel
theorem d_MD_make_137 : decode b_MD_make 137 = .ok (.bipush 6, 2) := by decide +kernel
theorem d_MD_make_139 : decode b_MD_make 139 = .ok (.iload_n 1, 1) := by decide +kernel
theorem d_MD_make_140 : decode b_MD_make 140 = .ok (.imul, 1) := by decide +kernel
theorem d_MD_make_141 : decode b_MD_make 141 = .ok (.iload_n 2, 1) := by decide +kernel
theorem d_MD_make_142 : decode b_MD_make 142 = .ok (.iadd, 1) := by decide +kernel
theorem d_MD_make_143 : decode b_MD_make 143 = .ok (.iload 13, 2) := by decide +kernel
theorem d_MD_make_145 : decode b_MD_make 145 = .ok (.iastore, 1) := by decide +kernel
theorem d_MD_make_146 : decode b_MD_make 146 = .ok (.aload_n 0, 1) := by decide +kernel
theorem d_MD_make_147 : decode b_MD_make 147 = .ok (.getfield 70, 3) := by decide +kernel
theorem d_MD_make_150 : decode b_MD_make 150 = .ok (.bipush 6, 2) := by decide +kernel
theorem d_MD_make_152 : decode b_MD_make 152 = .ok (.iload_n 1, 1) := by decide +kernel
theorem d_MD_make_153 : decode b_MD_make 153 = .ok (.imul, 1) := by decide +kernel
theorem d_MD_make_154 : decode b_MD_make 154 = .ok (.iload_n 2, 1) := by decide +kernel
theorem d_MD_make_155 : decode b_MD_make 155 = .ok (.iadd, 1) := by decide +kernel
theorem d_MD_make_156 : decode b_MD_make 156 = .ok (.lload 5, 2) := by decide +kernel
theorem d_MD_make_158 : decode b_MD_make 158 = .ok (.iload 13, 2) := by decide +kernel
theorem d_MD_make_160 : decode b_MD_make 160 = .ok (.i2l, 1) := by decide +kernel
theorem d_MD_make_161 : decode b_MD_make 161 = .ok (.lmul, 1) := by decide +kernel
theorem d_MD_make_162 : decode b_MD_make 162 = .ok (.lload 9, 2) := by decide +kernel
theorem d_MD_make_164 : decode b_MD_make 164 = .ok (.ladd, 1) := by decide +kernel
theorem d_MD_make_165 : decode b_MD_make 165 = .ok (.lastore, 1) := by decide +kernel
theorem d_MD_make_166 : decode b_MD_make 166 = .ok (.return_, 1) := by decide +kernel
theorem d_MD_good_0 : decode b_MD_good 0 = .ok (.aload_n 0, 1) := by decide +kernel
theorem d_MD_good_1 : decode b_MD_good 1 = .ok (.getfield 51, 3) := by decide +kernel
theorem d_MD_good_4 : decode b_MD_good 4 = .ok (.iload_n 1, 1) := by decide +kernel
theorem d_MD_good_5 : decode b_MD_good 5 = .ok (.laload, 1) := by decide +kernel
theorem d_MD_good_6 : decode b_MD_good 6 = .ok (.lstore_n 3, 1) := by decide +kernel
theorem d_MD_good_7 : decode b_MD_good 7 = .ok (.aload_n 0, 1) := by decide +kernel
theorem d_MD_good_8 : decode b_MD_good 8 = .ok (.getfield 64, 3) := by decide +kernel
theorem d_MD_good_11 : decode b_MD_good 11 = .ok (.bipush 6, 2) := by decide +kernel
theorem d_MD_good_13 : decode b_MD_good 13 = .ok (.iload_n 1, 1) := by decide +kernel
theorem d_MD_good_14 : decode b_MD_good 14 = .ok (.imul, 1) := by decide +kernel
theorem d_MD_good_15 : decode b_MD_good 15 = .ok (.iload_n 2, 1) := by decide +kernel
theorem d_MD_good_16 : decode b_MD_good 16 = .ok (.iadd, 1) := by decide +kernel
theorem d_MD_good_17 : decode b_MD_good 17 = .ok (.laload, 1) := by decide +kernel
theorem d_MD_good_18 : decode b_MD_good 18 = .ok (.lstore 5, 2) := by decide +kernel
theorem d_MD_good_20 : decode b_MD_good 20 = .ok (.aload_n 0, 1) := by decide +kernel
theorem d_MD_good_21 : decode b_MD_good 21 = .ok (.getfield 67, 3) := by decide +kernel
theorem d_MD_good_24 : decode b_MD_good 24 = .ok (.bipush 6, 2) := by decide +kernel
theorem d_MD_good_26 : decode b_MD_good 26 = .ok (.iload_n 1, 1) := by decide +kernel
theorem d_MD_good_27 : decode b_MD_good 27 = .ok (.imul, 1) := by decide +kernel
theorem d_MD_good_28 : decode b_MD_good 28 = .ok (.iload_n 2, 1) := by decide +kernel
theorem d_MD_good_29 : decode b_MD_good 29 = .ok (.iadd, 1) := by decide +kernel
theorem d_MD_good_30 : decode b_MD_good 30 = .ok (.iaload, 1) := by decide +kernel
theorem d_MD_good_31 : decode b_MD_good 31 = .ok (.istore 7, 2) := by decide +kernel
theorem d_MD_good_33 : decode b_MD_good 33 = .ok (.aload_n 0, 1) := by decide +kernel
theorem d_MD_good_34 : decode b_MD_good 34 = .ok (.getfield 70, 3) := by decide +kernel
theorem d_MD_good_37 : decode b_MD_good 37 = .ok (.bipush 6, 2) := by decide +kernel
theorem d_MD_good_39 : decode b_MD_good 39 = .ok (.iload_n 1, 1) := by decide +kernel
theorem d_MD_good_40 : decode b_MD_good 40 = .ok (.imul, 1) := by decide +kernel
theorem d_MD_good_41 : decode b_MD_good 41 = .ok (.iload_n 2, 1) := by decide +kernel
theorem d_MD_good_42 : decode b_MD_good 42 = .ok (.iadd, 1) := by decide +kernel
theorem d_MD_good_43 : decode b_MD_good 43 = .ok (.laload, 1) := by decide +kernel
theorem d_MD_good_44 : decode b_MD_good 44 = .ok (.lstore 8, 2) := by decide +kernel
theorem d_MD_good_46 : decode b_MD_good 46 = .ok (.lload_n 3, 1) := by decide +kernel
theorem d_MD_good_47 : decode b_MD_good 47 = .ok (.aload_n 0, 1) := by decide +kernel
theorem d_MD_good_48 : decode b_MD_good 48 = .ok (.getfield 13, 3) := by decide +kernel
theorem d_MD_good_51 : decode b_MD_good 51 = .ok (.invokestatic 126, 3) := by decide +kernel
theorem d_MD_good_54 : decode b_MD_good 54 = .ok (.lconst 1, 1) := by decide +kernel
theorem d_MD_good_55 : decode b_MD_good 55 = .ok (.lcmp, 1) := by decide +kernel
theorem d_MD_good_56 : decode b_MD_good 56 = .ok (.ifCond .ne 53, 3) := by decide +kernel
theorem d_MD_good_59 : decode b_MD_good 59 = .ok (.lload 5, 2) := by decide +kernel
theorem d_MD_good_61 : decode b_MD_good 61 = .ok (.lconst 0, 1) := by decide +kernel
theorem d_MD_good_62 : decode b_MD_good 62 = .ok (.lcmp, 1) := by decide +kernel
theorem d_MD_good_63 : decode b_MD_good 63 = .ok (.ifCond .lt 46, 3) := by decide +kernel
theorem d_MD_good_66 : decode b_MD_good 66 = .ok (.lload 5, 2) := by decide +kernel
theorem d_MD_good_68 : decode b_MD_good 68 = .ok (.aload_n 0, 1) := by decide +kernel
theorem d_MD_good_69 : decode b_MD_good 69 = .ok (.getfield 13, 3) := by decide +kernel
theorem d_MD_good_72 : decode b_MD_good 72 = .ok (.lcmp, 1) := by decide +kernel
theorem d_MD_good_73 : decode b_MD_good 73 = .ok (.ifCond .ge 36, 3) := by decide +kernel
theorem d_MD_good_76 : decode b_MD_good 76 = .ok (.lload 5, 2) := by decide +kernel
theorem d_MD_good_78 : decode b_MD_good 78 = .ok (.aload_n 0, 1) := by decide +kernel
theorem d_MD_good_79 : decode b_MD_good 79 = .ok (.getfield 13, 3) := by decide +kernel
theorem d_MD_good_82 : decode b_MD_good 82 = .ok (.invokestatic 126, 3) := by decide +kernel
theorem d_MD_good_85 : decode b_MD_good 85 = .ok (.lconst 1, 1) := by decide +kernel
theorem d_MD_good_86 : decode b_MD_good 86 = .ok (.lcmp, 1) := by decide +kernel
theorem d_MD_good_87 : decode b_MD_good 87 = .ok (.ifCond .ne 22, 3) := by decide +kernel
theorem d_MD_good_90 : decode b_MD_good 90 = .ok (.iload 7, 2) := by decide +kernel
theorem d_MD_good_92 : decode b_MD_good 92 = .ok (.ifCond .lt 17, 3) := by decide +kernel
theorem d_MD_good_95 : decode b_MD_good 95 = .ok (.iload 7, 2) := by decide +kernel
theorem d_MD_good_97 : decode b_MD_good 97 = .ok (.ldc 130, 2) := by decide +kernel
theorem d_MD_good_99 : decode b_MD_good 99 = .ok (.if_icmp .gt 10, 3) := by decide +kernel
theorem d_MD_good_102 : decode b_MD_good 102 = .ok (.lload 8, 2) := by decide +kernel
theorem d_MD_good_104 : decode b_MD_good 104 = .ok (.lconst 0, 1) := by decide +kernel
theorem d_MD_good_105 : decode b_MD_good 105 = .ok (.lcmp, 1) := by decide +kernel
theorem d_MD_good_106 : decode b_MD_good 106 = .ok (.ifCond .ge 5, 3) := by decide +kernel
theorem d_MD_good_109 : decode b_MD_good 109 = .ok (.iconst 0, 1) := by decide +kernel
theorem d_MD_good_110 : decode b_MD_good 110 = .ok (.ireturn, 1) := by decide +kernel
theorem d_MD_good_111 : decode b_MD_good 111 = .ok (.lload_n 3, 1) := by decide +kernel
theorem d_MD_good_112 : decode b_MD_good 112 = .ok (.ldc2_w 117, 3) := by decide +kernel
theorem d_MD_good_115 : decode b_MD_good 115 = .ok (.aload_n 0, 1) := by decide +kernel
theorem d_MD_good_116 : decode b_MD_good 116 = .ok (.getfield 13, 3) := by decide +kernel
theorem d_MD_good_119 : decode b_MD_good 119 = .ok (.invokestatic 96, 3) := by decide +kernel
theorem d_MD_good_122 : decode b_MD_good 122 = .ok (.lstore 10, 2) := by decide +kernel
theorem d_MD_good_124 : decode b_MD_good 124 = .ok (.lload 5, 2) := by decide +kernel
theorem d_MD_good_126 : decode b_MD_good 126 = .ok (.lload 5, 2) := by decide +kernel
theorem d_MD_good_128 : decode b_MD_good 128 = .ok (.lmul, 1) := by decide +kernel
theorem d_MD_good_129 : decode b_MD_good 129 = .ok (.aload_n 0, 1) := by decide +kernel
theorem d_MD_good_130 : decode b_MD_good 130 = .ok (.getfield 13, 3) := by decide +kernel
theorem d_MD_good_133 : decode b_MD_good 133 = .ok (.lrem, 1) := by decide +kernel
theorem d_MD_good_134 : decode b_MD_good 134 = .ok (.lstore 12, 2) := by decide +kernel
theorem d_MD_good_136 : decode b_MD_good 136 = .ok (.aload_n 0, 1) := by decide +kernel
theorem d_MD_good_137 : decode b_MD_good 137 = .ok (.getfield 29, 3) := by decide +kernel
theorem d_MD_good_140 : decode b_MD_good 140 = .ok (.lload 8, 2) := by decide +kernel
theorem d_MD_good_142 : decode b_MD_good 142 = .ok (.aload_n 0, 1) := by decide +kernel
theorem d_MD_good_143 : decode b_MD_good 143 = .ok (.getfield 13, 3) := by decide +kernel
theorem d_MD_good_146 : decode b_MD_good 146 = .ok (.invokestatic 96, 3) := by decide +kernel
theorem d_MD_good_149 : decode b_MD_good 149 = .ok (.aload_n 0, 1) := by decide +kernel
theorem d_MD_good_150 : decode b_MD_good 150 = .ok (.iload_n 2, 1) := by decide +kernel
theorem d_MD_good_151 : decode b_MD_good 151 = .ok (.invokevirtual 119, 3) := by decide +kernel
theorem d_MD_good_154 : decode b_MD_good 154 = .ok (.iload 7, 2) := by decide +kernel
theorem d_MD_good_156 : decode b_MD_good 156 = .ok (.i2l, 1) := by decide +kernel
theorem d_MD_good_157 : decode b_MD_good 157 = .ok (.aload_n 0, 1) := by decide +kernel
theorem d_MD_good_158 : decode b_MD_good 158 = .ok (.getfield 13, 3) := by decide +kernel
theorem d_MD_good_161 : decode b_MD_good 161 = .ok (.invokestatic 96, 3) := by decide +kernel
theorem d_MD_good_164 : decode b_MD_good 164 = .ok (.aload_n 0, 1) := by decide +kernel
theorem d_MD_good_165 : decode b_MD_good 165 = .ok (.getfield 13, 3) := by decide +kernel
theorem d_MD_good_168 : decode b_MD_good 168 = .ok (.invokestatic 131, 3) := by decide +kernel
theorem d_MD_good_171 : decode b_MD_good 171 = .ok (.lmul, 1) := by decide +kernel
theorem d_MD_good_172 : decode b_MD_good 172 = .ok (.aload_n 0, 1) := by decide +kernel
theorem d_MD_good_173 : decode b_MD_good 173 = .ok (.getfield 13, 3) := by decide +kernel
theorem d_MD_good_176 : decode b_MD_good 176 = .ok (.lrem, 1) := by decide +kernel
theorem d_MD_good_177 : decode b_MD_good 177 = .ok (.lstore 14, 2) := by decide +kernel
theorem d_MD_good_179 : decode b_MD_good 179 = .ok (.lload 10, 2) := by decide +kernel
theorem d_MD_good_181 : decode b_MD_good 181 = .ok (.lload 8, 2) := by decide +kernel
theorem d_MD_good_183 : decode b_MD_good 183 = .ok (.aload_n 0, 1) := by decide +kernel
theorem d_MD_good_184 : decode b_MD_good 184 = .ok (.getfield 13, 3) := by decide +kernel
theorem d_MD_good_187 : decode b_MD_good 187 = .ok (.invokestatic 96, 3) := by decide +kernel
theorem d_MD_good_190 : decode b_MD_good 190 = .ok (.lload 12, 2) := by decide +kernel
theorem d_MD_good_192 : decode b_MD_good 192 = .ok (.iload 7, 2) := by decide +kernel
theorem d_MD_good_194 : decode b_MD_good 194 = .ok (.i2l, 1) := by decide +kernel
theorem d_MD_good_195 : decode b_MD_good 195 = .ok (.aload_n 0, 1) := by decide +kernel
theorem d_MD_good_196 : decode b_MD_good 196 = .ok (.getfield 13, 3) := by decide +kernel
theorem d_MD_good_199 : decode b_MD_good 199 = .ok (.invokestatic 96, 3) := by decide +kernel
theorem d_MD_good_202 : decode b_MD_good 202 = .ok (.aload_n 0, 1) := by decide +kernel
theorem d_MD_good_203 : decode b_MD_good 203 = .ok (.getfield 13, 3) := by decide +kernel
theorem d_MD_good_206 : decode b_MD_good 206 = .ok (.invokestatic 131, 3) := by decide +kernel
theorem d_MD_good_209 : decode b_MD_good 209 = .ok (.lmul, 1) := by decide +kernel
theorem d_MD_good_210 : decode b_MD_good 210 = .ok (.aload_n 0, 1) := by decide +kernel
theorem d_MD_good_211 : decode b_MD_good 211 = .ok (.getfield 13, 3) := by decide +kernel
theorem d_MD_good_214 : decode b_MD_good 214 = .ok (.lrem, 1) := by decide +kernel
theorem d_MD_good_215 : decode b_MD_good 215 = .ok (.lstore 16, 2) := by decide +kernel
theorem d_MD_good_217 : decode b_MD_good 217 = .ok (.aload_n 0, 1) := by decide +kernel
theorem d_MD_good_218 : decode b_MD_good 218 = .ok (.lload 10, 2) := by decide +kernel
theorem d_MD_good_220 : decode b_MD_good 220 = .ok (.aload_n 0, 1) := by decide +kernel
theorem d_MD_good_221 : decode b_MD_good 221 = .ok (.iload_n 2, 1) := by decide +kernel
theorem d_MD_good_222 : decode b_MD_good 222 = .ok (.invokevirtual 119, 3) := by decide +kernel
theorem d_MD_good_225 : decode b_MD_good 225 = .ok (.lload 12, 2) := by decide +kernel
theorem d_MD_good_227 : decode b_MD_good 227 = .ok (.lload 14, 2) := by decide +kernel
theorem d_MD_good_229 : decode b_MD_good 229 = .ok (.lload 16, 2) := by decide +kernel
theorem d_MD_good_231 : decode b_MD_good 231 = .ok (.invokevirtual 122, 3) := by decide +kernel
theorem d_MD_good_234 : decode b_MD_good 234 = .ok (.iload 7, 2) := by decide +kernel
theorem d_MD_good_236 : decode b_MD_good 236 = .ok (.if_icmp .ne 7, 3) := by decide +kernel
theorem d_MD_good_239 : decode b_MD_good 239 = .ok (.iconst 1, 1) := by decide +kernel
theorem d_MD_good_240 : decode b_MD_good 240 = .ok (.goto 4, 3) := by decide +kernel
theorem d_MD_good_243 : decode b_MD_good 243 = .ok (.iconst 0, 1) := by decide +kernel
theorem d_MD_good_244 : decode b_MD_good 244 = .ok (.ireturn, 1) := by decide +kernel
theorem d_MD_bits_0 : decode b_MD_bits 0 = .ok (.iconst 0, 1) := by decide +kernel
theorem d_MD_bits_1 : decode b_MD_bits 1 = .ok (.istore_n 1, 1) := by decide +kernel
theorem d_MD_bits_2 : decode b_MD_bits 2 = .ok (.iconst 0, 1) := by decide +kernel
theorem d_MD_bits_3 : decode b_MD_bits 3 = .ok (.istore_n 2, 1) := by decide +kernel
theorem d_MD_bits_4 : decode b_MD_bits 4 = .ok (.iload_n 2, 1) := by decide +kernel
theorem d_MD_bits_5 : decode b_MD_bits 5 = .ok (.bipush 6, 2) := by decide +kernel
theorem d_MD_bits_7 : decode b_MD_bits 7 = .ok (.if_icmp .ge 17, 3) := by decide +kernel
theorem d_MD_bits_10 : decode b_MD_bits 10 = .ok (.iload_n 1, 1) := by decide +kernel
theorem d_MD_bits_11 : decode b_MD_bits 11 = .ok (.iload_n 0, 1) := by decide +kernel
theorem d_MD_bits_12 : decode b_MD_bits 12 = .ok (.iload_n 2, 1) := by decide +kernel
theorem d_MD_bits_13 : decode b_MD_bits 13 = .ok (.ishr, 1) := by decide +kernel
theorem d_MD_bits_14 : decode b_MD_bits 14 = .ok (.iconst 1, 1) := by decide +kernel
theorem d_MD_bits_15 : decode b_MD_bits 15 = .ok (.iand, 1) := by decide +kernel
theorem d_MD_bits_16 : decode b_MD_bits 16 = .ok (.iadd, 1) := by decide +kernel
theorem d_MD_bits_17 : decode b_MD_bits 17 = .ok (.istore_n 1, 1) := by decide +kernel
theorem d_MD_bits_18 : decode b_MD_bits 18 = .ok (.iinc 2 1, 3) := by decide +kernel
theorem d_MD_bits_21 : decode b_MD_bits 21 = .ok (.goto (-17), 3) := by decide +kernel
theorem d_MD_bits_24 : decode b_MD_bits 24 = .ok (.iload_n 1, 1) := by decide +kernel
theorem d_MD_bits_25 : decode b_MD_bits 25 = .ok (.ireturn, 1) := by decide +kernel
theorem d_MD_isMotion_0 : decode b_MD_isMotion 0 = .ok (.iload_n 1, 1) := by decide +kernel
theorem d_MD_isMotion_1 : decode b_MD_isMotion 1 = .ok (.ifCond .lt 15, 3) := by decide +kernel
theorem d_MD_isMotion_4 : decode b_MD_isMotion 4 = .ok (.iload_n 1, 1) := by decide +kernel
theorem d_MD_isMotion_5 : decode b_MD_isMotion 5 = .ok (.aload_n 0, 1) := by decide +kernel
theorem d_MD_isMotion_6 : decode b_MD_isMotion 6 = .ok (.getfield 45, 3) := by decide +kernel
theorem d_MD_isMotion_9 : decode b_MD_isMotion 9 = .ok (.if_icmp .ge 7, 3) := by decide +kernel
theorem d_MD_isMotion_12 : decode b_MD_isMotion 12 = .ok (.iconst 1, 1) := by decide +kernel
theorem d_MD_isMotion_13 : decode b_MD_isMotion 13 = .ok (.goto 4, 3) := by decide +kernel
theorem d_MD_isMotion_16 : decode b_MD_isMotion 16 = .ok (.iconst 0, 1) := by decide +kernel
theorem d_MD_isMotion_17 : decode b_MD_isMotion 17 = .ok (.ireturn, 1) := by decide +kernel
theorem d_MD_isTrustee_0 : decode b_MD_isTrustee 0 = .ok (.iload_n 0, 1) := by decide +kernel
theorem d_MD_isTrustee_1 : decode b_MD_isTrustee 1 = .ok (.ifCond .lt 13, 3) := by decide +kernel
theorem d_MD_isTrustee_4 : decode b_MD_isTrustee 4 = .ok (.iload_n 0, 1) := by decide +kernel
theorem d_MD_isTrustee_5 : decode b_MD_isTrustee 5 = .ok (.bipush 6, 2) := by decide +kernel
theorem d_MD_isTrustee_7 : decode b_MD_isTrustee 7 = .ok (.if_icmp .ge 7, 3) := by decide +kernel
theorem d_MD_isTrustee_10 : decode b_MD_isTrustee 10 = .ok (.iconst 1, 1) := by decide +kernel
theorem d_MD_isTrustee_11 : decode b_MD_isTrustee 11 = .ok (.goto 4, 3) := by decide +kernel
theorem d_MD_isTrustee_14 : decode b_MD_isTrustee 14 = .ok (.iconst 0, 1) := by decide +kernel
theorem d_MD_isTrustee_15 : decode b_MD_isTrustee 15 = .ok (.ireturn, 1) := by decide +kernel
theorem d_MD_thrown_0 : decode b_MD_thrown 0 = .ok (.aload_n 0, 1) := by decide +kernel
theorem d_MD_thrown_1 : decode b_MD_thrown 1 = .ok (.getfield 7, 3) := by decide +kernel
theorem d_MD_thrown_4 : decode b_MD_thrown 4 = .ok (.ireturn, 1) := by decide +kernel
theorem d_MD_deal_0 : decode b_MD_deal 0 = .ok (.iload_n 1, 1) := by decide +kernel
theorem d_MD_deal_1 : decode b_MD_deal 1 = .ok (.invokestatic 134, 3) := by decide +kernel
theorem d_MD_deal_4 : decode b_MD_deal 4 = .ok (.ifCond .eq 28, 3) := by decide +kernel
theorem d_MD_deal_7 : decode b_MD_deal 7 = .ok (.iload_n 2, 1) := by decide +kernel
theorem d_MD_deal_8 : decode b_MD_deal 8 = .ok (.invokestatic 134, 3) := by decide +kernel
theorem d_MD_deal_11 : decode b_MD_deal 11 = .ok (.ifCond .eq 21, 3) := by decide +kernel
theorem d_MD_deal_14 : decode b_MD_deal 14 = .ok (.iload_n 1, 1) := by decide +kernel
theorem d_MD_deal_15 : decode b_MD_deal 15 = .ok (.iload_n 2, 1) := by decide +kernel
theorem d_MD_deal_16 : decode b_MD_deal 16 = .ok (.if_icmp .eq 16, 3) := by decide +kernel
theorem d_MD_deal_19 : decode b_MD_deal 19 = .ok (.iload_n 3, 1) := by decide +kernel
theorem d_MD_deal_20 : decode b_MD_deal 20 = .ok (.ifCond .lt 12, 3) := by decide +kernel
theorem d_MD_deal_23 : decode b_MD_deal 23 = .ok (.iload 4, 2) := by decide +kernel
theorem d_MD_deal_25 : decode b_MD_deal 25 = .ok (.ifCond .lt 7, 3) := by decide +kernel
theorem d_MD_deal_28 : decode b_MD_deal 28 = .ok (.iconst 1, 1) := by decide +kernel
theorem d_MD_deal_29 : decode b_MD_deal 29 = .ok (.goto 4, 3) := by decide +kernel
theorem d_MD_deal_32 : decode b_MD_deal 32 = .ok (.iconst 0, 1) := by decide +kernel
theorem d_MD_deal_33 : decode b_MD_deal 33 = .ok (.istore 6, 2) := by decide +kernel
theorem d_MD_deal_35 : decode b_MD_deal 35 = .ok (.iload 6, 2) := by decide +kernel
theorem d_MD_deal_37 : decode b_MD_deal 37 = .ok (.ifCond .eq 40, 3) := by decide +kernel
theorem d_MD_deal_40 : decode b_MD_deal 40 = .ok (.iload 5, 2) := by decide +kernel
theorem d_MD_deal_42 : decode b_MD_deal 42 = .ok (.iconst 2, 1) := by decide +kernel
theorem d_MD_deal_43 : decode b_MD_deal 43 = .ok (.if_icmp .lt 31, 3) := by decide +kernel
theorem d_MD_deal_46 : decode b_MD_deal 46 = .ok (.iload 5, 2) := by decide +kernel
theorem d_MD_deal_48 : decode b_MD_deal 48 = .ok (.iload_n 1, 1) := by decide +kernel
theorem d_MD_deal_49 : decode b_MD_deal 49 = .ok (.iload_n 2, 1) := by decide +kernel
theorem d_MD_deal_50 : decode b_MD_deal 50 = .ok (.imul, 1) := by decide +kernel
theorem d_MD_deal_51 : decode b_MD_deal 51 = .ok (.iconst 2, 1) := by decide +kernel
theorem d_MD_deal_52 : decode b_MD_deal 52 = .ok (.isub, 1) := by decide +kernel
theorem d_MD_deal_53 : decode b_MD_deal 53 = .ok (.if_icmp .gt 21, 3) := by decide +kernel
theorem d_MD_deal_56 : decode b_MD_deal 56 = .ok (.iload 5, 2) := by decide +kernel
theorem d_MD_deal_58 : decode b_MD_deal 58 = .ok (.iload_n 1, 1) := by decide +kernel
theorem d_MD_deal_59 : decode b_MD_deal 59 = .ok (.irem, 1) := by decide +kernel
theorem d_MD_deal_60 : decode b_MD_deal 60 = .ok (.ifCond .eq 14, 3) := by decide +kernel
theorem d_MD_deal_63 : decode b_MD_deal 63 = .ok (.iload 5, 2) := by decide +kernel
theorem d_MD_deal_65 : decode b_MD_deal 65 = .ok (.iload_n 2, 1) := by decide +kernel
theorem d_MD_deal_66 : decode b_MD_deal 66 = .ok (.irem, 1) := by decide +kernel
theorem d_MD_deal_67 : decode b_MD_deal 67 = .ok (.ifCond .eq 7, 3) := by decide +kernel
theorem d_MD_deal_70 : decode b_MD_deal 70 = .ok (.iconst 1, 1) := by decide +kernel
theorem d_MD_deal_71 : decode b_MD_deal 71 = .ok (.goto 4, 3) := by decide +kernel
theorem d_MD_deal_74 : decode b_MD_deal 74 = .ok (.iconst 0, 1) := by decide +kernel
theorem d_MD_deal_75 : decode b_MD_deal 75 = .ok (.istore 6, 2) := by decide +kernel
theorem d_MD_deal_77 : decode b_MD_deal 77 = .ok (.aload_n 0, 1) := by decide +kernel
theorem d_MD_deal_78 : decode b_MD_deal 78 = .ok (.iload 6, 2) := by decide +kernel
theorem d_MD_deal_80 : decode b_MD_deal 80 = .ok (.ifCond .eq 7, 3) := by decide +kernel
theorem d_MD_deal_83 : decode b_MD_deal 83 = .ok (.iconst 0, 1) := by decide +kernel
theorem d_MD_deal_84 : decode b_MD_deal 84 = .ok (.goto 4, 3) := by decide +kernel
theorem d_MD_deal_87 : decode b_MD_deal 87 = .ok (.iconst 1, 1) := by decide +kernel
theorem d_MD_deal_88 : decode b_MD_deal 88 = .ok (.putfield 7, 3) := by decide +kernel
theorem d_MD_deal_91 : decode b_MD_deal 91 = .ok (.iload 6, 2) := by decide +kernel
theorem d_MD_deal_93 : decode b_MD_deal 93 = .ok (.ifCond .ne 4, 3) := by decide +kernel
theorem d_MD_deal_96 : decode b_MD_deal 96 = .ok (.return_, 1) := by decide +kernel
theorem d_MD_deal_97 : decode b_MD_deal 97 = .ok (.aload_n 0, 1) := by decide +kernel
theorem d_MD_deal_98 : decode b_MD_deal 98 = .ok (.iload_n 1, 1) := by decide +kernel
theorem d_MD_deal_99 : decode b_MD_deal 99 = .ok (.iload_n 2, 1) := by decide +kernel
theorem d_MD_deal_100 : decode b_MD_deal 100 = .ok (.imul, 1) := by decide +kernel
theorem d_MD_deal_101 : decode b_MD_deal 101 = .ok (.i2l, 1) := by decide +kernel
theorem d_MD_deal_102 : decode b_MD_deal 102 = .ok (.putfield 13, 3) := by decide +kernel
theorem d_MD_deal_105 : decode b_MD_deal 105 = .ok (.aload_n 0, 1) := by decide +kernel
theorem d_MD_deal_106 : decode b_MD_deal 106 = .ok (.iload_n 1, 1) := by decide +kernel
theorem d_MD_deal_107 : decode b_MD_deal 107 = .ok (.iconst 2, 1) := by decide +kernel
theorem d_MD_deal_108 : decode b_MD_deal 108 = .ok (.idiv, 1) := by decide +kernel
theorem d_MD_deal_109 : decode b_MD_deal 109 = .ok (.i2l, 1) := by decide +kernel
theorem d_MD_deal_110 : decode b_MD_deal 110 = .ok (.iload_n 2, 1) := by decide +kernel
theorem d_MD_deal_111 : decode b_MD_deal 111 = .ok (.iconst 2, 1) := by decide +kernel
theorem d_MD_deal_112 : decode b_MD_deal 112 = .ok (.idiv, 1) := by decide +kernel
theorem d_MD_deal_113 : decode b_MD_deal 113 = .ok (.i2l, 1) := by decide +kernel
theorem d_MD_deal_114 : decode b_MD_deal 114 = .ok (.lmul, 1) := by decide +kernel
theorem d_MD_deal_115 : decode b_MD_deal 115 = .ok (.putfield 17, 3) := by decide +kernel
theorem d_MD_deal_118 : decode b_MD_deal 118 = .ok (.aload_n 0, 1) := by decide +kernel
theorem d_MD_deal_119 : decode b_MD_deal 119 = .ok (.ldc2_w 137, 3) := by decide +kernel
theorem d_MD_deal_122 : decode b_MD_deal 122 = .ok (.aload_n 0, 1) := by decide +kernel
theorem d_MD_deal_123 : decode b_MD_deal 123 = .ok (.getfield 17, 3) := by decide +kernel
theorem d_MD_deal_126 : decode b_MD_deal 126 = .ok (.invokestatic 131, 3) := by decide +kernel
theorem d_MD_deal_129 : decode b_MD_deal 129 = .ok (.putfield 20, 3) := by decide +kernel
theorem d_MD_deal_132 : decode b_MD_deal 132 = .ok (.aload_n 0, 1) := by decide +kernel
theorem d_MD_deal_133 : decode b_MD_deal 133 = .ok (.iload_n 3, 1) := by decide +kernel
theorem d_MD_deal_134 : decode b_MD_deal 134 = .ok (.i2l, 1) := by decide +kernel
theorem d_MD_deal_135 : decode b_MD_deal 135 = .ok (.aload_n 0, 1) := by decide +kernel
theorem d_MD_deal_136 : decode b_MD_deal 136 = .ok (.getfield 17, 3) := by decide +kernel
theorem d_MD_deal_139 : decode b_MD_deal 139 = .ok (.lrem, 1) := by decide +kernel
theorem d_MD_deal_140 : decode b_MD_deal 140 = .ok (.putfield 23, 3) := by decide +kernel
theorem d_MD_deal_143 : decode b_MD_deal 143 = .ok (.aload_n 0, 1) := by decide +kernel
theorem d_MD_deal_144 : decode b_MD_deal 144 = .ok (.iload 4, 2) := by decide +kernel
theorem d_MD_deal_146 : decode b_MD_deal 146 = .ok (.i2l, 1) := by decide +kernel
theorem d_MD_deal_147 : decode b_MD_deal 147 = .ok (.aload_n 0, 1) := by decide +kernel
theorem d_MD_deal_148 : decode b_MD_deal 148 = .ok (.getfield 17, 3) := by decide +kernel
theorem d_MD_deal_151 : decode b_MD_deal 151 = .ok (.lrem, 1) := by decide +kernel
theorem d_MD_deal_152 : decode b_MD_deal 152 = .ok (.putfield 26, 3) := by decide +kernel
theorem d_MD_deal_155 : decode b_MD_deal 155 = .ok (.aload_n 0, 1) := by decide +kernel
theorem d_MD_deal_156 : decode b_MD_deal 156 = .ok (.iload 5, 2) := by decide +kernel
theorem d_MD_deal_158 : decode b_MD_deal 158 = .ok (.i2l, 1) := by decide +kernel
theorem d_MD_deal_159 : decode b_MD_deal 159 = .ok (.iload 5, 2) := by decide +kernel
theorem d_MD_deal_161 : decode b_MD_deal 161 = .ok (.i2l, 1) := by decide +kernel
theorem d_MD_deal_162 : decode b_MD_deal 162 = .ok (.lmul, 1) := by decide +kernel
theorem d_MD_deal_163 : decode b_MD_deal 163 = .ok (.aload_n 0, 1) := by decide +kernel
theorem d_MD_deal_164 : decode b_MD_deal 164 = .ok (.getfield 13, 3) := by decide +kernel
theorem d_MD_deal_167 : decode b_MD_deal 167 = .ok (.lrem, 1) := by decide +kernel
theorem d_MD_deal_168 : decode b_MD_deal 168 = .ok (.putfield 29, 3) := by decide +kernel
theorem d_MD_deal_171 : decode b_MD_deal 171 = .ok (.aload_n 0, 1) := by decide +kernel
theorem d_MD_deal_172 : decode b_MD_deal 172 = .ok (.iconst 0, 1) := by decide +kernel
theorem d_MD_deal_173 : decode b_MD_deal 173 = .ok (.putfield 32, 3) := by decide +kernel
theorem d_MD_deal_176 : decode b_MD_deal 176 = .ok (.aload_n 0, 1) := by decide +kernel
theorem d_MD_deal_177 : decode b_MD_deal 177 = .ok (.iconst 0, 1) := by decide +kernel
theorem d_MD_deal_178 : decode b_MD_deal 178 = .ok (.putfield 35, 3) := by decide +kernel
theorem d_MD_deal_181 : decode b_MD_deal 181 = .ok (.aload_n 0, 1) := by decide +kernel
theorem d_MD_deal_182 : decode b_MD_deal 182 = .ok (.iconst 0, 1) := by decide +kernel
theorem d_MD_deal_183 : decode b_MD_deal 183 = .ok (.putfield 45, 3) := by decide +kernel
theorem d_MD_deal_186 : decode b_MD_deal 186 = .ok (.aload_n 0, 1) := by decide +kernel
theorem d_MD_deal_187 : decode b_MD_deal 187 = .ok (.iconst 0, 1) := by decide +kernel
theorem d_MD_deal_188 : decode b_MD_deal 188 = .ok (.putfield 73, 3) := by decide +kernel
theorem d_MD_deal_191 : decode b_MD_deal 191 = .ok (.return_, 1) := by decide +kernel
theorem d_MD_put_0 : decode b_MD_put 0 = .ok (.aload_n 0, 1) := by decide +kernel
theorem d_MD_put_1 : decode b_MD_put 1 = .ok (.iload_n 2, 1) := by decide +kernel
theorem d_MD_put_2 : decode b_MD_put 2 = .ok (.iconst 1, 1) := by decide +kernel
theorem d_MD_put_3 : decode b_MD_put 3 = .ok (.if_icmp .lt 19, 3) := by decide +kernel
theorem d_MD_put_6 : decode b_MD_put 6 = .ok (.iload_n 2, 1) := by decide +kernel
theorem d_MD_put_7 : decode b_MD_put 7 = .ok (.iconst 4, 1) := by decide +kernel
theorem d_MD_put_8 : decode b_MD_put 8 = .ok (.if_icmp .gt 14, 3) := by decide +kernel
theorem d_MD_put_11 : decode b_MD_put 11 = .ok (.aload_n 0, 1) := by decide +kernel
theorem d_MD_put_12 : decode b_MD_put 12 = .ok (.getfield 42, 3) := by decide +kernel
theorem d_MD_put_15 : decode b_MD_put 15 = .ok (.iload_n 2, 1) := by decide +kernel
theorem d_MD_put_16 : decode b_MD_put 16 = .ok (.iadd, 1) := by decide +kernel
theorem d_MD_put_17 : decode b_MD_put 17 = .ok (.bipush 24, 2) := by decide +kernel
theorem d_MD_put_19 : decode b_MD_put 19 = .ok (.if_icmp .le 7, 3) := by decide +kernel
theorem d_MD_put_22 : decode b_MD_put 22 = .ok (.iconst 1, 1) := by decide +kernel
theorem d_MD_put_23 : decode b_MD_put 23 = .ok (.goto 4, 3) := by decide +kernel
theorem d_MD_put_26 : decode b_MD_put 26 = .ok (.iconst 0, 1) := by decide +kernel
theorem d_MD_put_27 : decode b_MD_put 27 = .ok (.putfield 7, 3) := by decide +kernel
theorem d_MD_put_30 : decode b_MD_put 30 = .ok (.aload_n 0, 1) := by decide +kernel
theorem d_MD_put_31 : decode b_MD_put 31 = .ok (.getfield 7, 3) := by decide +kernel
theorem d_MD_put_34 : decode b_MD_put 34 = .ok (.ifCond .eq 5, 3) := by decide +kernel
theorem d_MD_put_37 : decode b_MD_put 37 = .ok (.iconst 0, 1) := by decide +kernel
theorem d_MD_put_38 : decode b_MD_put 38 = .ok (.ireturn, 1) := by decide +kernel
theorem d_MD_put_39 : decode b_MD_put 39 = .ok (.iload_n 2, 1) := by decide +kernel
theorem d_MD_put_40 : decode b_MD_put 40 = .ok (.iconst 1, 1) := by decide +kernel
theorem d_MD_put_41 : decode b_MD_put 41 = .ok (.isub, 1) := by decide +kernel
theorem d_MD_put_42 : decode b_MD_put 42 = .ok (.istore_n 3, 1) := by decide +kernel
theorem d_MD_put_43 : decode b_MD_put 43 = .ok (.iload_n 3, 1) := by decide +kernel
theorem d_MD_put_44 : decode b_MD_put 44 = .ok (.ifCond .lt 38, 3) := by decide +kernel
theorem d_MD_put_47 : decode b_MD_put 47 = .ok (.aload_n 0, 1) := by decide +kernel
theorem d_MD_put_48 : decode b_MD_put 48 = .ok (.getfield 38, 3) := by decide +kernel
theorem d_MD_put_51 : decode b_MD_put 51 = .ok (.aload_n 0, 1) := by decide +kernel
theorem d_MD_put_52 : decode b_MD_put 52 = .ok (.getfield 42, 3) := by decide +kernel
theorem d_MD_put_55 : decode b_MD_put 55 = .ok (.iload_n 1, 1) := by decide +kernel
theorem d_MD_put_56 : decode b_MD_put 56 = .ok (.bipush 8, 2) := by decide +kernel
theorem d_MD_put_58 : decode b_MD_put 58 = .ok (.iload_n 3, 1) := by decide +kernel
theorem d_MD_put_59 : decode b_MD_put 59 = .ok (.imul, 1) := by decide +kernel
theorem d_MD_put_60 : decode b_MD_put 60 = .ok (.ishr, 1) := by decide +kernel
theorem d_MD_put_61 : decode b_MD_put 61 = .ok (.sipush 255, 3) := by decide +kernel
theorem d_MD_put_64 : decode b_MD_put 64 = .ok (.iand, 1) := by decide +kernel
theorem d_MD_put_65 : decode b_MD_put 65 = .ok (.iastore, 1) := by decide +kernel
theorem d_MD_put_66 : decode b_MD_put 66 = .ok (.aload_n 0, 1) := by decide +kernel
theorem d_MD_put_67 : decode b_MD_put 67 = .ok (.dup, 1) := by decide +kernel
theorem d_MD_put_68 : decode b_MD_put 68 = .ok (.getfield 42, 3) := by decide +kernel
theorem d_MD_put_71 : decode b_MD_put 71 = .ok (.iconst 1, 1) := by decide +kernel
theorem d_MD_put_72 : decode b_MD_put 72 = .ok (.iadd, 1) := by decide +kernel
theorem d_MD_put_73 : decode b_MD_put 73 = .ok (.putfield 42, 3) := by decide +kernel
theorem d_MD_put_76 : decode b_MD_put 76 = .ok (.iinc 3 (-1), 3) := by decide +kernel
theorem d_MD_put_79 : decode b_MD_put 79 = .ok (.goto (-36), 3) := by decide +kernel
theorem d_MD_put_82 : decode b_MD_put 82 = .ok (.aload_n 0, 1) := by decide +kernel
theorem d_MD_put_83 : decode b_MD_put 83 = .ok (.getfield 42, 3) := by decide +kernel
theorem d_MD_put_86 : decode b_MD_put 86 = .ok (.ireturn, 1) := by decide +kernel
theorem d_MD_motion_0 : decode b_MD_motion 0 = .ok (.aload_n 0, 1) := by decide +kernel
theorem d_MD_motion_1 : decode b_MD_motion 1 = .ok (.aload_n 0, 1) := by decide +kernel
theorem d_MD_motion_2 : decode b_MD_motion 2 = .ok (.getfield 13, 3) := by decide +kernel
theorem d_MD_motion_5 : decode b_MD_motion 5 = .ok (.lconst 0, 1) := by decide +kernel
theorem d_MD_motion_6 : decode b_MD_motion 6 = .ok (.lcmp, 1) := by decide +kernel
theorem d_MD_motion_7 : decode b_MD_motion 7 = .ok (.ifCond .eq 19, 3) := by decide +kernel
theorem d_MD_motion_10 : decode b_MD_motion 10 = .ok (.aload_n 0, 1) := by decide +kernel
theorem d_MD_motion_11 : decode b_MD_motion 11 = .ok (.getfield 42, 3) := by decide +kernel
theorem d_MD_motion_14 : decode b_MD_motion 14 = .ok (.ifCond .eq 12, 3) := by decide +kernel
theorem d_MD_motion_17 : decode b_MD_motion 17 = .ok (.aload_n 0, 1) := by decide +kernel
theorem d_MD_motion_18 : decode b_MD_motion 18 = .ok (.getfield 45, 3) := by decide +kernel
theorem d_MD_motion_21 : decode b_MD_motion 21 = .ok (.bipush 12, 2) := by decide +kernel
theorem d_MD_motion_23 : decode b_MD_motion 23 = .ok (.if_icmp .ne 7, 3) := by decide +kernel
theorem d_MD_motion_26 : decode b_MD_motion 26 = .ok (.iconst 1, 1) := by decide +kernel
theorem d_MD_motion_27 : decode b_MD_motion 27 = .ok (.goto 4, 3) := by decide +kernel
theorem d_MD_motion_30 : decode b_MD_motion 30 = .ok (.iconst 0, 1) := by decide +kernel
theorem d_MD_motion_31 : decode b_MD_motion 31 = .ok (.putfield 7, 3) := by decide +kernel
theorem d_MD_motion_34 : decode b_MD_motion 34 = .ok (.aload_n 0, 1) := by decide +kernel
theorem d_MD_motion_35 : decode b_MD_motion 35 = .ok (.getfield 7, 3) := by decide +kernel
theorem d_MD_motion_38 : decode b_MD_motion 38 = .ok (.ifCond .eq 5, 3) := by decide +kernel
theorem d_MD_motion_41 : decode b_MD_motion 41 = .ok (.iconst 0, 1) := by decide +kernel
theorem d_MD_motion_42 : decode b_MD_motion 42 = .ok (.ireturn, 1) := by decide +kernel
theorem d_MD_motion_43 : decode b_MD_motion 43 = .ok (.aload_n 0, 1) := by decide +kernel
theorem d_MD_motion_44 : decode b_MD_motion 44 = .ok (.getfield 51, 3) := by decide +kernel
theorem d_MD_motion_47 : decode b_MD_motion 47 = .ok (.aload_n 0, 1) := by decide +kernel
theorem d_MD_motion_48 : decode b_MD_motion 48 = .ok (.getfield 45, 3) := by decide +kernel
theorem d_MD_motion_51 : decode b_MD_motion 51 = .ok (.aload_n 0, 1) := by decide +kernel
theorem d_MD_motion_52 : decode b_MD_motion 52 = .ok (.invokevirtual 139, 3) := by decide +kernel
theorem d_MD_motion_55 : decode b_MD_motion 55 = .ok (.lastore, 1) := by decide +kernel
theorem d_MD_motion_56 : decode b_MD_motion 56 = .ok (.aload_n 0, 1) := by decide +kernel
theorem d_MD_motion_57 : decode b_MD_motion 57 = .ok (.iconst 0, 1) := by decide +kernel
theorem d_MD_motion_58 : decode b_MD_motion 58 = .ok (.putfield 42, 3) := by decide +kernel
theorem d_MD_motion_61 : decode b_MD_motion 61 = .ok (.aload_n 0, 1) := by decide +kernel
theorem d_MD_motion_62 : decode b_MD_motion 62 = .ok (.getfield 48, 3) := by decide +kernel
theorem d_MD_motion_65 : decode b_MD_motion 65 = .ok (.aload_n 0, 1) := by decide +kernel
theorem d_MD_motion_66 : decode b_MD_motion 66 = .ok (.getfield 45, 3) := by decide +kernel
theorem d_MD_motion_69 : decode b_MD_motion 69 = .ok (.iconst 0, 1) := by decide +kernel
theorem d_MD_motion_70 : decode b_MD_motion 70 = .ok (.iastore, 1) := by decide +kernel
theorem d_MD_motion_71 : decode b_MD_motion 71 = .ok (.aload_n 0, 1) := by decide +kernel
theorem d_MD_motion_72 : decode b_MD_motion 72 = .ok (.getfield 55, 3) := by decide +kernel
theorem d_MD_motion_75 : decode b_MD_motion 75 = .ok (.aload_n 0, 1) := by decide +kernel
theorem d_MD_motion_76 : decode b_MD_motion 76 = .ok (.getfield 45, 3) := by decide +kernel
theorem d_MD_motion_79 : decode b_MD_motion 79 = .ok (.iconst 0, 1) := by decide +kernel
theorem d_MD_motion_80 : decode b_MD_motion 80 = .ok (.iastore, 1) := by decide +kernel
theorem d_MD_motion_81 : decode b_MD_motion 81 = .ok (.aload_n 0, 1) := by decide +kernel
theorem d_MD_motion_82 : decode b_MD_motion 82 = .ok (.getfield 58, 3) := by decide +kernel
theorem d_MD_motion_85 : decode b_MD_motion 85 = .ok (.aload_n 0, 1) := by decide +kernel
theorem d_MD_motion_86 : decode b_MD_motion 86 = .ok (.getfield 45, 3) := by decide +kernel
theorem d_MD_motion_89 : decode b_MD_motion 89 = .ok (.iconst 0, 1) := by decide +kernel
theorem d_MD_motion_90 : decode b_MD_motion 90 = .ok (.iastore, 1) := by decide +kernel
theorem d_MD_motion_91 : decode b_MD_motion 91 = .ok (.aload_n 0, 1) := by decide +kernel
theorem d_MD_motion_92 : decode b_MD_motion 92 = .ok (.getfield 61, 3) := by decide +kernel
theorem d_MD_motion_95 : decode b_MD_motion 95 = .ok (.aload_n 0, 1) := by decide +kernel
theorem d_MD_motion_96 : decode b_MD_motion 96 = .ok (.getfield 45, 3) := by decide +kernel
theorem d_MD_motion_99 : decode b_MD_motion 99 = .ok (.lconst 0, 1) := by decide +kernel
theorem d_MD_motion_100 : decode b_MD_motion 100 = .ok (.lastore, 1) := by decide +kernel
theorem d_MD_motion_101 : decode b_MD_motion 101 = .ok (.aload_n 0, 1) := by decide +kernel
theorem d_MD_motion_102 : decode b_MD_motion 102 = .ok (.dup, 1) := by decide +kernel
theorem d_MD_motion_103 : decode b_MD_motion 103 = .ok (.getfield 45, 3) := by decide +kernel
theorem d_MD_motion_106 : decode b_MD_motion 106 = .ok (.iconst 1, 1) := by decide +kernel
theorem d_MD_motion_107 : decode b_MD_motion 107 = .ok (.iadd, 1) := by decide +kernel
theorem d_MD_motion_108 : decode b_MD_motion 108 = .ok (.putfield 45, 3) := by decide +kernel
theorem d_MD_motion_111 : decode b_MD_motion 111 = .ok (.aload_n 0, 1) := by decide +kernel
theorem d_MD_motion_112 : decode b_MD_motion 112 = .ok (.getfield 45, 3) := by decide +kernel
theorem d_MD_motion_115 : decode b_MD_motion 115 = .ok (.iconst 1, 1) := by decide +kernel
theorem d_MD_motion_116 : decode b_MD_motion 116 = .ok (.isub, 1) := by decide +kernel
theorem d_MD_motion_117 : decode b_MD_motion 117 = .ok (.ireturn, 1) := by decide +kernel
theorem d_MD_voice_0 : decode b_MD_voice 0 = .ok (.aload_n 0, 1) := by decide +kernel
theorem d_MD_voice_1 : decode b_MD_voice 1 = .ok (.getfield 55, 3) := by decide +kernel
theorem d_MD_voice_4 : decode b_MD_voice 4 = .ok (.iload_n 1, 1) := by decide +kernel
theorem d_MD_voice_5 : decode b_MD_voice 5 = .ok (.iaload, 1) := by decide +kernel
theorem d_MD_voice_6 : decode b_MD_voice 6 = .ok (.aload_n 0, 1) := by decide +kernel
theorem d_MD_voice_7 : decode b_MD_voice 7 = .ok (.getfield 58, 3) := by decide +kernel
theorem d_MD_voice_10 : decode b_MD_voice 10 = .ok (.iload_n 1, 1) := by decide +kernel
theorem d_MD_voice_11 : decode b_MD_voice 11 = .ok (.iaload, 1) := by decide +kernel
theorem d_MD_voice_12 : decode b_MD_voice 12 = .ok (.ior, 1) := by decide +kernel
theorem d_MD_voice_13 : decode b_MD_voice 13 = .ok (.iload_n 2, 1) := by decide +kernel
theorem d_MD_voice_14 : decode b_MD_voice 14 = .ok (.ishr, 1) := by decide +kernel
theorem d_MD_voice_15 : decode b_MD_voice 15 = .ok (.iconst 1, 1) := by decide +kernel
theorem d_MD_voice_16 : decode b_MD_voice 16 = .ok (.iand, 1) := by decide +kernel
theorem d_MD_voice_17 : decode b_MD_voice 17 = .ok (.iconst 1, 1) := by decide +kernel
theorem d_MD_voice_18 : decode b_MD_voice 18 = .ok (.if_icmp .ne 7, 3) := by decide +kernel
theorem d_MD_voice_21 : decode b_MD_voice 21 = .ok (.iconst 1, 1) := by decide +kernel
theorem d_MD_voice_22 : decode b_MD_voice 22 = .ok (.goto 4, 3) := by decide +kernel
theorem d_MD_voice_25 : decode b_MD_voice 25 = .ok (.iconst 0, 1) := by decide +kernel
theorem d_MD_voice_26 : decode b_MD_voice 26 = .ok (.ireturn, 1) := by decide +kernel
theorem d_MD_consent_0 : decode b_MD_consent 0 = .ok (.aload_n 0, 1) := by decide +kernel
theorem d_MD_consent_1 : decode b_MD_consent 1 = .ok (.aload_n 0, 1) := by decide +kernel
theorem d_MD_consent_2 : decode b_MD_consent 2 = .ok (.iload_n 1, 1) := by decide +kernel
theorem d_MD_consent_3 : decode b_MD_consent 3 = .ok (.invokevirtual 142, 3) := by decide +kernel
theorem d_MD_consent_6 : decode b_MD_consent 6 = .ok (.ifCond .eq 10, 3) := by decide +kernel
theorem d_MD_consent_9 : decode b_MD_consent 9 = .ok (.iload_n 2, 1) := by decide +kernel
theorem d_MD_consent_10 : decode b_MD_consent 10 = .ok (.invokestatic 145, 3) := by decide +kernel
theorem d_MD_consent_13 : decode b_MD_consent 13 = .ok (.ifCond .ne 7, 3) := by decide +kernel
theorem d_MD_consent_16 : decode b_MD_consent 16 = .ok (.iconst 1, 1) := by decide +kernel
theorem d_MD_consent_17 : decode b_MD_consent 17 = .ok (.goto 38, 3) := by decide +kernel
theorem d_MD_consent_20 : decode b_MD_consent 20 = .ok (.aload_n 0, 1) := by decide +kernel
theorem d_MD_consent_21 : decode b_MD_consent 21 = .ok (.getfield 48, 3) := by decide +kernel
theorem d_MD_consent_24 : decode b_MD_consent 24 = .ok (.iload_n 1, 1) := by decide +kernel
theorem d_MD_consent_25 : decode b_MD_consent 25 = .ok (.iaload, 1) := by decide +kernel
theorem d_MD_consent_26 : decode b_MD_consent 26 = .ok (.ifCond .ne 24, 3) := by decide +kernel
theorem d_MD_consent_29 : decode b_MD_consent 29 = .ok (.aload_n 0, 1) := by decide +kernel
theorem d_MD_consent_30 : decode b_MD_consent 30 = .ok (.getfield 35, 3) := by decide +kernel
theorem d_MD_consent_33 : decode b_MD_consent 33 = .ok (.iload_n 2, 1) := by decide +kernel
theorem d_MD_consent_34 : decode b_MD_consent 34 = .ok (.ishr, 1) := by decide +kernel
theorem d_MD_consent_35 : decode b_MD_consent 35 = .ok (.iconst 1, 1) := by decide +kernel
theorem d_MD_consent_36 : decode b_MD_consent 36 = .ok (.iand, 1) := by decide +kernel
theorem d_MD_consent_37 : decode b_MD_consent 37 = .ok (.iconst 1, 1) := by decide +kernel
theorem d_MD_consent_38 : decode b_MD_consent 38 = .ok (.if_icmp .eq 12, 3) := by decide +kernel
theorem d_MD_consent_41 : decode b_MD_consent 41 = .ok (.aload_n 0, 1) := by decide +kernel
theorem d_MD_consent_42 : decode b_MD_consent 42 = .ok (.iload_n 1, 1) := by decide +kernel
theorem d_MD_consent_43 : decode b_MD_consent 43 = .ok (.iload_n 2, 1) := by decide +kernel
theorem d_MD_consent_44 : decode b_MD_consent 44 = .ok (.invokevirtual 148, 3) := by decide +kernel
theorem d_MD_consent_47 : decode b_MD_consent 47 = .ok (.ifCond .eq 7, 3) := by decide +kernel
theorem d_MD_consent_50 : decode b_MD_consent 50 = .ok (.iconst 2, 1) := by decide +kernel
theorem d_MD_consent_51 : decode b_MD_consent 51 = .ok (.goto 4, 3) := by decide +kernel
theorem d_MD_consent_54 : decode b_MD_consent 54 = .ok (.iconst 0, 1) := by decide +kernel
theorem d_MD_consent_55 : decode b_MD_consent 55 = .ok (.putfield 7, 3) := by decide +kernel
theorem d_MD_consent_58 : decode b_MD_consent 58 = .ok (.aload_n 0, 1) := by decide +kernel
theorem d_MD_consent_59 : decode b_MD_consent 59 = .ok (.getfield 7, 3) := by decide +kernel
theorem d_MD_consent_62 : decode b_MD_consent 62 = .ok (.ifCond .eq 4, 3) := by decide +kernel
theorem d_MD_consent_65 : decode b_MD_consent 65 = .ok (.return_, 1) := by decide +kernel
theorem d_MD_consent_66 : decode b_MD_consent 66 = .ok (.aload_n 0, 1) := by decide +kernel
theorem d_MD_consent_67 : decode b_MD_consent 67 = .ok (.iload_n 1, 1) := by decide +kernel
theorem d_MD_consent_68 : decode b_MD_consent 68 = .ok (.iload_n 2, 1) := by decide +kernel
theorem d_MD_consent_69 : decode b_MD_consent 69 = .ok (.invokevirtual 152, 3) := by decide +kernel
theorem d_MD_consent_72 : decode b_MD_consent 72 = .ok (.aload_n 0, 1) := by decide +kernel
theorem d_MD_consent_73 : decode b_MD_consent 73 = .ok (.getfield 55, 3) := by decide +kernel
theorem d_MD_consent_76 : decode b_MD_consent 76 = .ok (.iload_n 1, 1) := by decide +kernel
theorem d_MD_consent_77 : decode b_MD_consent 77 = .ok (.aload_n 0, 1) := by decide +kernel
theorem d_MD_consent_78 : decode b_MD_consent 78 = .ok (.getfield 55, 3) := by decide +kernel
theorem d_MD_consent_81 : decode b_MD_consent 81 = .ok (.iload_n 1, 1) := by decide +kernel
theorem d_MD_consent_82 : decode b_MD_consent 82 = .ok (.iaload, 1) := by decide +kernel
theorem d_MD_consent_83 : decode b_MD_consent 83 = .ok (.iconst 1, 1) := by decide +kernel
theorem d_MD_consent_84 : decode b_MD_consent 84 = .ok (.iload_n 2, 1) := by decide +kernel
theorem d_MD_consent_85 : decode b_MD_consent 85 = .ok (.ishl, 1) := by decide +kernel
theorem d_MD_consent_86 : decode b_MD_consent 86 = .ok (.ior, 1) := by decide +kernel
theorem d_MD_consent_87 : decode b_MD_consent 87 = .ok (.iastore, 1) := by decide +kernel
theorem d_MD_consent_88 : decode b_MD_consent 88 = .ok (.return_, 1) := by decide +kernel
theorem d_MD_object_0 : decode b_MD_object 0 = .ok (.aload_n 0, 1) := by decide +kernel
theorem d_MD_object_1 : decode b_MD_object 1 = .ok (.aload_n 0, 1) := by decide +kernel
theorem d_MD_object_2 : decode b_MD_object 2 = .ok (.iload_n 1, 1) := by decide +kernel
theorem d_MD_object_3 : decode b_MD_object 3 = .ok (.invokevirtual 142, 3) := by decide +kernel
theorem d_MD_object_6 : decode b_MD_object 6 = .ok (.ifCond .eq 10, 3) := by decide +kernel
theorem d_MD_object_9 : decode b_MD_object 9 = .ok (.iload_n 2, 1) := by decide +kernel
theorem d_MD_object_10 : decode b_MD_object 10 = .ok (.invokestatic 145, 3) := by decide +kernel
theorem d_MD_object_13 : decode b_MD_object 13 = .ok (.ifCond .ne 7, 3) := by decide +kernel
theorem d_MD_object_16 : decode b_MD_object 16 = .ok (.iconst 1, 1) := by decide +kernel
theorem d_MD_object_17 : decode b_MD_object 17 = .ok (.goto 26, 3) := by decide +kernel
theorem d_MD_object_20 : decode b_MD_object 20 = .ok (.aload_n 0, 1) := by decide +kernel
theorem d_MD_object_21 : decode b_MD_object 21 = .ok (.getfield 48, 3) := by decide +kernel
theorem d_MD_object_24 : decode b_MD_object 24 = .ok (.iload_n 1, 1) := by decide +kernel
theorem d_MD_object_25 : decode b_MD_object 25 = .ok (.iaload, 1) := by decide +kernel
theorem d_MD_object_26 : decode b_MD_object 26 = .ok (.ifCond .ne 12, 3) := by decide +kernel
theorem d_MD_object_29 : decode b_MD_object 29 = .ok (.aload_n 0, 1) := by decide +kernel
theorem d_MD_object_30 : decode b_MD_object 30 = .ok (.iload_n 1, 1) := by decide +kernel
theorem d_MD_object_31 : decode b_MD_object 31 = .ok (.iload_n 2, 1) := by decide +kernel
theorem d_MD_object_32 : decode b_MD_object 32 = .ok (.invokevirtual 148, 3) := by decide +kernel
theorem d_MD_object_35 : decode b_MD_object 35 = .ok (.ifCond .eq 7, 3) := by decide +kernel
theorem d_MD_object_38 : decode b_MD_object 38 = .ok (.iconst 2, 1) := by decide +kernel
theorem d_MD_object_39 : decode b_MD_object 39 = .ok (.goto 4, 3) := by decide +kernel
theorem d_MD_object_42 : decode b_MD_object 42 = .ok (.iconst 0, 1) := by decide +kernel
theorem d_MD_object_43 : decode b_MD_object 43 = .ok (.putfield 7, 3) := by decide +kernel
theorem d_MD_object_46 : decode b_MD_object 46 = .ok (.aload_n 0, 1) := by decide +kernel
theorem d_MD_object_47 : decode b_MD_object 47 = .ok (.getfield 7, 3) := by decide +kernel
theorem d_MD_object_50 : decode b_MD_object 50 = .ok (.ifCond .eq 4, 3) := by decide +kernel
theorem d_MD_object_53 : decode b_MD_object 53 = .ok (.return_, 1) := by decide +kernel
theorem d_MD_object_54 : decode b_MD_object 54 = .ok (.aload_n 0, 1) := by decide +kernel
theorem d_MD_object_55 : decode b_MD_object 55 = .ok (.getfield 58, 3) := by decide +kernel
theorem d_MD_object_58 : decode b_MD_object 58 = .ok (.iload_n 1, 1) := by decide +kernel
theorem d_MD_object_59 : decode b_MD_object 59 = .ok (.aload_n 0, 1) := by decide +kernel
theorem d_MD_object_60 : decode b_MD_object 60 = .ok (.getfield 58, 3) := by decide +kernel
theorem d_MD_object_63 : decode b_MD_object 63 = .ok (.iload_n 1, 1) := by decide +kernel
theorem d_MD_object_64 : decode b_MD_object 64 = .ok (.iaload, 1) := by decide +kernel
theorem d_MD_object_65 : decode b_MD_object 65 = .ok (.iconst 1, 1) := by decide +kernel
theorem d_MD_object_66 : decode b_MD_object 66 = .ok (.iload_n 2, 1) := by decide +kernel
theorem d_MD_object_67 : decode b_MD_object 67 = .ok (.ishl, 1) := by decide +kernel
theorem d_MD_object_68 : decode b_MD_object 68 = .ok (.ior, 1) := by decide +kernel
theorem d_MD_object_69 : decode b_MD_object 69 = .ok (.iastore, 1) := by decide +kernel
theorem d_MD_object_70 : decode b_MD_object 70 = .ok (.aload_n 0, 1) := by decide +kernel
theorem d_MD_object_71 : decode b_MD_object 71 = .ok (.getfield 58, 3) := by decide +kernel
theorem d_MD_object_74 : decode b_MD_object 74 = .ok (.iload_n 1, 1) := by decide +kernel
theorem d_MD_object_75 : decode b_MD_object 75 = .ok (.iaload, 1) := by decide +kernel
theorem d_MD_object_76 : decode b_MD_object 76 = .ok (.invokestatic 156, 3) := by decide +kernel
theorem d_MD_object_79 : decode b_MD_object 79 = .ok (.iconst 3, 1) := by decide +kernel
theorem d_MD_object_80 : decode b_MD_object 80 = .ok (.if_icmp .ne 10, 3) := by decide +kernel
theorem d_MD_object_83 : decode b_MD_object 83 = .ok (.aload_n 0, 1) := by decide +kernel
theorem d_MD_object_84 : decode b_MD_object 84 = .ok (.getfield 48, 3) := by decide +kernel
theorem d_MD_object_87 : decode b_MD_object 87 = .ok (.iload_n 1, 1) := by decide +kernel
theorem d_MD_object_88 : decode b_MD_object 88 = .ok (.iconst 2, 1) := by decide +kernel
theorem d_MD_object_89 : decode b_MD_object 89 = .ok (.iastore, 1) := by decide +kernel
theorem d_MD_object_90 : decode b_MD_object 90 = .ok (.return_, 1) := by decide +kernel
theorem d_MD_file_0 : decode b_MD_file 0 = .ok (.aload_n 0, 1) := by decide +kernel
theorem d_MD_file_1 : decode b_MD_file 1 = .ok (.aload_n 0, 1) := by decide +kernel
theorem d_MD_file_2 : decode b_MD_file 2 = .ok (.iload_n 1, 1) := by decide +kernel
theorem d_MD_file_3 : decode b_MD_file 3 = .ok (.invokevirtual 142, 3) := by decide +kernel
theorem d_MD_file_6 : decode b_MD_file 6 = .ok (.ifCond .eq 10, 3) := by decide +kernel
theorem d_MD_file_9 : decode b_MD_file 9 = .ok (.iload_n 2, 1) := by decide +kernel
theorem d_MD_file_10 : decode b_MD_file 10 = .ok (.invokestatic 145, 3) := by decide +kernel
theorem d_MD_file_13 : decode b_MD_file 13 = .ok (.ifCond .ne 7, 3) := by decide +kernel
theorem d_MD_file_16 : decode b_MD_file 16 = .ok (.iconst 1, 1) := by decide +kernel
theorem d_MD_file_17 : decode b_MD_file 17 = .ok (.goto 31, 3) := by decide +kernel
theorem d_MD_file_20 : decode b_MD_file 20 = .ok (.aload_n 0, 1) := by decide +kernel
theorem d_MD_file_21 : decode b_MD_file 21 = .ok (.getfield 48, 3) := by decide +kernel
theorem d_MD_file_24 : decode b_MD_file 24 = .ok (.iload_n 1, 1) := by decide +kernel
theorem d_MD_file_25 : decode b_MD_file 25 = .ok (.iaload, 1) := by decide +kernel
theorem d_MD_file_26 : decode b_MD_file 26 = .ok (.ifCond .ne 17, 3) := by decide +kernel
theorem d_MD_file_29 : decode b_MD_file 29 = .ok (.aload_n 0, 1) := by decide +kernel
theorem d_MD_file_30 : decode b_MD_file 30 = .ok (.getfield 58, 3) := by decide +kernel
theorem d_MD_file_33 : decode b_MD_file 33 = .ok (.iload_n 1, 1) := by decide +kernel
theorem d_MD_file_34 : decode b_MD_file 34 = .ok (.iaload, 1) := by decide +kernel
theorem d_MD_file_35 : decode b_MD_file 35 = .ok (.iload_n 2, 1) := by decide +kernel
theorem d_MD_file_36 : decode b_MD_file 36 = .ok (.ishr, 1) := by decide +kernel
theorem d_MD_file_37 : decode b_MD_file 37 = .ok (.iconst 1, 1) := by decide +kernel
theorem d_MD_file_38 : decode b_MD_file 38 = .ok (.iand, 1) := by decide +kernel
theorem d_MD_file_39 : decode b_MD_file 39 = .ok (.iconst 1, 1) := by decide +kernel
theorem d_MD_file_40 : decode b_MD_file 40 = .ok (.if_icmp .ne 7, 3) := by decide +kernel
theorem d_MD_file_43 : decode b_MD_file 43 = .ok (.iconst 2, 1) := by decide +kernel
theorem d_MD_file_44 : decode b_MD_file 44 = .ok (.goto 4, 3) := by decide +kernel
theorem d_MD_file_47 : decode b_MD_file 47 = .ok (.iconst 0, 1) := by decide +kernel
theorem d_MD_file_48 : decode b_MD_file 48 = .ok (.putfield 7, 3) := by decide +kernel
theorem d_MD_file_51 : decode b_MD_file 51 = .ok (.aload_n 0, 1) := by decide +kernel
theorem d_MD_file_52 : decode b_MD_file 52 = .ok (.getfield 7, 3) := by decide +kernel
theorem d_MD_file_55 : decode b_MD_file 55 = .ok (.ifCond .eq 4, 3) := by decide +kernel
theorem d_MD_file_58 : decode b_MD_file 58 = .ok (.return_, 1) := by decide +kernel
theorem d_MD_file_59 : decode b_MD_file 59 = .ok (.aload_n 0, 1) := by decide +kernel
theorem d_MD_file_60 : decode b_MD_file 60 = .ok (.getfield 64, 3) := by decide +kernel
theorem d_MD_file_63 : decode b_MD_file 63 = .ok (.bipush 6, 2) := by decide +kernel
theorem d_MD_file_65 : decode b_MD_file 65 = .ok (.iload_n 1, 1) := by decide +kernel
theorem d_MD_file_66 : decode b_MD_file 66 = .ok (.imul, 1) := by decide +kernel
theorem d_MD_file_67 : decode b_MD_file 67 = .ok (.iload_n 2, 1) := by decide +kernel
theorem d_MD_file_68 : decode b_MD_file 68 = .ok (.iadd, 1) := by decide +kernel
theorem d_MD_file_69 : decode b_MD_file 69 = .ok (.lload_n 3, 1) := by decide +kernel
theorem d_MD_file_70 : decode b_MD_file 70 = .ok (.lastore, 1) := by decide +kernel
theorem d_MD_file_71 : decode b_MD_file 71 = .ok (.aload_n 0, 1) := by decide +kernel
theorem d_MD_file_72 : decode b_MD_file 72 = .ok (.getfield 67, 3) := by decide +kernel
theorem d_MD_file_75 : decode b_MD_file 75 = .ok (.bipush 6, 2) := by decide +kernel
theorem d_MD_file_77 : decode b_MD_file 77 = .ok (.iload_n 1, 1) := by decide +kernel
theorem d_MD_file_78 : decode b_MD_file 78 = .ok (.imul, 1) := by decide +kernel
theorem d_MD_file_79 : decode b_MD_file 79 = .ok (.iload_n 2, 1) := by decide +kernel
theorem d_MD_file_80 : decode b_MD_file 80 = .ok (.iadd, 1) := by decide +kernel
theorem d_MD_file_81 : decode b_MD_file 81 = .ok (.iload 5, 2) := by decide +kernel
theorem d_MD_file_83 : decode b_MD_file 83 = .ok (.iastore, 1) := by decide +kernel
theorem d_MD_file_84 : decode b_MD_file 84 = .ok (.aload_n 0, 1) := by decide +kernel
theorem d_MD_file_85 : decode b_MD_file 85 = .ok (.getfield 70, 3) := by decide +kernel
theorem d_MD_file_88 : decode b_MD_file 88 = .ok (.bipush 6, 2) := by decide +kernel
theorem d_MD_file_90 : decode b_MD_file 90 = .ok (.iload_n 1, 1) := by decide +kernel
theorem d_MD_file_91 : decode b_MD_file 91 = .ok (.imul, 1) := by decide +kernel
theorem d_MD_file_92 : decode b_MD_file 92 = .ok (.iload_n 2, 1) := by decide +kernel
theorem d_MD_file_93 : decode b_MD_file 93 = .ok (.iadd, 1) := by decide +kernel
theorem d_MD_file_94 : decode b_MD_file 94 = .ok (.lload 6, 2) := by decide +kernel
theorem d_MD_file_96 : decode b_MD_file 96 = .ok (.lastore, 1) := by decide +kernel
theorem d_MD_file_97 : decode b_MD_file 97 = .ok (.aload_n 0, 1) := by decide +kernel
theorem d_MD_file_98 : decode b_MD_file 98 = .ok (.getfield 55, 3) := by decide +kernel
theorem d_MD_file_101 : decode b_MD_file 101 = .ok (.iload_n 1, 1) := by decide +kernel
theorem d_MD_file_102 : decode b_MD_file 102 = .ok (.aload_n 0, 1) := by decide +kernel
theorem d_MD_file_103 : decode b_MD_file 103 = .ok (.getfield 55, 3) := by decide +kernel
theorem d_MD_file_106 : decode b_MD_file 106 = .ok (.iload_n 1, 1) := by decide +kernel
theorem d_MD_file_107 : decode b_MD_file 107 = .ok (.iaload, 1) := by decide +kernel
theorem d_MD_file_108 : decode b_MD_file 108 = .ok (.iconst 1, 1) := by decide +kernel
theorem d_MD_file_109 : decode b_MD_file 109 = .ok (.iload_n 2, 1) := by decide +kernel
theorem d_MD_file_110 : decode b_MD_file 110 = .ok (.ishl, 1) := by decide +kernel
theorem d_MD_file_111 : decode b_MD_file 111 = .ok (.ior, 1) := by decide +kernel
theorem d_MD_file_112 : decode b_MD_file 112 = .ok (.iastore, 1) := by decide +kernel
theorem d_MD_file_113 : decode b_MD_file 113 = .ok (.return_, 1) := by decide +kernel
theorem d_MD_partial_0 : decode b_MD_partial 0 = .ok (.aload_n 0, 1) := by decide +kernel
theorem d_MD_partial_1 : decode b_MD_partial 1 = .ok (.aload_n 0, 1) := by decide +kernel
theorem d_MD_partial_2 : decode b_MD_partial 2 = .ok (.iload_n 1, 1) := by decide +kernel
theorem d_MD_partial_3 : decode b_MD_partial 3 = .ok (.invokevirtual 142, 3) := by decide +kernel
theorem d_MD_partial_6 : decode b_MD_partial 6 = .ok (.ifCond .eq 23, 3) := by decide +kernel
theorem d_MD_partial_9 : decode b_MD_partial 9 = .ok (.iload_n 2, 1) := by decide +kernel
theorem d_MD_partial_10 : decode b_MD_partial 10 = .ok (.invokestatic 145, 3) := by decide +kernel
theorem d_MD_partial_13 : decode b_MD_partial 13 = .ok (.ifCond .eq 16, 3) := by decide +kernel
theorem d_MD_partial_16 : decode b_MD_partial 16 = .ok (.aload_n 0, 1) := by decide +kernel
theorem d_MD_partial_17 : decode b_MD_partial 17 = .ok (.getfield 55, 3) := by decide +kernel
theorem d_MD_partial_20 : decode b_MD_partial 20 = .ok (.iload_n 1, 1) := by decide +kernel
theorem d_MD_partial_21 : decode b_MD_partial 21 = .ok (.iaload, 1) := by decide +kernel
theorem d_MD_partial_22 : decode b_MD_partial 22 = .ok (.iload_n 2, 1) := by decide +kernel
theorem d_MD_partial_23 : decode b_MD_partial 23 = .ok (.ishr, 1) := by decide +kernel
theorem d_MD_partial_24 : decode b_MD_partial 24 = .ok (.iconst 1, 1) := by decide +kernel
theorem d_MD_partial_25 : decode b_MD_partial 25 = .ok (.iand, 1) := by decide +kernel
theorem d_MD_partial_26 : decode b_MD_partial 26 = .ok (.ifCond .ne 7, 3) := by decide +kernel
theorem d_MD_partial_29 : decode b_MD_partial 29 = .ok (.iconst 1, 1) := by decide +kernel
theorem d_MD_partial_30 : decode b_MD_partial 30 = .ok (.goto 17, 3) := by decide +kernel
theorem d_MD_partial_33 : decode b_MD_partial 33 = .ok (.iload_n 3, 1) := by decide +kernel
theorem d_MD_partial_34 : decode b_MD_partial 34 = .ok (.ifCond .lt 8, 3) := by decide +kernel
theorem d_MD_partial_37 : decode b_MD_partial 37 = .ok (.iload_n 3, 1) := by decide +kernel
theorem d_MD_partial_38 : decode b_MD_partial 38 = .ok (.iconst 2, 1) := by decide +kernel
theorem d_MD_partial_39 : decode b_MD_partial 39 = .ok (.if_icmp .le 7, 3) := by decide +kernel
theorem d_MD_partial_42 : decode b_MD_partial 42 = .ok (.iconst 2, 1) := by decide +kernel
theorem d_MD_partial_43 : decode b_MD_partial 43 = .ok (.goto 4, 3) := by decide +kernel
theorem d_MD_partial_46 : decode b_MD_partial 46 = .ok (.iconst 0, 1) := by decide +kernel
theorem d_MD_partial_47 : decode b_MD_partial 47 = .ok (.putfield 7, 3) := by decide +kernel
theorem d_MD_partial_50 : decode b_MD_partial 50 = .ok (.aload_n 0, 1) := by decide +kernel
theorem d_MD_partial_51 : decode b_MD_partial 51 = .ok (.getfield 7, 3) := by decide +kernel
theorem d_MD_partial_54 : decode b_MD_partial 54 = .ok (.ifCond .eq 5, 3) := by decide +kernel
theorem d_MD_partial_57 : decode b_MD_partial 57 = .ok (.lconst 0, 1) := by decide +kernel
theorem d_MD_partial_58 : decode b_MD_partial 58 = .ok (.lreturn, 1) := by decide +kernel
theorem d_MD_partial_59 : decode b_MD_partial 59 = .ok (.bipush 6, 2) := by decide +kernel
theorem d_MD_partial_61 : decode b_MD_partial 61 = .ok (.iload_n 1, 1) := by decide +kernel
theorem d_MD_partial_62 : decode b_MD_partial 62 = .ok (.imul, 1) := by decide +kernel
theorem d_MD_partial_63 : decode b_MD_partial 63 = .ok (.iload_n 2, 1) := by decide +kernel
theorem d_MD_partial_64 : decode b_MD_partial 64 = .ok (.iadd, 1) := by decide +kernel
theorem d_MD_partial_65 : decode b_MD_partial 65 = .ok (.istore 4, 2) := by decide +kernel
theorem d_MD_partial_67 : decode b_MD_partial 67 = .ok (.iload_n 3, 1) := by decide +kernel
theorem d_MD_partial_68 : decode b_MD_partial 68 = .ok (.ifCond .ne 13, 3) := by decide +kernel
theorem d_MD_partial_71 : decode b_MD_partial 71 = .ok (.aload_n 0, 1) := by decide +kernel
theorem d_MD_partial_72 : decode b_MD_partial 72 = .ok (.getfield 64, 3) := by decide +kernel
theorem d_MD_partial_75 : decode b_MD_partial 75 = .ok (.iload 4, 2) := by decide +kernel
theorem d_MD_partial_77 : decode b_MD_partial 77 = .ok (.laload, 1) := by decide +kernel
theorem d_MD_partial_78 : decode b_MD_partial 78 = .ok (.goto 26, 3) := by decide +kernel
theorem d_MD_partial_81 : decode b_MD_partial 81 = .ok (.iload_n 3, 1) := by decide +kernel
theorem d_MD_partial_82 : decode b_MD_partial 82 = .ok (.iconst 1, 1) := by decide +kernel
theorem d_MD_partial_83 : decode b_MD_partial 83 = .ok (.if_icmp .ne 14, 3) := by decide +kernel
theorem d_MD_partial_86 : decode b_MD_partial 86 = .ok (.aload_n 0, 1) := by decide +kernel
theorem d_MD_partial_87 : decode b_MD_partial 87 = .ok (.getfield 67, 3) := by decide +kernel
theorem d_MD_partial_90 : decode b_MD_partial 90 = .ok (.iload 4, 2) := by decide +kernel
theorem d_MD_partial_92 : decode b_MD_partial 92 = .ok (.iaload, 1) := by decide +kernel
theorem d_MD_partial_93 : decode b_MD_partial 93 = .ok (.i2l, 1) := by decide +kernel
theorem d_MD_partial_94 : decode b_MD_partial 94 = .ok (.goto 10, 3) := by decide +kernel
theorem d_MD_partial_97 : decode b_MD_partial 97 = .ok (.aload_n 0, 1) := by decide +kernel
theorem d_MD_partial_98 : decode b_MD_partial 98 = .ok (.getfield 70, 3) := by decide +kernel
theorem d_MD_partial_101 : decode b_MD_partial 101 = .ok (.iload 4, 2) := by decide +kernel
theorem d_MD_partial_103 : decode b_MD_partial 103 = .ok (.laload, 1) := by decide +kernel
theorem d_MD_partial_104 : decode b_MD_partial 104 = .ok (.lreturn, 1) := by decide +kernel
theorem d_MD_notGood_0 : decode b_MD_notGood 0 = .ok (.iconst 0, 1) := by decide +kernel
theorem d_MD_notGood_1 : decode b_MD_notGood 1 = .ok (.istore_n 2, 1) := by decide +kernel
theorem d_MD_notGood_2 : decode b_MD_notGood 2 = .ok (.iconst 0, 1) := by decide +kernel
theorem d_MD_notGood_3 : decode b_MD_notGood 3 = .ok (.istore_n 3, 1) := by decide +kernel
theorem d_MD_notGood_4 : decode b_MD_notGood 4 = .ok (.iload_n 3, 1) := by decide +kernel
theorem d_MD_notGood_5 : decode b_MD_notGood 5 = .ok (.bipush 6, 2) := by decide +kernel
theorem d_MD_notGood_7 : decode b_MD_notGood 7 = .ok (.if_icmp .ge 38, 3) := by decide +kernel
theorem d_MD_notGood_10 : decode b_MD_notGood 10 = .ok (.aload_n 0, 1) := by decide +kernel
theorem d_MD_notGood_11 : decode b_MD_notGood 11 = .ok (.getfield 55, 3) := by decide +kernel
theorem d_MD_notGood_14 : decode b_MD_notGood 14 = .ok (.iload_n 1, 1) := by decide +kernel
theorem d_MD_notGood_15 : decode b_MD_notGood 15 = .ok (.iaload, 1) := by decide +kernel
theorem d_MD_notGood_16 : decode b_MD_notGood 16 = .ok (.iload_n 3, 1) := by decide +kernel
theorem d_MD_notGood_17 : decode b_MD_notGood 17 = .ok (.ishr, 1) := by decide +kernel
theorem d_MD_notGood_18 : decode b_MD_notGood 18 = .ok (.iconst 1, 1) := by decide +kernel
theorem d_MD_notGood_19 : decode b_MD_notGood 19 = .ok (.iand, 1) := by decide +kernel
theorem d_MD_notGood_20 : decode b_MD_notGood 20 = .ok (.iconst 1, 1) := by decide +kernel
theorem d_MD_notGood_21 : decode b_MD_notGood 21 = .ok (.if_icmp .ne 18, 3) := by decide +kernel
theorem d_MD_notGood_24 : decode b_MD_notGood 24 = .ok (.aload_n 0, 1) := by decide +kernel
theorem d_MD_notGood_25 : decode b_MD_notGood 25 = .ok (.iload_n 1, 1) := by decide +kernel
theorem d_MD_notGood_26 : decode b_MD_notGood 26 = .ok (.iload_n 3, 1) := by decide +kernel
theorem d_MD_notGood_27 : decode b_MD_notGood 27 = .ok (.invokevirtual 160, 3) := by decide +kernel
theorem d_MD_notGood_30 : decode b_MD_notGood 30 = .ok (.ifCond .ne 9, 3) := by decide +kernel
theorem d_MD_notGood_33 : decode b_MD_notGood 33 = .ok (.iload_n 2, 1) := by decide +kernel
theorem d_MD_notGood_34 : decode b_MD_notGood 34 = .ok (.iconst 1, 1) := by decide +kernel
theorem d_MD_notGood_35 : decode b_MD_notGood 35 = .ok (.iload_n 3, 1) := by decide +kernel
theorem d_MD_notGood_36 : decode b_MD_notGood 36 = .ok (.ishl, 1) := by decide +kernel
theorem d_MD_notGood_37 : decode b_MD_notGood 37 = .ok (.ior, 1) := by decide +kernel
theorem d_MD_notGood_38 : decode b_MD_notGood 38 = .ok (.istore_n 2, 1) := by decide +kernel
theorem d_MD_notGood_39 : decode b_MD_notGood 39 = .ok (.iinc 3 1, 3) := by decide +kernel
theorem d_MD_notGood_42 : decode b_MD_notGood 42 = .ok (.goto (-38), 3) := by decide +kernel
theorem d_MD_notGood_45 : decode b_MD_notGood 45 = .ok (.iload_n 2, 1) := by decide +kernel
theorem d_MD_notGood_46 : decode b_MD_notGood 46 = .ok (.ireturn, 1) := by decide +kernel
theorem d_MD_bad_0 : decode b_MD_bad 0 = .ok (.aload_n 0, 1) := by decide +kernel
theorem d_MD_bad_1 : decode b_MD_bad 1 = .ok (.aload_n 0, 1) := by decide +kernel
theorem d_MD_bad_2 : decode b_MD_bad 2 = .ok (.iload_n 1, 1) := by decide +kernel
theorem d_MD_bad_3 : decode b_MD_bad 3 = .ok (.invokevirtual 142, 3) := by decide +kernel
theorem d_MD_bad_6 : decode b_MD_bad 6 = .ok (.ifCond .eq 7, 3) := by decide +kernel
theorem d_MD_bad_9 : decode b_MD_bad 9 = .ok (.iconst 0, 1) := by decide +kernel
theorem d_MD_bad_10 : decode b_MD_bad 10 = .ok (.goto 4, 3) := by decide +kernel
theorem d_MD_bad_13 : decode b_MD_bad 13 = .ok (.iconst 1, 1) := by decide +kernel
theorem d_MD_bad_14 : decode b_MD_bad 14 = .ok (.putfield 7, 3) := by decide +kernel
theorem d_MD_bad_17 : decode b_MD_bad 17 = .ok (.aload_n 0, 1) := by decide +kernel
theorem d_MD_bad_18 : decode b_MD_bad 18 = .ok (.getfield 7, 3) := by decide +kernel
theorem d_MD_bad_21 : decode b_MD_bad 21 = .ok (.ifCond .eq 7, 3) := by decide +kernel
theorem d_MD_bad_24 : decode b_MD_bad 24 = .ok (.iconst 0, 1) := by decide +kernel
theorem d_MD_bad_25 : decode b_MD_bad 25 = .ok (.goto 8, 3) := by decide +kernel
theorem d_MD_bad_28 : decode b_MD_bad 28 = .ok (.aload_n 0, 1) := by decide +kernel
theorem d_MD_bad_29 : decode b_MD_bad 29 = .ok (.iload_n 1, 1) := by decide +kernel
theorem d_MD_bad_30 : decode b_MD_bad 30 = .ok (.invokevirtual 163, 3) := by decide +kernel
theorem d_MD_bad_33 : decode b_MD_bad 33 = .ok (.ireturn, 1) := by decide +kernel
theorem d_MD_join_0 : decode b_MD_join 0 = .ok (.aload_n 0, 1) := by decide +kernel
theorem d_MD_join_1 : decode b_MD_join 1 = .ok (.aload_n 0, 1) := by decide +kernel
theorem d_MD_join_2 : decode b_MD_join 2 = .ok (.iload_n 1, 1) := by decide +kernel
theorem d_MD_join_3 : decode b_MD_join 3 = .ok (.invokevirtual 142, 3) := by decide +kernel
theorem d_MD_join_6 : decode b_MD_join 6 = .ok (.ifCond .ne 7, 3) := by decide +kernel
theorem d_MD_join_9 : decode b_MD_join 9 = .ok (.iconst 1, 1) := by decide +kernel
theorem d_MD_join_10 : decode b_MD_join 10 = .ok (.goto 64, 3) := by decide +kernel
theorem d_MD_join_13 : decode b_MD_join 13 = .ok (.aload_n 0, 1) := by decide +kernel
theorem d_MD_join_14 : decode b_MD_join 14 = .ok (.getfield 48, 3) := by decide +kernel
theorem d_MD_join_17 : decode b_MD_join 17 = .ok (.iload_n 1, 1) := by decide +kernel
theorem d_MD_join_18 : decode b_MD_join 18 = .ok (.iaload, 1) := by decide +kernel
theorem d_MD_join_19 : decode b_MD_join 19 = .ok (.ifCond .eq 7, 3) := by decide +kernel
theorem d_MD_join_22 : decode b_MD_join 22 = .ok (.iconst 2, 1) := by decide +kernel
theorem d_MD_join_23 : decode b_MD_join 23 = .ok (.goto 51, 3) := by decide +kernel
theorem d_MD_join_26 : decode b_MD_join 26 = .ok (.aload_n 0, 1) := by decide +kernel
theorem d_MD_join_27 : decode b_MD_join 27 = .ok (.getfield 51, 3) := by decide +kernel
theorem d_MD_join_30 : decode b_MD_join 30 = .ok (.iload_n 1, 1) := by decide +kernel
theorem d_MD_join_31 : decode b_MD_join 31 = .ok (.laload, 1) := by decide +kernel
theorem d_MD_join_32 : decode b_MD_join 32 = .ok (.aload_n 0, 1) := by decide +kernel
theorem d_MD_join_33 : decode b_MD_join 33 = .ok (.getfield 13, 3) := by decide +kernel
theorem d_MD_join_36 : decode b_MD_join 36 = .ok (.invokestatic 126, 3) := by decide +kernel
theorem d_MD_join_39 : decode b_MD_join 39 = .ok (.lconst 1, 1) := by decide +kernel
theorem d_MD_join_40 : decode b_MD_join 40 = .ok (.lcmp, 1) := by decide +kernel
theorem d_MD_join_41 : decode b_MD_join 41 = .ok (.ifCond .eq 7, 3) := by decide +kernel
theorem d_MD_join_44 : decode b_MD_join 44 = .ok (.iconst 3, 1) := by decide +kernel
theorem d_MD_join_45 : decode b_MD_join 45 = .ok (.goto 29, 3) := by decide +kernel
theorem d_MD_join_48 : decode b_MD_join 48 = .ok (.aload_n 0, 1) := by decide +kernel
theorem d_MD_join_49 : decode b_MD_join 49 = .ok (.getfield 55, 3) := by decide +kernel
theorem d_MD_join_52 : decode b_MD_join 52 = .ok (.iload_n 1, 1) := by decide +kernel
theorem d_MD_join_53 : decode b_MD_join 53 = .ok (.iaload, 1) := by decide +kernel
theorem d_MD_join_54 : decode b_MD_join 54 = .ok (.aload_n 0, 1) := by decide +kernel
theorem d_MD_join_55 : decode b_MD_join 55 = .ok (.iload_n 1, 1) := by decide +kernel
theorem d_MD_join_56 : decode b_MD_join 56 = .ok (.invokevirtual 163, 3) := by decide +kernel
theorem d_MD_join_59 : decode b_MD_join 59 = .ok (.iconst (-1), 1) := by decide +kernel
theorem d_MD_join_60 : decode b_MD_join 60 = .ok (.ixor, 1) := by decide +kernel
theorem d_MD_join_61 : decode b_MD_join 61 = .ok (.iand, 1) := by decide +kernel
theorem d_MD_join_62 : decode b_MD_join 62 = .ok (.invokestatic 156, 3) := by decide +kernel
theorem d_MD_join_65 : decode b_MD_join 65 = .ok (.iconst 3, 1) := by decide +kernel
theorem d_MD_join_66 : decode b_MD_join 66 = .ok (.if_icmp .ge 7, 3) := by decide +kernel
theorem d_MD_join_69 : decode b_MD_join 69 = .ok (.iconst 2, 1) := by decide +kernel
theorem d_MD_join_70 : decode b_MD_join 70 = .ok (.goto 4, 3) := by decide +kernel
theorem d_MD_join_73 : decode b_MD_join 73 = .ok (.iconst 0, 1) := by decide +kernel
theorem d_MD_join_74 : decode b_MD_join 74 = .ok (.putfield 7, 3) := by decide +kernel
theorem d_MD_join_77 : decode b_MD_join 77 = .ok (.aload_n 0, 1) := by decide +kernel
theorem d_MD_join_78 : decode b_MD_join 78 = .ok (.getfield 7, 3) := by decide +kernel
theorem d_MD_join_81 : decode b_MD_join 81 = .ok (.ifCond .eq 5, 3) := by decide +kernel
theorem d_MD_join_84 : decode b_MD_join 84 = .ok (.lconst 0, 1) := by decide +kernel
theorem d_MD_join_85 : decode b_MD_join 85 = .ok (.lreturn, 1) := by decide +kernel
theorem d_MD_join_86 : decode b_MD_join 86 = .ok (.aload_n 0, 1) := by decide +kernel
theorem d_MD_join_87 : decode b_MD_join 87 = .ok (.getfield 61, 3) := by decide +kernel
theorem d_MD_join_90 : decode b_MD_join 90 = .ok (.iload_n 1, 1) := by decide +kernel
theorem d_MD_join_91 : decode b_MD_join 91 = .ok (.aload_n 0, 1) := by decide +kernel
theorem d_MD_join_92 : decode b_MD_join 92 = .ok (.getfield 51, 3) := by decide +kernel
theorem d_MD_join_95 : decode b_MD_join 95 = .ok (.iload_n 1, 1) := by decide +kernel
theorem d_MD_join_96 : decode b_MD_join 96 = .ok (.laload, 1) := by decide +kernel
theorem d_MD_join_97 : decode b_MD_join 97 = .ok (.ldc2_w 137, 3) := by decide +kernel
theorem d_MD_join_100 : decode b_MD_join 100 = .ok (.ldc2_w 107, 3) := by decide +kernel
theorem d_MD_join_103 : decode b_MD_join 103 = .ok (.aload_n 0, 1) := by decide +kernel
theorem d_MD_join_104 : decode b_MD_join 104 = .ok (.getfield 17, 3) := by decide +kernel
theorem d_MD_join_107 : decode b_MD_join 107 = .ok (.lmul, 1) := by decide +kernel
theorem d_MD_join_108 : decode b_MD_join 108 = .ok (.invokestatic 131, 3) := by decide +kernel
theorem d_MD_join_111 : decode b_MD_join 111 = .ok (.aload_n 0, 1) := by decide +kernel
theorem d_MD_join_112 : decode b_MD_join 112 = .ok (.getfield 13, 3) := by decide +kernel
theorem d_MD_join_115 : decode b_MD_join 115 = .ok (.invokestatic 96, 3) := by decide +kernel
theorem d_MD_join_118 : decode b_MD_join 118 = .ok (.lastore, 1) := by decide +kernel
theorem d_MD_join_119 : decode b_MD_join 119 = .ok (.aload_n 0, 1) := by decide +kernel
theorem d_MD_join_120 : decode b_MD_join 120 = .ok (.getfield 48, 3) := by decide +kernel
theorem d_MD_join_123 : decode b_MD_join 123 = .ok (.iload_n 1, 1) := by decide +kernel
theorem d_MD_join_124 : decode b_MD_join 124 = .ok (.iconst 1, 1) := by decide +kernel
theorem d_MD_join_125 : decode b_MD_join 125 = .ok (.iastore, 1) := by decide +kernel
theorem d_MD_join_126 : decode b_MD_join 126 = .ok (.aload_n 0, 1) := by decide +kernel
theorem d_MD_join_127 : decode b_MD_join 127 = .ok (.getfield 76, 3) := by decide +kernel
theorem d_MD_join_130 : decode b_MD_join 130 = .ok (.aload_n 0, 1) := by decide +kernel
theorem d_MD_join_131 : decode b_MD_join 131 = .ok (.getfield 73, 3) := by decide +kernel
theorem d_MD_join_134 : decode b_MD_join 134 = .ok (.iload_n 1, 1) := by decide +kernel
theorem d_MD_join_135 : decode b_MD_join 135 = .ok (.iastore, 1) := by decide +kernel
theorem d_MD_join_136 : decode b_MD_join 136 = .ok (.aload_n 0, 1) := by decide +kernel
theorem d_MD_join_137 : decode b_MD_join 137 = .ok (.dup, 1) := by decide +kernel
theorem d_MD_join_138 : decode b_MD_join 138 = .ok (.getfield 73, 3) := by decide +kernel
theorem d_MD_join_141 : decode b_MD_join 141 = .ok (.iconst 1, 1) := by decide +kernel
theorem d_MD_join_142 : decode b_MD_join 142 = .ok (.iadd, 1) := by decide +kernel
theorem d_MD_join_143 : decode b_MD_join 143 = .ok (.putfield 73, 3) := by decide +kernel
theorem d_MD_join_146 : decode b_MD_join 146 = .ok (.aload_n 0, 1) := by decide +kernel
theorem d_MD_join_147 : decode b_MD_join 147 = .ok (.getfield 61, 3) := by decide +kernel
theorem d_MD_join_150 : decode b_MD_join 150 = .ok (.iload_n 1, 1) := by decide +kernel
theorem d_MD_join_151 : decode b_MD_join 151 = .ok (.laload, 1) := by decide +kernel
theorem d_MD_join_152 : decode b_MD_join 152 = .ok (.lreturn, 1) := by decide +kernel
theorem d_MD_verify_0 : decode b_MD_verify 0 = .ok (.aload_n 0, 1) := by decide +kernel
theorem d_MD_verify_1 : decode b_MD_verify 1 = .ok (.aload_n 0, 1) := by decide +kernel
theorem d_MD_verify_2 : decode b_MD_verify 2 = .ok (.getfield 13, 3) := by decide +kernel
theorem d_MD_verify_5 : decode b_MD_verify 5 = .ok (.lconst 0, 1) := by decide +kernel
theorem d_MD_verify_6 : decode b_MD_verify 6 = .ok (.lcmp, 1) := by decide +kernel
theorem d_MD_verify_7 : decode b_MD_verify 7 = .ok (.ifCond .eq 10, 3) := by decide +kernel
theorem d_MD_verify_10 : decode b_MD_verify 10 = .ok (.aload_n 0, 1) := by decide +kernel
theorem d_MD_verify_11 : decode b_MD_verify 11 = .ok (.getfield 42, 3) := by decide +kernel
theorem d_MD_verify_14 : decode b_MD_verify 14 = .ok (.ifCond .ne 7, 3) := by decide +kernel
theorem d_MD_verify_17 : decode b_MD_verify 17 = .ok (.iconst 1, 1) := by decide +kernel
theorem d_MD_verify_18 : decode b_MD_verify 18 = .ok (.goto 4, 3) := by decide +kernel
theorem d_MD_verify_21 : decode b_MD_verify 21 = .ok (.iconst 0, 1) := by decide +kernel
theorem d_MD_verify_22 : decode b_MD_verify 22 = .ok (.putfield 7, 3) := by decide +kernel
theorem d_MD_verify_25 : decode b_MD_verify 25 = .ok (.aload_n 0, 1) := by decide +kernel
theorem d_MD_verify_26 : decode b_MD_verify 26 = .ok (.getfield 7, 3) := by decide +kernel
theorem d_MD_verify_29 : decode b_MD_verify 29 = .ok (.ifCond .ne 41, 3) := by decide +kernel
theorem d_MD_verify_32 : decode b_MD_verify 32 = .ok (.lload_n 1, 1) := by decide +kernel
theorem d_MD_verify_33 : decode b_MD_verify 33 = .ok (.lconst 0, 1) := by decide +kernel
theorem d_MD_verify_34 : decode b_MD_verify 34 = .ok (.lcmp, 1) := by decide +kernel
theorem d_MD_verify_35 : decode b_MD_verify 35 = .ok (.ifCond .lt 35, 3) := by decide +kernel
theorem d_MD_verify_38 : decode b_MD_verify 38 = .ok (.lload_n 1, 1) := by decide +kernel
theorem d_MD_verify_39 : decode b_MD_verify 39 = .ok (.aload_n 0, 1) := by decide +kernel
theorem d_MD_verify_40 : decode b_MD_verify 40 = .ok (.getfield 13, 3) := by decide +kernel
theorem d_MD_verify_43 : decode b_MD_verify 43 = .ok (.lcmp, 1) := by decide +kernel
theorem d_MD_verify_44 : decode b_MD_verify 44 = .ok (.ifCond .ge 26, 3) := by decide +kernel
theorem d_MD_verify_47 : decode b_MD_verify 47 = .ok (.lload_n 1, 1) := by decide +kernel
theorem d_MD_verify_48 : decode b_MD_verify 48 = .ok (.ldc2_w 137, 3) := by decide +kernel
theorem d_MD_verify_51 : decode b_MD_verify 51 = .ok (.aload_n 0, 1) := by decide +kernel
theorem d_MD_verify_52 : decode b_MD_verify 52 = .ok (.getfield 13, 3) := by decide +kernel
theorem d_MD_verify_55 : decode b_MD_verify 55 = .ok (.invokestatic 96, 3) := by decide +kernel
theorem d_MD_verify_58 : decode b_MD_verify 58 = .ok (.aload_n 0, 1) := by decide +kernel
theorem d_MD_verify_59 : decode b_MD_verify 59 = .ok (.invokevirtual 139, 3) := by decide +kernel
theorem d_MD_verify_62 : decode b_MD_verify 62 = .ok (.lcmp, 1) := by decide +kernel
theorem d_MD_verify_63 : decode b_MD_verify 63 = .ok (.ifCond .ne 7, 3) := by decide +kernel
theorem d_MD_verify_66 : decode b_MD_verify 66 = .ok (.iconst 1, 1) := by decide +kernel
theorem d_MD_verify_67 : decode b_MD_verify 67 = .ok (.goto 4, 3) := by decide +kernel
theorem d_MD_verify_70 : decode b_MD_verify 70 = .ok (.iconst 0, 1) := by decide +kernel
theorem d_MD_verify_71 : decode b_MD_verify 71 = .ok (.ireturn, 1) := by decide +kernel
theorem d_MD_refresh_0 : decode b_MD_refresh 0 = .ok (.aload_n 0, 1) := by decide +kernel
theorem d_MD_refresh_1 : decode b_MD_refresh 1 = .ok (.iload_n 1, 1) := by decide +kernel
theorem d_MD_refresh_2 : decode b_MD_refresh 2 = .ok (.ifCond .lt 7, 3) := by decide +kernel
theorem d_MD_refresh_5 : decode b_MD_refresh 5 = .ok (.iload_n 2, 1) := by decide +kernel
theorem d_MD_refresh_6 : decode b_MD_refresh 6 = .ok (.ifCond .ge 7, 3) := by decide +kernel
theorem d_MD_refresh_9 : decode b_MD_refresh 9 = .ok (.iconst 1, 1) := by decide +kernel
theorem d_MD_refresh_10 : decode b_MD_refresh 10 = .ok (.goto 17, 3) := by decide +kernel
theorem d_MD_refresh_13 : decode b_MD_refresh 13 = .ok (.aload_n 0, 1) := by decide +kernel
theorem d_MD_refresh_14 : decode b_MD_refresh 14 = .ok (.getfield 13, 3) := by decide +kernel
theorem d_MD_refresh_17 : decode b_MD_refresh 17 = .ok (.lconst 0, 1) := by decide +kernel
theorem d_MD_refresh_18 : decode b_MD_refresh 18 = .ok (.lcmp, 1) := by decide +kernel
theorem d_MD_refresh_19 : decode b_MD_refresh 19 = .ok (.ifCond .ne 7, 3) := by decide +kernel
theorem d_MD_refresh_22 : decode b_MD_refresh 22 = .ok (.iconst 2, 1) := by decide +kernel
theorem d_MD_refresh_23 : decode b_MD_refresh 23 = .ok (.goto 4, 3) := by decide +kernel
theorem d_MD_refresh_26 : decode b_MD_refresh 26 = .ok (.iconst 0, 1) := by decide +kernel
theorem d_MD_refresh_27 : decode b_MD_refresh 27 = .ok (.putfield 7, 3) := by decide +kernel
theorem d_MD_refresh_30 : decode b_MD_refresh 30 = .ok (.aload_n 0, 1) := by decide +kernel
theorem d_MD_refresh_31 : decode b_MD_refresh 31 = .ok (.getfield 7, 3) := by decide +kernel
theorem d_MD_refresh_34 : decode b_MD_refresh 34 = .ok (.ifCond .eq 4, 3) := by decide +kernel
theorem d_MD_refresh_37 : decode b_MD_refresh 37 = .ok (.return_, 1) := by decide +kernel
theorem d_MD_refresh_38 : decode b_MD_refresh 38 = .ok (.aload_n 0, 1) := by decide +kernel
theorem d_MD_refresh_39 : decode b_MD_refresh 39 = .ok (.aload_n 0, 1) := by decide +kernel
theorem d_MD_refresh_40 : decode b_MD_refresh 40 = .ok (.getfield 23, 3) := by decide +kernel
theorem d_MD_refresh_43 : decode b_MD_refresh 43 = .ok (.iload_n 1, 1) := by decide +kernel
theorem d_MD_refresh_44 : decode b_MD_refresh 44 = .ok (.i2l, 1) := by decide +kernel
theorem d_MD_refresh_45 : decode b_MD_refresh 45 = .ok (.ladd, 1) := by decide +kernel
theorem d_MD_refresh_46 : decode b_MD_refresh 46 = .ok (.aload_n 0, 1) := by decide +kernel
theorem d_MD_refresh_47 : decode b_MD_refresh 47 = .ok (.getfield 17, 3) := by decide +kernel
theorem d_MD_refresh_50 : decode b_MD_refresh 50 = .ok (.lrem, 1) := by decide +kernel
theorem d_MD_refresh_51 : decode b_MD_refresh 51 = .ok (.putfield 23, 3) := by decide +kernel
theorem d_MD_refresh_54 : decode b_MD_refresh 54 = .ok (.aload_n 0, 1) := by decide +kernel
theorem d_MD_refresh_55 : decode b_MD_refresh 55 = .ok (.aload_n 0, 1) := by decide +kernel
theorem d_MD_refresh_56 : decode b_MD_refresh 56 = .ok (.getfield 26, 3) := by decide +kernel
theorem d_MD_refresh_59 : decode b_MD_refresh 59 = .ok (.iload_n 2, 1) := by decide +kernel
theorem d_MD_refresh_60 : decode b_MD_refresh 60 = .ok (.i2l, 1) := by decide +kernel
theorem d_MD_refresh_61 : decode b_MD_refresh 61 = .ok (.ladd, 1) := by decide +kernel
theorem d_MD_refresh_62 : decode b_MD_refresh 62 = .ok (.aload_n 0, 1) := by decide +kernel
theorem d_MD_refresh_63 : decode b_MD_refresh 63 = .ok (.getfield 17, 3) := by decide +kernel
theorem d_MD_refresh_66 : decode b_MD_refresh 66 = .ok (.lrem, 1) := by decide +kernel
theorem d_MD_refresh_67 : decode b_MD_refresh 67 = .ok (.putfield 26, 3) := by decide +kernel
theorem d_MD_refresh_70 : decode b_MD_refresh 70 = .ok (.aload_n 0, 1) := by decide +kernel
theorem d_MD_refresh_71 : decode b_MD_refresh 71 = .ok (.dup, 1) := by decide +kernel
theorem d_MD_refresh_72 : decode b_MD_refresh 72 = .ok (.getfield 32, 3) := by decide +kernel
theorem d_MD_refresh_75 : decode b_MD_refresh 75 = .ok (.iconst 1, 1) := by decide +kernel
theorem d_MD_refresh_76 : decode b_MD_refresh 76 = .ok (.iadd, 1) := by decide +kernel
theorem d_MD_refresh_77 : decode b_MD_refresh 77 = .ok (.putfield 32, 3) := by decide +kernel
theorem d_MD_refresh_80 : decode b_MD_refresh 80 = .ok (.iconst 0, 1) := by decide +kernel
theorem d_MD_refresh_81 : decode b_MD_refresh 81 = .ok (.istore_n 3, 1) := by decide +kernel
theorem d_MD_refresh_82 : decode b_MD_refresh 82 = .ok (.iload_n 3, 1) := by decide +kernel
theorem d_MD_refresh_83 : decode b_MD_refresh 83 = .ok (.aload_n 0, 1) := by decide +kernel
theorem d_MD_refresh_84 : decode b_MD_refresh 84 = .ok (.getfield 45, 3) := by decide +kernel
theorem d_MD_refresh_87 : decode b_MD_refresh 87 = .ok (.if_icmp .ge 25, 3) := by decide +kernel
theorem d_MD_refresh_90 : decode b_MD_refresh 90 = .ok (.aload_n 0, 1) := by decide +kernel
theorem d_MD_refresh_91 : decode b_MD_refresh 91 = .ok (.getfield 48, 3) := by decide +kernel
theorem d_MD_refresh_94 : decode b_MD_refresh 94 = .ok (.iload_n 3, 1) := by decide +kernel
theorem d_MD_refresh_95 : decode b_MD_refresh 95 = .ok (.iaload, 1) := by decide +kernel
theorem d_MD_refresh_96 : decode b_MD_refresh 96 = .ok (.ifCond .ne 10, 3) := by decide +kernel
theorem d_MD_refresh_99 : decode b_MD_refresh 99 = .ok (.aload_n 0, 1) := by decide +kernel
theorem d_MD_refresh_100 : decode b_MD_refresh 100 = .ok (.getfield 55, 3) := by decide +kernel
theorem d_MD_refresh_103 : decode b_MD_refresh 103 = .ok (.iload_n 3, 1) := by decide +kernel
theorem d_MD_refresh_104 : decode b_MD_refresh 104 = .ok (.iconst 0, 1) := by decide +kernel
theorem d_MD_refresh_105 : decode b_MD_refresh 105 = .ok (.iastore, 1) := by decide +kernel
theorem d_MD_refresh_106 : decode b_MD_refresh 106 = .ok (.iinc 3 1, 3) := by decide +kernel
theorem d_MD_refresh_109 : decode b_MD_refresh 109 = .ok (.goto (-27), 3) := by decide +kernel
theorem d_MD_refresh_112 : decode b_MD_refresh 112 = .ok (.return_, 1) := by decide +kernel
theorem d_MD_suspend_0 : decode b_MD_suspend 0 = .ok (.aload_n 0, 1) := by decide +kernel
theorem d_MD_suspend_1 : decode b_MD_suspend 1 = .ok (.iload_n 1, 1) := by decide +kernel
theorem d_MD_suspend_2 : decode b_MD_suspend 2 = .ok (.invokestatic 145, 3) := by decide +kernel
theorem d_MD_suspend_5 : decode b_MD_suspend 5 = .ok (.ifCond .ne 7, 3) := by decide +kernel
theorem d_MD_suspend_8 : decode b_MD_suspend 8 = .ok (.iconst 1, 1) := by decide +kernel
theorem d_MD_suspend_9 : decode b_MD_suspend 9 = .ok (.goto 17, 3) := by decide +kernel
theorem d_MD_suspend_12 : decode b_MD_suspend 12 = .ok (.aload_n 0, 1) := by decide +kernel
theorem d_MD_suspend_13 : decode b_MD_suspend 13 = .ok (.getfield 13, 3) := by decide +kernel
theorem d_MD_suspend_16 : decode b_MD_suspend 16 = .ok (.lconst 0, 1) := by decide +kernel
theorem d_MD_suspend_17 : decode b_MD_suspend 17 = .ok (.lcmp, 1) := by decide +kernel
theorem d_MD_suspend_18 : decode b_MD_suspend 18 = .ok (.ifCond .ne 7, 3) := by decide +kernel
theorem d_MD_suspend_21 : decode b_MD_suspend 21 = .ok (.iconst 2, 1) := by decide +kernel
theorem d_MD_suspend_22 : decode b_MD_suspend 22 = .ok (.goto 4, 3) := by decide +kernel
theorem d_MD_suspend_25 : decode b_MD_suspend 25 = .ok (.iconst 0, 1) := by decide +kernel
theorem d_MD_suspend_26 : decode b_MD_suspend 26 = .ok (.putfield 7, 3) := by decide +kernel
theorem d_MD_suspend_29 : decode b_MD_suspend 29 = .ok (.aload_n 0, 1) := by decide +kernel
theorem d_MD_suspend_30 : decode b_MD_suspend 30 = .ok (.getfield 7, 3) := by decide +kernel
theorem d_MD_suspend_33 : decode b_MD_suspend 33 = .ok (.ifCond .eq 5, 3) := by decide +kernel
theorem d_MD_suspend_36 : decode b_MD_suspend 36 = .ok (.iconst 0, 1) := by decide +kernel
theorem d_MD_suspend_37 : decode b_MD_suspend 37 = .ok (.ireturn, 1) := by decide +kernel
theorem d_MD_suspend_38 : decode b_MD_suspend 38 = .ok (.aload_n 0, 1) := by decide +kernel
theorem d_MD_suspend_39 : decode b_MD_suspend 39 = .ok (.getfield 35, 3) := by decide +kernel
theorem d_MD_suspend_42 : decode b_MD_suspend 42 = .ok (.iload_n 1, 1) := by decide +kernel
theorem d_MD_suspend_43 : decode b_MD_suspend 43 = .ok (.ishr, 1) := by decide +kernel
theorem d_MD_suspend_44 : decode b_MD_suspend 44 = .ok (.iconst 1, 1) := by decide +kernel
theorem d_MD_suspend_45 : decode b_MD_suspend 45 = .ok (.iand, 1) := by decide +kernel
theorem d_MD_suspend_46 : decode b_MD_suspend 46 = .ok (.iconst 1, 1) := by decide +kernel
theorem d_MD_suspend_47 : decode b_MD_suspend 47 = .ok (.if_icmp .ne 7, 3) := by decide +kernel
theorem d_MD_suspend_50 : decode b_MD_suspend 50 = .ok (.iconst 1, 1) := by decide +kernel
theorem d_MD_suspend_51 : decode b_MD_suspend 51 = .ok (.goto 4, 3) := by decide +kernel
theorem d_MD_suspend_54 : decode b_MD_suspend 54 = .ok (.iconst 0, 1) := by decide +kernel
theorem d_MD_suspend_55 : decode b_MD_suspend 55 = .ok (.istore_n 3, 1) := by decide +kernel
theorem d_MD_suspend_56 : decode b_MD_suspend 56 = .ok (.aload_n 0, 1) := by decide +kernel
theorem d_MD_suspend_57 : decode b_MD_suspend 57 = .ok (.iload_n 2, 1) := by decide +kernel
theorem d_MD_suspend_58 : decode b_MD_suspend 58 = .ok (.ifCond .eq 14, 3) := by decide +kernel
theorem d_MD_suspend_61 : decode b_MD_suspend 61 = .ok (.aload_n 0, 1) := by decide +kernel
theorem d_MD_suspend_62 : decode b_MD_suspend 62 = .ok (.getfield 35, 3) := by decide +kernel
theorem d_MD_suspend_65 : decode b_MD_suspend 65 = .ok (.iconst 1, 1) := by decide +kernel
theorem d_MD_suspend_66 : decode b_MD_suspend 66 = .ok (.iload_n 1, 1) := by decide +kernel
theorem d_MD_suspend_67 : decode b_MD_suspend 67 = .ok (.ishl, 1) := by decide +kernel
theorem d_MD_suspend_68 : decode b_MD_suspend 68 = .ok (.ior, 1) := by decide +kernel
theorem d_MD_suspend_69 : decode b_MD_suspend 69 = .ok (.goto 13, 3) := by decide +kernel
theorem d_MD_suspend_72 : decode b_MD_suspend 72 = .ok (.aload_n 0, 1) := by decide +kernel
theorem d_MD_suspend_73 : decode b_MD_suspend 73 = .ok (.getfield 35, 3) := by decide +kernel
theorem d_MD_suspend_76 : decode b_MD_suspend 76 = .ok (.iconst 1, 1) := by decide +kernel
theorem d_MD_suspend_77 : decode b_MD_suspend 77 = .ok (.iload_n 1, 1) := by decide +kernel
theorem d_MD_suspend_78 : decode b_MD_suspend 78 = .ok (.ishl, 1) := by decide +kernel
theorem d_MD_suspend_79 : decode b_MD_suspend 79 = .ok (.iconst (-1), 1) := by decide +kernel
theorem d_MD_suspend_80 : decode b_MD_suspend 80 = .ok (.ixor, 1) := by decide +kernel
theorem d_MD_suspend_81 : decode b_MD_suspend 81 = .ok (.iand, 1) := by decide +kernel
theorem d_MD_suspend_82 : decode b_MD_suspend 82 = .ok (.putfield 35, 3) := by decide +kernel
theorem d_MD_suspend_85 : decode b_MD_suspend 85 = .ok (.iload_n 3, 1) := by decide +kernel
theorem d_MD_suspend_86 : decode b_MD_suspend 86 = .ok (.iload_n 2, 1) := by decide +kernel
theorem d_MD_suspend_87 : decode b_MD_suspend 87 = .ok (.if_icmp .eq 7, 3) := by decide +kernel
theorem d_MD_suspend_90 : decode b_MD_suspend 90 = .ok (.iconst 1, 1) := by decide +kernel
theorem d_MD_suspend_91 : decode b_MD_suspend 91 = .ok (.goto 4, 3) := by decide +kernel
theorem d_MD_suspend_94 : decode b_MD_suspend 94 = .ok (.iconst 0, 1) := by decide +kernel
theorem d_MD_suspend_95 : decode b_MD_suspend 95 = .ok (.ireturn, 1) := by decide +kernel
theorem d_MD_parts_0 : decode b_MD_parts 0 = .ok (.aload_n 0, 1) := by decide +kernel
theorem d_MD_parts_1 : decode b_MD_parts 1 = .ok (.iload_n 1, 1) := by decide +kernel
theorem d_MD_parts_2 : decode b_MD_parts 2 = .ok (.ifCond .lt 17, 3) := by decide +kernel
theorem d_MD_parts_5 : decode b_MD_parts 5 = .ok (.iload_n 1, 1) := by decide +kernel
theorem d_MD_parts_6 : decode b_MD_parts 6 = .ok (.bipush 63, 2) := by decide +kernel
theorem d_MD_parts_8 : decode b_MD_parts 8 = .ok (.if_icmp .gt 11, 3) := by decide +kernel
theorem d_MD_parts_11 : decode b_MD_parts 11 = .ok (.iload_n 1, 1) := by decide +kernel
theorem d_MD_parts_12 : decode b_MD_parts 12 = .ok (.invokestatic 156, 3) := by decide +kernel
theorem d_MD_parts_15 : decode b_MD_parts 15 = .ok (.iconst 3, 1) := by decide +kernel
theorem d_MD_parts_16 : decode b_MD_parts 16 = .ok (.if_icmp .eq 7, 3) := by decide +kernel
theorem d_MD_parts_19 : decode b_MD_parts 19 = .ok (.iconst 1, 1) := by decide +kernel
theorem d_MD_parts_20 : decode b_MD_parts 20 = .ok (.goto 17, 3) := by decide +kernel
theorem d_MD_parts_23 : decode b_MD_parts 23 = .ok (.aload_n 0, 1) := by decide +kernel
theorem d_MD_parts_24 : decode b_MD_parts 24 = .ok (.getfield 13, 3) := by decide +kernel
theorem d_MD_parts_27 : decode b_MD_parts 27 = .ok (.lconst 0, 1) := by decide +kernel
theorem d_MD_parts_28 : decode b_MD_parts 28 = .ok (.lcmp, 1) := by decide +kernel
theorem d_MD_parts_29 : decode b_MD_parts 29 = .ok (.ifCond .ne 7, 3) := by decide +kernel
theorem d_MD_parts_32 : decode b_MD_parts 32 = .ok (.iconst 2, 1) := by decide +kernel
theorem d_MD_parts_33 : decode b_MD_parts 33 = .ok (.goto 4, 3) := by decide +kernel
theorem d_MD_parts_36 : decode b_MD_parts 36 = .ok (.iconst 0, 1) := by decide +kernel
theorem d_MD_parts_37 : decode b_MD_parts 37 = .ok (.putfield 7, 3) := by decide +kernel
theorem d_MD_parts_40 : decode b_MD_parts 40 = .ok (.aload_n 0, 1) := by decide +kernel
theorem d_MD_parts_41 : decode b_MD_parts 41 = .ok (.getfield 7, 3) := by decide +kernel
theorem d_MD_parts_44 : decode b_MD_parts 44 = .ok (.ifCond .eq 5, 3) := by decide +kernel
theorem d_MD_parts_47 : decode b_MD_parts 47 = .ok (.iconst 0, 1) := by decide +kernel
theorem d_MD_parts_48 : decode b_MD_parts 48 = .ok (.ireturn, 1) := by decide +kernel
theorem d_MD_parts_49 : decode b_MD_parts 49 = .ok (.lconst 0, 1) := by decide +kernel
theorem d_MD_parts_50 : decode b_MD_parts 50 = .ok (.lstore_n 2, 1) := by decide +kernel
theorem d_MD_parts_51 : decode b_MD_parts 51 = .ok (.iconst 0, 1) := by decide +kernel
theorem d_MD_parts_52 : decode b_MD_parts 52 = .ok (.istore 4, 2) := by decide +kernel
theorem d_MD_parts_54 : decode b_MD_parts 54 = .ok (.iload 4, 2) := by decide +kernel
theorem d_MD_parts_56 : decode b_MD_parts 56 = .ok (.bipush 6, 2) := by decide +kernel
theorem d_MD_parts_58 : decode b_MD_parts 58 = .ok (.if_icmp .ge 116, 3) := by decide +kernel
theorem d_MD_parts_61 : decode b_MD_parts 61 = .ok (.iload_n 1, 1) := by decide +kernel
theorem d_MD_parts_62 : decode b_MD_parts 62 = .ok (.iload 4, 2) := by decide +kernel
theorem d_MD_parts_64 : decode b_MD_parts 64 = .ok (.ishr, 1) := by decide +kernel
theorem d_MD_parts_65 : decode b_MD_parts 65 = .ok (.iconst 1, 1) := by decide +kernel
theorem d_MD_parts_66 : decode b_MD_parts 66 = .ok (.iand, 1) := by decide +kernel
theorem d_MD_parts_67 : decode b_MD_parts 67 = .ok (.iconst 1, 1) := by decide +kernel
theorem d_MD_parts_68 : decode b_MD_parts 68 = .ok (.if_icmp .ne 100, 3) := by decide +kernel
theorem d_MD_parts_71 : decode b_MD_parts 71 = .ok (.ldc2_w 166, 3) := by decide +kernel
theorem d_MD_parts_74 : decode b_MD_parts 74 = .ok (.lstore 5, 2) := by decide +kernel
theorem d_MD_parts_76 : decode b_MD_parts 76 = .ok (.lconst 1, 1) := by decide +kernel
theorem d_MD_parts_77 : decode b_MD_parts 77 = .ok (.lstore 7, 2) := by decide +kernel
theorem d_MD_parts_79 : decode b_MD_parts 79 = .ok (.iconst 0, 1) := by decide +kernel
theorem d_MD_parts_80 : decode b_MD_parts 80 = .ok (.istore 9, 2) := by decide +kernel
theorem d_MD_parts_82 : decode b_MD_parts 82 = .ok (.iload 9, 2) := by decide +kernel
theorem d_MD_parts_84 : decode b_MD_parts 84 = .ok (.bipush 6, 2) := by decide +kernel
theorem d_MD_parts_86 : decode b_MD_parts 86 = .ok (.if_icmp .ge 47, 3) := by decide +kernel
theorem d_MD_parts_89 : decode b_MD_parts 89 = .ok (.iload 9, 2) := by decide +kernel
theorem d_MD_parts_91 : decode b_MD_parts 91 = .ok (.iload 4, 2) := by decide +kernel
theorem d_MD_parts_93 : decode b_MD_parts 93 = .ok (.if_icmp .eq 34, 3) := by decide +kernel
theorem d_MD_parts_96 : decode b_MD_parts 96 = .ok (.iload_n 1, 1) := by decide +kernel
theorem d_MD_parts_97 : decode b_MD_parts 97 = .ok (.iload 9, 2) := by decide +kernel
theorem d_MD_parts_99 : decode b_MD_parts 99 = .ok (.ishr, 1) := by decide +kernel
theorem d_MD_parts_100 : decode b_MD_parts 100 = .ok (.iconst 1, 1) := by decide +kernel
theorem d_MD_parts_101 : decode b_MD_parts 101 = .ok (.iand, 1) := by decide +kernel
theorem d_MD_parts_102 : decode b_MD_parts 102 = .ok (.iconst 1, 1) := by decide +kernel
theorem d_MD_parts_103 : decode b_MD_parts 103 = .ok (.if_icmp .ne 24, 3) := by decide +kernel
theorem d_MD_parts_106 : decode b_MD_parts 106 = .ok (.lload 5, 2) := by decide +kernel
theorem d_MD_parts_108 : decode b_MD_parts 108 = .ok (.iload 9, 2) := by decide +kernel
theorem d_MD_parts_110 : decode b_MD_parts 110 = .ok (.iconst 1, 1) := by decide +kernel
theorem d_MD_parts_111 : decode b_MD_parts 111 = .ok (.iadd, 1) := by decide +kernel
theorem d_MD_parts_112 : decode b_MD_parts 112 = .ok (.i2l, 1) := by decide +kernel
theorem d_MD_parts_113 : decode b_MD_parts 113 = .ok (.lmul, 1) := by decide +kernel
theorem d_MD_parts_114 : decode b_MD_parts 114 = .ok (.lstore 5, 2) := by decide +kernel
theorem d_MD_parts_116 : decode b_MD_parts 116 = .ok (.lload 7, 2) := by decide +kernel
theorem d_MD_parts_118 : decode b_MD_parts 118 = .ok (.iload 9, 2) := by decide +kernel
theorem d_MD_parts_120 : decode b_MD_parts 120 = .ok (.iload 4, 2) := by decide +kernel
theorem d_MD_parts_122 : decode b_MD_parts 122 = .ok (.isub, 1) := by decide +kernel
theorem d_MD_parts_123 : decode b_MD_parts 123 = .ok (.i2l, 1) := by decide +kernel
theorem d_MD_parts_124 : decode b_MD_parts 124 = .ok (.lmul, 1) := by decide +kernel
theorem d_MD_parts_125 : decode b_MD_parts 125 = .ok (.lstore 7, 2) := by decide +kernel
theorem d_MD_parts_127 : decode b_MD_parts 127 = .ok (.iinc 9 1, 3) := by decide +kernel
theorem d_MD_parts_130 : decode b_MD_parts 130 = .ok (.goto (-48), 3) := by decide +kernel
theorem d_MD_parts_133 : decode b_MD_parts 133 = .ok (.lload_n 2, 1) := by decide +kernel
theorem d_MD_parts_134 : decode b_MD_parts 134 = .ok (.aload_n 0, 1) := by decide +kernel
theorem d_MD_parts_135 : decode b_MD_parts 135 = .ok (.iload 4, 2) := by decide +kernel
theorem d_MD_parts_137 : decode b_MD_parts 137 = .ok (.invokevirtual 92, 3) := by decide +kernel
theorem d_MD_parts_140 : decode b_MD_parts 140 = .ok (.lload 5, 2) := by decide +kernel
theorem d_MD_parts_142 : decode b_MD_parts 142 = .ok (.lload 7, 2) := by decide +kernel
theorem d_MD_parts_144 : decode b_MD_parts 144 = .ok (.ldiv, 1) := by decide +kernel
theorem d_MD_parts_145 : decode b_MD_parts 145 = .ok (.aload_n 0, 1) := by decide +kernel
theorem d_MD_parts_146 : decode b_MD_parts 146 = .ok (.getfield 17, 3) := by decide +kernel
theorem d_MD_parts_149 : decode b_MD_parts 149 = .ok (.lrem, 1) := by decide +kernel
theorem d_MD_parts_150 : decode b_MD_parts 150 = .ok (.aload_n 0, 1) := by decide +kernel
theorem d_MD_parts_151 : decode b_MD_parts 151 = .ok (.getfield 17, 3) := by decide +kernel
theorem d_MD_parts_154 : decode b_MD_parts 154 = .ok (.ladd, 1) := by decide +kernel
theorem d_MD_parts_155 : decode b_MD_parts 155 = .ok (.aload_n 0, 1) := by decide +kernel
theorem d_MD_parts_156 : decode b_MD_parts 156 = .ok (.getfield 17, 3) := by decide +kernel
theorem d_MD_parts_159 : decode b_MD_parts 159 = .ok (.lrem, 1) := by decide +kernel
theorem d_MD_parts_160 : decode b_MD_parts 160 = .ok (.lmul, 1) := by decide +kernel
theorem d_MD_parts_161 : decode b_MD_parts 161 = .ok (.ladd, 1) := by decide +kernel
theorem d_MD_parts_162 : decode b_MD_parts 162 = .ok (.aload_n 0, 1) := by decide +kernel
theorem d_MD_parts_163 : decode b_MD_parts 163 = .ok (.getfield 17, 3) := by decide +kernel
theorem d_MD_parts_166 : decode b_MD_parts 166 = .ok (.lrem, 1) := by decide +kernel
theorem d_MD_parts_167 : decode b_MD_parts 167 = .ok (.lstore_n 2, 1) := by decide +kernel
theorem d_MD_parts_168 : decode b_MD_parts 168 = .ok (.iinc 4 1, 3) := by decide +kernel
theorem d_MD_parts_171 : decode b_MD_parts 171 = .ok (.goto (-117), 3) := by decide +kernel
theorem d_MD_parts_174 : decode b_MD_parts 174 = .ok (.lload_n 2, 1) := by decide +kernel
theorem d_MD_parts_175 : decode b_MD_parts 175 = .ok (.ldc2_w 166, 3) := by decide +kernel
theorem d_MD_parts_178 : decode b_MD_parts 178 = .ok (.aload_n 0, 1) := by decide +kernel
theorem d_MD_parts_179 : decode b_MD_parts 179 = .ok (.getfield 20, 3) := by decide +kernel
theorem d_MD_parts_182 : decode b_MD_parts 182 = .ok (.lmul, 1) := by decide +kernel
theorem d_MD_parts_183 : decode b_MD_parts 183 = .ok (.aload_n 0, 1) := by decide +kernel
theorem d_MD_parts_184 : decode b_MD_parts 184 = .ok (.getfield 17, 3) := by decide +kernel
theorem d_MD_parts_187 : decode b_MD_parts 187 = .ok (.lrem, 1) := by decide +kernel
theorem d_MD_parts_188 : decode b_MD_parts 188 = .ok (.lcmp, 1) := by decide +kernel
theorem d_MD_parts_189 : decode b_MD_parts 189 = .ok (.ifCond .ne 7, 3) := by decide +kernel
theorem d_MD_parts_192 : decode b_MD_parts 192 = .ok (.iconst 1, 1) := by decide +kernel
theorem d_MD_parts_193 : decode b_MD_parts 193 = .ok (.goto 4, 3) := by decide +kernel
theorem d_MD_parts_196 : decode b_MD_parts 196 = .ok (.iconst 0, 1) := by decide +kernel
theorem d_MD_parts_197 : decode b_MD_parts 197 = .ok (.ireturn, 1) := by decide +kernel
theorem d_MD_told_0 : decode b_MD_told 0 = .ok (.aload_n 0, 1) := by decide +kernel
theorem d_MD_told_1 : decode b_MD_told 1 = .ok (.aload_n 0, 1) := by decide +kernel
theorem d_MD_told_2 : decode b_MD_told 2 = .ok (.iload_n 1, 1) := by decide +kernel
theorem d_MD_told_3 : decode b_MD_told 3 = .ok (.invokevirtual 142, 3) := by decide +kernel
theorem d_MD_told_6 : decode b_MD_told 6 = .ok (.ifCond .ne 7, 3) := by decide +kernel
theorem d_MD_told_9 : decode b_MD_told 9 = .ok (.iconst 1, 1) := by decide +kernel
theorem d_MD_told_10 : decode b_MD_told 10 = .ok (.goto 17, 3) := by decide +kernel
theorem d_MD_told_13 : decode b_MD_told 13 = .ok (.iload_n 2, 1) := by decide +kernel
theorem d_MD_told_14 : decode b_MD_told 14 = .ok (.ifCond .lt 8, 3) := by decide +kernel
theorem d_MD_told_17 : decode b_MD_told 17 = .ok (.iload_n 2, 1) := by decide +kernel
theorem d_MD_told_18 : decode b_MD_told 18 = .ok (.iconst 4, 1) := by decide +kernel
theorem d_MD_told_19 : decode b_MD_told 19 = .ok (.if_icmp .le 7, 3) := by decide +kernel
theorem d_MD_told_22 : decode b_MD_told 22 = .ok (.iconst 2, 1) := by decide +kernel
theorem d_MD_told_23 : decode b_MD_told 23 = .ok (.goto 4, 3) := by decide +kernel
theorem d_MD_told_26 : decode b_MD_told 26 = .ok (.iconst 0, 1) := by decide +kernel
theorem d_MD_told_27 : decode b_MD_told 27 = .ok (.putfield 7, 3) := by decide +kernel
theorem d_MD_told_30 : decode b_MD_told 30 = .ok (.aload_n 0, 1) := by decide +kernel
theorem d_MD_told_31 : decode b_MD_told 31 = .ok (.getfield 7, 3) := by decide +kernel
theorem d_MD_told_34 : decode b_MD_told 34 = .ok (.ifCond .eq 5, 3) := by decide +kernel
theorem d_MD_told_37 : decode b_MD_told 37 = .ok (.lconst 0, 1) := by decide +kernel
theorem d_MD_told_38 : decode b_MD_told 38 = .ok (.lreturn, 1) := by decide +kernel
theorem d_MD_told_39 : decode b_MD_told 39 = .ok (.iload_n 2, 1) := by decide +kernel
theorem d_MD_told_40 : decode b_MD_told 40 = .ok (.ifCond .ne 13, 3) := by decide +kernel
theorem d_MD_told_43 : decode b_MD_told 43 = .ok (.aload_n 0, 1) := by decide +kernel
theorem d_MD_told_44 : decode b_MD_told 44 = .ok (.getfield 48, 3) := by decide +kernel
theorem d_MD_told_47 : decode b_MD_told 47 = .ok (.iload_n 1, 1) := by decide +kernel
theorem d_MD_told_48 : decode b_MD_told 48 = .ok (.iaload, 1) := by decide +kernel
theorem d_MD_told_49 : decode b_MD_told 49 = .ok (.i2l, 1) := by decide +kernel
theorem d_MD_told_50 : decode b_MD_told 50 = .ok (.goto 53, 3) := by decide +kernel
theorem d_MD_told_53 : decode b_MD_told 53 = .ok (.iload_n 2, 1) := by decide +kernel
theorem d_MD_told_54 : decode b_MD_told 54 = .ok (.iconst 1, 1) := by decide +kernel
theorem d_MD_told_55 : decode b_MD_told 55 = .ok (.if_icmp .ne 12, 3) := by decide +kernel
theorem d_MD_told_58 : decode b_MD_told 58 = .ok (.aload_n 0, 1) := by decide +kernel
theorem d_MD_told_59 : decode b_MD_told 59 = .ok (.getfield 51, 3) := by decide +kernel
theorem d_MD_told_62 : decode b_MD_told 62 = .ok (.iload_n 1, 1) := by decide +kernel
theorem d_MD_told_63 : decode b_MD_told 63 = .ok (.laload, 1) := by decide +kernel
theorem d_MD_told_64 : decode b_MD_told 64 = .ok (.goto 39, 3) := by decide +kernel
theorem d_MD_told_67 : decode b_MD_told 67 = .ok (.iload_n 2, 1) := by decide +kernel
theorem d_MD_told_68 : decode b_MD_told 68 = .ok (.iconst 2, 1) := by decide +kernel
theorem d_MD_told_69 : decode b_MD_told 69 = .ok (.if_icmp .ne 13, 3) := by decide +kernel
theorem d_MD_told_72 : decode b_MD_told 72 = .ok (.aload_n 0, 1) := by decide +kernel
theorem d_MD_told_73 : decode b_MD_told 73 = .ok (.getfield 55, 3) := by decide +kernel
theorem d_MD_told_76 : decode b_MD_told 76 = .ok (.iload_n 1, 1) := by decide +kernel
theorem d_MD_told_77 : decode b_MD_told 77 = .ok (.iaload, 1) := by decide +kernel
theorem d_MD_told_78 : decode b_MD_told 78 = .ok (.i2l, 1) := by decide +kernel
theorem d_MD_told_79 : decode b_MD_told 79 = .ok (.goto 24, 3) := by decide +kernel
theorem d_MD_told_82 : decode b_MD_told 82 = .ok (.iload_n 2, 1) := by decide +kernel
theorem d_MD_told_83 : decode b_MD_told 83 = .ok (.iconst 3, 1) := by decide +kernel
theorem d_MD_told_84 : decode b_MD_told 84 = .ok (.if_icmp .ne 13, 3) := by decide +kernel
theorem d_MD_told_87 : decode b_MD_told 87 = .ok (.aload_n 0, 1) := by decide +kernel
theorem d_MD_told_88 : decode b_MD_told 88 = .ok (.getfield 58, 3) := by decide +kernel
theorem d_MD_told_91 : decode b_MD_told 91 = .ok (.iload_n 1, 1) := by decide +kernel
theorem d_MD_told_92 : decode b_MD_told 92 = .ok (.iaload, 1) := by decide +kernel
theorem d_MD_told_93 : decode b_MD_told 93 = .ok (.i2l, 1) := by decide +kernel
theorem d_MD_told_94 : decode b_MD_told 94 = .ok (.goto 9, 3) := by decide +kernel
theorem d_MD_told_97 : decode b_MD_told 97 = .ok (.aload_n 0, 1) := by decide +kernel
theorem d_MD_told_98 : decode b_MD_told 98 = .ok (.getfield 61, 3) := by decide +kernel
theorem d_MD_told_101 : decode b_MD_told 101 = .ok (.iload_n 1, 1) := by decide +kernel
theorem d_MD_told_102 : decode b_MD_told 102 = .ok (.laload, 1) := by decide +kernel
theorem d_MD_told_103 : decode b_MD_told 103 = .ok (.lreturn, 1) := by decide +kernel
theorem d_MD_book_0 : decode b_MD_book 0 = .ok (.aload_n 0, 1) := by decide +kernel
theorem d_MD_book_1 : decode b_MD_book 1 = .ok (.iload_n 1, 1) := by decide +kernel
theorem d_MD_book_2 : decode b_MD_book 2 = .ok (.ifCond .ge 7, 3) := by decide +kernel
theorem d_MD_book_5 : decode b_MD_book 5 = .ok (.iconst 1, 1) := by decide +kernel
theorem d_MD_book_6 : decode b_MD_book 6 = .ok (.goto 4, 3) := by decide +kernel
theorem d_MD_book_9 : decode b_MD_book 9 = .ok (.iconst 0, 1) := by decide +kernel
theorem d_MD_book_10 : decode b_MD_book 10 = .ok (.putfield 7, 3) := by decide +kernel
theorem d_MD_book_13 : decode b_MD_book 13 = .ok (.aload_n 0, 1) := by decide +kernel
theorem d_MD_book_14 : decode b_MD_book 14 = .ok (.getfield 7, 3) := by decide +kernel
theorem d_MD_book_17 : decode b_MD_book 17 = .ok (.ifCond .eq 7, 3) := by decide +kernel
theorem d_MD_book_20 : decode b_MD_book 20 = .ok (.iconst 0, 1) := by decide +kernel
theorem d_MD_book_21 : decode b_MD_book 21 = .ok (.goto 21, 3) := by decide +kernel
theorem d_MD_book_24 : decode b_MD_book 24 = .ok (.iload_n 1, 1) := by decide +kernel
theorem d_MD_book_25 : decode b_MD_book 25 = .ok (.aload_n 0, 1) := by decide +kernel
theorem d_MD_book_26 : decode b_MD_book 26 = .ok (.getfield 73, 3) := by decide +kernel
theorem d_MD_book_29 : decode b_MD_book 29 = .ok (.if_icmp .ge 12, 3) := by decide +kernel
theorem d_MD_book_32 : decode b_MD_book 32 = .ok (.aload_n 0, 1) := by decide +kernel
theorem d_MD_book_33 : decode b_MD_book 33 = .ok (.getfield 76, 3) := by decide +kernel
theorem d_MD_book_36 : decode b_MD_book 36 = .ok (.iload_n 1, 1) := by decide +kernel
theorem d_MD_book_37 : decode b_MD_book 37 = .ok (.iaload, 1) := by decide +kernel
theorem d_MD_book_38 : decode b_MD_book 38 = .ok (.goto 4, 3) := by decide +kernel
theorem d_MD_book_41 : decode b_MD_book 41 = .ok (.iconst (-1), 1) := by decide +kernel
theorem d_MD_book_42 : decode b_MD_book 42 = .ok (.ireturn, 1) := by decide +kernel
theorem d_MD_state_0 : decode b_MD_state 0 = .ok (.aload_n 0, 1) := by decide +kernel
theorem d_MD_state_1 : decode b_MD_state 1 = .ok (.iload_n 1, 1) := by decide +kernel
theorem d_MD_state_2 : decode b_MD_state 2 = .ok (.ifCond .lt 9, 3) := by decide +kernel
theorem d_MD_state_5 : decode b_MD_state 5 = .ok (.iload_n 1, 1) := by decide +kernel
theorem d_MD_state_6 : decode b_MD_state 6 = .ok (.bipush 10, 2) := by decide +kernel
theorem d_MD_state_8 : decode b_MD_state 8 = .ok (.if_icmp .le 7, 3) := by decide +kernel
theorem d_MD_state_11 : decode b_MD_state 11 = .ok (.iconst 1, 1) := by decide +kernel
theorem d_MD_state_12 : decode b_MD_state 12 = .ok (.goto 4, 3) := by decide +kernel
theorem d_MD_state_15 : decode b_MD_state 15 = .ok (.iconst 0, 1) := by decide +kernel
theorem d_MD_state_16 : decode b_MD_state 16 = .ok (.putfield 7, 3) := by decide +kernel
theorem d_MD_state_19 : decode b_MD_state 19 = .ok (.aload_n 0, 1) := by decide +kernel
theorem d_MD_state_20 : decode b_MD_state 20 = .ok (.getfield 7, 3) := by decide +kernel
theorem d_MD_state_23 : decode b_MD_state 23 = .ok (.ifCond .eq 5, 3) := by decide +kernel
theorem d_MD_state_26 : decode b_MD_state 26 = .ok (.lconst 0, 1) := by decide +kernel
theorem d_MD_state_27 : decode b_MD_state 27 = .ok (.lreturn, 1) := by decide +kernel
theorem d_MD_state_28 : decode b_MD_state 28 = .ok (.iload_n 1, 1) := by decide +kernel
theorem d_MD_state_29 : decode b_MD_state 29 = .ok (.iconst 4, 1) := by decide +kernel
theorem d_MD_state_30 : decode b_MD_state 30 = .ok (.if_icmp .ne 9, 3) := by decide +kernel
theorem d_MD_state_33 : decode b_MD_state 33 = .ok (.aload_n 0, 1) := by decide +kernel
theorem d_MD_state_34 : decode b_MD_state 34 = .ok (.getfield 42, 3) := by decide +kernel
theorem d_MD_state_37 : decode b_MD_state 37 = .ok (.i2l, 1) := by decide +kernel
theorem d_MD_state_38 : decode b_MD_state 38 = .ok (.lreturn, 1) := by decide +kernel
theorem d_MD_state_39 : decode b_MD_state 39 = .ok (.aload_n 0, 1) := by decide +kernel
theorem d_MD_state_40 : decode b_MD_state 40 = .ok (.getfield 13, 3) := by decide +kernel
theorem d_MD_state_43 : decode b_MD_state 43 = .ok (.lconst 0, 1) := by decide +kernel
theorem d_MD_state_44 : decode b_MD_state 44 = .ok (.lcmp, 1) := by decide +kernel
theorem d_MD_state_45 : decode b_MD_state 45 = .ok (.ifCond .ne 5, 3) := by decide +kernel
theorem d_MD_state_48 : decode b_MD_state 48 = .ok (.lconst 0, 1) := by decide +kernel
theorem d_MD_state_49 : decode b_MD_state 49 = .ok (.lreturn, 1) := by decide +kernel
theorem d_MD_state_50 : decode b_MD_state 50 = .ok (.iload_n 1, 1) := by decide +kernel
theorem d_MD_state_51 : decode b_MD_state 51 = .ok (.ifCond .ne 10, 3) := by decide +kernel
theorem d_MD_state_54 : decode b_MD_state 54 = .ok (.aload_n 0, 1) := by decide +kernel
theorem d_MD_state_55 : decode b_MD_state 55 = .ok (.getfield 13, 3) := by decide +kernel
theorem d_MD_state_58 : decode b_MD_state 58 = .ok (.goto 49, 3) := by decide +kernel
theorem d_MD_state_61 : decode b_MD_state 61 = .ok (.iload_n 1, 1) := by decide +kernel
theorem d_MD_state_62 : decode b_MD_state 62 = .ok (.iconst 1, 1) := by decide +kernel
theorem d_MD_state_63 : decode b_MD_state 63 = .ok (.if_icmp .ne 11, 3) := by decide +kernel
theorem d_MD_state_66 : decode b_MD_state 66 = .ok (.aload_n 0, 1) := by decide +kernel
theorem d_MD_state_67 : decode b_MD_state 67 = .ok (.getfield 32, 3) := by decide +kernel
theorem d_MD_state_70 : decode b_MD_state 70 = .ok (.i2l, 1) := by decide +kernel
theorem d_MD_state_71 : decode b_MD_state 71 = .ok (.goto 36, 3) := by decide +kernel
theorem d_MD_state_74 : decode b_MD_state 74 = .ok (.iload_n 1, 1) := by decide +kernel
theorem d_MD_state_75 : decode b_MD_state 75 = .ok (.iconst 2, 1) := by decide +kernel
theorem d_MD_state_76 : decode b_MD_state 76 = .ok (.if_icmp .ne 11, 3) := by decide +kernel
theorem d_MD_state_79 : decode b_MD_state 79 = .ok (.aload_n 0, 1) := by decide +kernel
theorem d_MD_state_80 : decode b_MD_state 80 = .ok (.getfield 45, 3) := by decide +kernel
theorem d_MD_state_83 : decode b_MD_state 83 = .ok (.i2l, 1) := by decide +kernel
theorem d_MD_state_84 : decode b_MD_state 84 = .ok (.goto 23, 3) := by decide +kernel
theorem d_MD_state_87 : decode b_MD_state 87 = .ok (.iload_n 1, 1) := by decide +kernel
theorem d_MD_state_88 : decode b_MD_state 88 = .ok (.iconst 3, 1) := by decide +kernel
theorem d_MD_state_89 : decode b_MD_state 89 = .ok (.if_icmp .ne 11, 3) := by decide +kernel
theorem d_MD_state_92 : decode b_MD_state 92 = .ok (.aload_n 0, 1) := by decide +kernel
theorem d_MD_state_93 : decode b_MD_state 93 = .ok (.getfield 35, 3) := by decide +kernel
theorem d_MD_state_96 : decode b_MD_state 96 = .ok (.i2l, 1) := by decide +kernel
theorem d_MD_state_97 : decode b_MD_state 97 = .ok (.goto 10, 3) := by decide +kernel
theorem d_MD_state_100 : decode b_MD_state 100 = .ok (.aload_n 0, 1) := by decide +kernel
theorem d_MD_state_101 : decode b_MD_state 101 = .ok (.iload_n 1, 1) := by decide +kernel
theorem d_MD_state_102 : decode b_MD_state 102 = .ok (.iconst 5, 1) := by decide +kernel
theorem d_MD_state_103 : decode b_MD_state 103 = .ok (.isub, 1) := by decide +kernel
theorem d_MD_state_104 : decode b_MD_state 104 = .ok (.invokevirtual 119, 3) := by decide +kernel
theorem d_MD_state_107 : decode b_MD_state 107 = .ok (.lreturn, 1) := by decide +kernel
end
section
/-! decode rows -/
theorem d_LW_deal_0 : decode b_LW_deal 0 = .ok (.aload_n 0, 1) := by decide +kernel
theorem d_LW_deal_1 : decode b_LW_deal 1 = .ok (.iload_n 1, 1) := by decide +kernel
theorem d_LW_deal_2 : decode b_LW_deal 2 = .ok (.iload_n 2, 1) := by decide +kernel
theorem d_LW_deal_3 : decode b_LW_deal 3 = .ok (.iload_n 3, 1) := by decide +kernel
theorem d_LW_deal_4 : decode b_LW_deal 4 = .ok (.iload 4, 2) := by decide +kernel
theorem d_LW_deal_6 : decode b_LW_deal 6 = .ok (.iload 5, 2) := by decide +kernel
theorem d_LW_deal_8 : decode b_LW_deal 8 = .ok (.invokevirtual 7, 3) := by decide +kernel
theorem d_LW_deal_11 : decode b_LW_deal 11 = .ok (.goto 7, 3) := by decide +kernel
theorem d_LW_deal_14 : decode b_LW_deal 14 = .ok (.astore 6, 2) := by decide +kernel
theorem d_LW_deal_16 : decode b_LW_deal 16 = .ok (.iconst 1, 1) := by decide +kernel
theorem d_LW_deal_17 : decode b_LW_deal 17 = .ok (.ireturn, 1) := by decide +kernel
theorem d_LW_deal_18 : decode b_LW_deal 18 = .ok (.iconst 0, 1) := by decide +kernel
theorem d_LW_deal_19 : decode b_LW_deal 19 = .ok (.ireturn, 1) := by decide +kernel
theorem d_LW_put_0 : decode b_LW_put 0 = .ok (.aload_n 3, 1) := by decide +kernel
theorem d_LW_put_1 : decode b_LW_put 1 = .ok (.iconst 0, 1) := by decide +kernel
theorem d_LW_put_2 : decode b_LW_put 2 = .ok (.aload_n 0, 1) := by decide +kernel
theorem d_LW_put_3 : decode b_LW_put 3 = .ok (.iload_n 1, 1) := by decide +kernel
theorem d_LW_put_4 : decode b_LW_put 4 = .ok (.iload_n 2, 1) := by decide +kernel
theorem d_LW_put_5 : decode b_LW_put 5 = .ok (.invokevirtual 15, 3) := by decide +kernel
theorem d_LW_put_8 : decode b_LW_put 8 = .ok (.i2l, 1) := by decide +kernel
theorem d_LW_put_9 : decode b_LW_put 9 = .ok (.lastore, 1) := by decide +kernel
theorem d_LW_put_10 : decode b_LW_put 10 = .ok (.goto 7, 3) := by decide +kernel
theorem d_LW_put_13 : decode b_LW_put 13 = .ok (.astore 4, 2) := by decide +kernel
theorem d_LW_put_15 : decode b_LW_put 15 = .ok (.iconst 1, 1) := by decide +kernel
theorem d_LW_put_16 : decode b_LW_put 16 = .ok (.ireturn, 1) := by decide +kernel
theorem d_LW_put_17 : decode b_LW_put 17 = .ok (.iconst 0, 1) := by decide +kernel
theorem d_LW_put_18 : decode b_LW_put 18 = .ok (.ireturn, 1) := by decide +kernel
theorem d_LW_motion_0 : decode b_LW_motion 0 = .ok (.aload_n 1, 1) := by decide +kernel
theorem d_LW_motion_1 : decode b_LW_motion 1 = .ok (.iconst 0, 1) := by decide +kernel
theorem d_LW_motion_2 : decode b_LW_motion 2 = .ok (.aload_n 0, 1) := by decide +kernel
theorem d_LW_motion_3 : decode b_LW_motion 3 = .ok (.invokevirtual 19, 3) := by decide +kernel
theorem d_LW_motion_6 : decode b_LW_motion 6 = .ok (.i2l, 1) := by decide +kernel
theorem d_LW_motion_7 : decode b_LW_motion 7 = .ok (.lastore, 1) := by decide +kernel
theorem d_LW_motion_8 : decode b_LW_motion 8 = .ok (.goto 6, 3) := by decide +kernel
theorem d_LW_motion_11 : decode b_LW_motion 11 = .ok (.astore_n 2, 1) := by decide +kernel
theorem d_LW_motion_12 : decode b_LW_motion 12 = .ok (.iconst 1, 1) := by decide +kernel
theorem d_LW_motion_13 : decode b_LW_motion 13 = .ok (.ireturn, 1) := by decide +kernel
theorem d_LW_motion_14 : decode b_LW_motion 14 = .ok (.iconst 0, 1) := by decide +kernel
theorem d_LW_motion_15 : decode b_LW_motion 15 = .ok (.ireturn, 1) := by decide +kernel
theorem d_LW_consent_0 : decode b_LW_consent 0 = .ok (.aload_n 0, 1) := by decide +kernel
theorem d_LW_consent_1 : decode b_LW_consent 1 = .ok (.iload_n 1, 1) := by decide +kernel
theorem d_LW_consent_2 : decode b_LW_consent 2 = .ok (.iload_n 2, 1) := by decide +kernel
theorem d_LW_consent_3 : decode b_LW_consent 3 = .ok (.invokevirtual 25, 3) := by decide +kernel
theorem d_LW_consent_6 : decode b_LW_consent 6 = .ok (.goto 9, 3) := by decide +kernel
theorem d_LW_consent_9 : decode b_LW_consent 9 = .ok (.astore_n 3, 1) := by decide +kernel
theorem d_LW_consent_10 : decode b_LW_consent 10 = .ok (.iconst 1, 1) := by decide +kernel
theorem d_LW_consent_11 : decode b_LW_consent 11 = .ok (.ireturn, 1) := by decide +kernel
theorem d_LW_consent_12 : decode b_LW_consent 12 = .ok (.astore_n 3, 1) := by decide +kernel
theorem d_LW_consent_13 : decode b_LW_consent 13 = .ok (.iconst 2, 1) := by decide +kernel
theorem d_LW_consent_14 : decode b_LW_consent 14 = .ok (.ireturn, 1) := by decide +kernel
theorem d_LW_consent_15 : decode b_LW_consent 15 = .ok (.iconst 0, 1) := by decide +kernel
theorem d_LW_consent_16 : decode b_LW_consent 16 = .ok (.ireturn, 1) := by decide +kernel
theorem d_LW_object_0 : decode b_LW_object 0 = .ok (.aload_n 0, 1) := by decide +kernel
theorem d_LW_object_1 : decode b_LW_object 1 = .ok (.iload_n 1, 1) := by decide +kernel
theorem d_LW_object_2 : decode b_LW_object 2 = .ok (.iload_n 2, 1) := by decide +kernel
theorem d_LW_object_3 : decode b_LW_object 3 = .ok (.invokevirtual 31, 3) := by decide +kernel
theorem d_LW_object_6 : decode b_LW_object 6 = .ok (.goto 9, 3) := by decide +kernel
theorem d_LW_object_9 : decode b_LW_object 9 = .ok (.astore_n 3, 1) := by decide +kernel
theorem d_LW_object_10 : decode b_LW_object 10 = .ok (.iconst 1, 1) := by decide +kernel
theorem d_LW_object_11 : decode b_LW_object 11 = .ok (.ireturn, 1) := by decide +kernel
theorem d_LW_object_12 : decode b_LW_object 12 = .ok (.astore_n 3, 1) := by decide +kernel
theorem d_LW_object_13 : decode b_LW_object 13 = .ok (.iconst 2, 1) := by decide +kernel
theorem d_LW_object_14 : decode b_LW_object 14 = .ok (.ireturn, 1) := by decide +kernel
theorem d_LW_object_15 : decode b_LW_object 15 = .ok (.iconst 0, 1) := by decide +kernel
theorem d_LW_object_16 : decode b_LW_object 16 = .ok (.ireturn, 1) := by decide +kernel
theorem d_LW_file_0 : decode b_LW_file 0 = .ok (.aload_n 0, 1) := by decide +kernel
theorem d_LW_file_1 : decode b_LW_file 1 = .ok (.iload_n 1, 1) := by decide +kernel
theorem d_LW_file_2 : decode b_LW_file 2 = .ok (.iload_n 2, 1) := by decide +kernel
theorem d_LW_file_3 : decode b_LW_file 3 = .ok (.lload_n 3, 1) := by decide +kernel
theorem d_LW_file_4 : decode b_LW_file 4 = .ok (.iload 5, 2) := by decide +kernel
theorem d_LW_file_6 : decode b_LW_file 6 = .ok (.lload 6, 2) := by decide +kernel
theorem d_LW_file_8 : decode b_LW_file 8 = .ok (.invokevirtual 34, 3) := by decide +kernel
theorem d_LW_file_11 : decode b_LW_file 11 = .ok (.goto 11, 3) := by decide +kernel
theorem d_LW_file_14 : decode b_LW_file 14 = .ok (.astore 8, 2) := by decide +kernel
theorem d_LW_file_16 : decode b_LW_file 16 = .ok (.iconst 1, 1) := by decide +kernel
theorem d_LW_file_17 : decode b_LW_file 17 = .ok (.ireturn, 1) := by decide +kernel
theorem d_LW_file_18 : decode b_LW_file 18 = .ok (.astore 8, 2) := by decide +kernel
theorem d_LW_file_20 : decode b_LW_file 20 = .ok (.iconst 2, 1) := by decide +kernel
theorem d_LW_file_21 : decode b_LW_file 21 = .ok (.ireturn, 1) := by decide +kernel
theorem d_LW_file_22 : decode b_LW_file 22 = .ok (.iconst 0, 1) := by decide +kernel
theorem d_LW_file_23 : decode b_LW_file 23 = .ok (.ireturn, 1) := by decide +kernel
theorem d_LW_partial_0 : decode b_LW_partial 0 = .ok (.aload 4, 2) := by decide +kernel
theorem d_LW_partial_2 : decode b_LW_partial 2 = .ok (.iconst 0, 1) := by decide +kernel
theorem d_LW_partial_3 : decode b_LW_partial 3 = .ok (.aload_n 0, 1) := by decide +kernel
theorem d_LW_partial_4 : decode b_LW_partial 4 = .ok (.iload_n 1, 1) := by decide +kernel
theorem d_LW_partial_5 : decode b_LW_partial 5 = .ok (.iload_n 2, 1) := by decide +kernel
theorem d_LW_partial_6 : decode b_LW_partial 6 = .ok (.iload_n 3, 1) := by decide +kernel
theorem d_LW_partial_7 : decode b_LW_partial 7 = .ok (.invokevirtual 38, 3) := by decide +kernel
theorem d_LW_partial_10 : decode b_LW_partial 10 = .ok (.lastore, 1) := by decide +kernel
theorem d_LW_partial_11 : decode b_LW_partial 11 = .ok (.goto 11, 3) := by decide +kernel
theorem d_LW_partial_14 : decode b_LW_partial 14 = .ok (.astore 5, 2) := by decide +kernel
theorem d_LW_partial_16 : decode b_LW_partial 16 = .ok (.iconst 1, 1) := by decide +kernel
theorem d_LW_partial_17 : decode b_LW_partial 17 = .ok (.ireturn, 1) := by decide +kernel
theorem d_LW_partial_18 : decode b_LW_partial 18 = .ok (.astore 5, 2) := by decide +kernel
theorem d_LW_partial_20 : decode b_LW_partial 20 = .ok (.iconst 2, 1) := by decide +kernel
theorem d_LW_partial_21 : decode b_LW_partial 21 = .ok (.ireturn, 1) := by decide +kernel
theorem d_LW_partial_22 : decode b_LW_partial 22 = .ok (.iconst 0, 1) := by decide +kernel
theorem d_LW_partial_23 : decode b_LW_partial 23 = .ok (.ireturn, 1) := by decide +kernel
theorem d_LW_bad_0 : decode b_LW_bad 0 = .ok (.aload_n 2, 1) := by decide +kernel
theorem d_LW_bad_1 : decode b_LW_bad 1 = .ok (.iconst 0, 1) := by decide +kernel
theorem d_LW_bad_2 : decode b_LW_bad 2 = .ok (.aload_n 0, 1) := by decide +kernel
theorem d_LW_bad_3 : decode b_LW_bad 3 = .ok (.iload_n 1, 1) := by decide +kernel
theorem d_LW_bad_4 : decode b_LW_bad 4 = .ok (.invokevirtual 42, 3) := by decide +kernel
theorem d_LW_bad_7 : decode b_LW_bad 7 = .ok (.i2l, 1) := by decide +kernel
theorem d_LW_bad_8 : decode b_LW_bad 8 = .ok (.lastore, 1) := by decide +kernel
theorem d_LW_bad_9 : decode b_LW_bad 9 = .ok (.goto 6, 3) := by decide +kernel
theorem d_LW_bad_12 : decode b_LW_bad 12 = .ok (.astore_n 3, 1) := by decide +kernel
theorem d_LW_bad_13 : decode b_LW_bad 13 = .ok (.iconst 1, 1) := by decide +kernel
theorem d_LW_bad_14 : decode b_LW_bad 14 = .ok (.ireturn, 1) := by decide +kernel
theorem d_LW_bad_15 : decode b_LW_bad 15 = .ok (.iconst 0, 1) := by decide +kernel
theorem d_LW_bad_16 : decode b_LW_bad 16 = .ok (.ireturn, 1) := by decide +kernel
theorem d_LW_join_0 : decode b_LW_join 0 = .ok (.aload_n 2, 1) := by decide +kernel
theorem d_LW_join_1 : decode b_LW_join 1 = .ok (.iconst 0, 1) := by decide +kernel
theorem d_LW_join_2 : decode b_LW_join 2 = .ok (.aload_n 0, 1) := by decide +kernel
theorem d_LW_join_3 : decode b_LW_join 3 = .ok (.iload_n 1, 1) := by decide +kernel
theorem d_LW_join_4 : decode b_LW_join 4 = .ok (.invokevirtual 46, 3) := by decide +kernel
theorem d_LW_join_7 : decode b_LW_join 7 = .ok (.lastore, 1) := by decide +kernel
theorem d_LW_join_8 : decode b_LW_join 8 = .ok (.goto 12, 3) := by decide +kernel
theorem d_LW_join_11 : decode b_LW_join 11 = .ok (.astore_n 3, 1) := by decide +kernel
theorem d_LW_join_12 : decode b_LW_join 12 = .ok (.iconst 1, 1) := by decide +kernel
theorem d_LW_join_13 : decode b_LW_join 13 = .ok (.ireturn, 1) := by decide +kernel
theorem d_LW_join_14 : decode b_LW_join 14 = .ok (.astore_n 3, 1) := by decide +kernel
theorem d_LW_join_15 : decode b_LW_join 15 = .ok (.iconst 2, 1) := by decide +kernel
theorem d_LW_join_16 : decode b_LW_join 16 = .ok (.ireturn, 1) := by decide +kernel
theorem d_LW_join_17 : decode b_LW_join 17 = .ok (.astore_n 3, 1) := by decide +kernel
theorem d_LW_join_18 : decode b_LW_join 18 = .ok (.iconst 3, 1) := by decide +kernel
theorem d_LW_join_19 : decode b_LW_join 19 = .ok (.ireturn, 1) := by decide +kernel
theorem d_LW_join_20 : decode b_LW_join 20 = .ok (.iconst 0, 1) := by decide +kernel
theorem d_LW_join_21 : decode b_LW_join 21 = .ok (.ireturn, 1) := by decide +kernel
theorem d_LW_verify_0 : decode b_LW_verify 0 = .ok (.aload_n 3, 1) := by decide +kernel
theorem d_LW_verify_1 : decode b_LW_verify 1 = .ok (.iconst 0, 1) := by decide +kernel
theorem d_LW_verify_2 : decode b_LW_verify 2 = .ok (.aload_n 0, 1) := by decide +kernel
theorem d_LW_verify_3 : decode b_LW_verify 3 = .ok (.lload_n 1, 1) := by decide +kernel
theorem d_LW_verify_4 : decode b_LW_verify 4 = .ok (.invokevirtual 52, 3) := by decide +kernel
theorem d_LW_verify_7 : decode b_LW_verify 7 = .ok (.ifCond .eq 7, 3) := by decide +kernel
theorem d_LW_verify_10 : decode b_LW_verify 10 = .ok (.lconst 1, 1) := by decide +kernel
theorem d_LW_verify_11 : decode b_LW_verify 11 = .ok (.goto 4, 3) := by decide +kernel
theorem d_LW_verify_14 : decode b_LW_verify 14 = .ok (.lconst 0, 1) := by decide +kernel
theorem d_LW_verify_15 : decode b_LW_verify 15 = .ok (.lastore, 1) := by decide +kernel
theorem d_LW_verify_16 : decode b_LW_verify 16 = .ok (.goto 7, 3) := by decide +kernel
theorem d_LW_verify_19 : decode b_LW_verify 19 = .ok (.astore 4, 2) := by decide +kernel
theorem d_LW_verify_21 : decode b_LW_verify 21 = .ok (.iconst 1, 1) := by decide +kernel
theorem d_LW_verify_22 : decode b_LW_verify 22 = .ok (.ireturn, 1) := by decide +kernel
theorem d_LW_verify_23 : decode b_LW_verify 23 = .ok (.iconst 0, 1) := by decide +kernel
theorem d_LW_verify_24 : decode b_LW_verify 24 = .ok (.ireturn, 1) := by decide +kernel
theorem d_LW_refresh_0 : decode b_LW_refresh 0 = .ok (.aload_n 0, 1) := by decide +kernel
theorem d_LW_refresh_1 : decode b_LW_refresh 1 = .ok (.iload_n 1, 1) := by decide +kernel
theorem d_LW_refresh_2 : decode b_LW_refresh 2 = .ok (.iload_n 2, 1) := by decide +kernel
theorem d_LW_refresh_3 : decode b_LW_refresh 3 = .ok (.invokevirtual 56, 3) := by decide +kernel
theorem d_LW_refresh_6 : decode b_LW_refresh 6 = .ok (.goto 9, 3) := by decide +kernel
theorem d_LW_refresh_9 : decode b_LW_refresh 9 = .ok (.astore_n 3, 1) := by decide +kernel
theorem d_LW_refresh_10 : decode b_LW_refresh 10 = .ok (.iconst 1, 1) := by decide +kernel
theorem d_LW_refresh_11 : decode b_LW_refresh 11 = .ok (.ireturn, 1) := by decide +kernel
theorem d_LW_refresh_12 : decode b_LW_refresh 12 = .ok (.astore_n 3, 1) := by decide +kernel
theorem d_LW_refresh_13 : decode b_LW_refresh 13 = .ok (.iconst 2, 1) := by decide +kernel
theorem d_LW_refresh_14 : decode b_LW_refresh 14 = .ok (.ireturn, 1) := by decide +kernel
theorem d_LW_refresh_15 : decode b_LW_refresh 15 = .ok (.iconst 0, 1) := by decide +kernel
theorem d_LW_refresh_16 : decode b_LW_refresh 16 = .ok (.ireturn, 1) := by decide +kernel
theorem d_LW_suspend_0 : decode b_LW_suspend 0 = .ok (.aload_n 3, 1) := by decide +kernel
theorem d_LW_suspend_1 : decode b_LW_suspend 1 = .ok (.iconst 0, 1) := by decide +kernel
theorem d_LW_suspend_2 : decode b_LW_suspend 2 = .ok (.aload_n 0, 1) := by decide +kernel
theorem d_LW_suspend_3 : decode b_LW_suspend 3 = .ok (.iload_n 1, 1) := by decide +kernel
theorem d_LW_suspend_4 : decode b_LW_suspend 4 = .ok (.iload_n 2, 1) := by decide +kernel
theorem d_LW_suspend_5 : decode b_LW_suspend 5 = .ok (.invokevirtual 59, 3) := by decide +kernel
theorem d_LW_suspend_8 : decode b_LW_suspend 8 = .ok (.ifCond .eq 7, 3) := by decide +kernel
theorem d_LW_suspend_11 : decode b_LW_suspend 11 = .ok (.lconst 1, 1) := by decide +kernel
theorem d_LW_suspend_12 : decode b_LW_suspend 12 = .ok (.goto 4, 3) := by decide +kernel
theorem d_LW_suspend_15 : decode b_LW_suspend 15 = .ok (.lconst 0, 1) := by decide +kernel
theorem d_LW_suspend_16 : decode b_LW_suspend 16 = .ok (.lastore, 1) := by decide +kernel
theorem d_LW_suspend_17 : decode b_LW_suspend 17 = .ok (.goto 11, 3) := by decide +kernel
theorem d_LW_suspend_20 : decode b_LW_suspend 20 = .ok (.astore 4, 2) := by decide +kernel
theorem d_LW_suspend_22 : decode b_LW_suspend 22 = .ok (.iconst 1, 1) := by decide +kernel
theorem d_LW_suspend_23 : decode b_LW_suspend 23 = .ok (.ireturn, 1) := by decide +kernel
theorem d_LW_suspend_24 : decode b_LW_suspend 24 = .ok (.astore 4, 2) := by decide +kernel
theorem d_LW_suspend_26 : decode b_LW_suspend 26 = .ok (.iconst 2, 1) := by decide +kernel
theorem d_LW_suspend_27 : decode b_LW_suspend 27 = .ok (.ireturn, 1) := by decide +kernel
theorem d_LW_suspend_28 : decode b_LW_suspend 28 = .ok (.iconst 0, 1) := by decide +kernel
theorem d_LW_suspend_29 : decode b_LW_suspend 29 = .ok (.ireturn, 1) := by decide +kernel
theorem d_LW_parts_0 : decode b_LW_parts 0 = .ok (.aload_n 2, 1) := by decide +kernel
theorem d_LW_parts_1 : decode b_LW_parts 1 = .ok (.iconst 0, 1) := by decide +kernel
theorem d_LW_parts_2 : decode b_LW_parts 2 = .ok (.aload_n 0, 1) := by decide +kernel
theorem d_LW_parts_3 : decode b_LW_parts 3 = .ok (.iload_n 1, 1) := by decide +kernel
theorem d_LW_parts_4 : decode b_LW_parts 4 = .ok (.invokevirtual 63, 3) := by decide +kernel
theorem d_LW_parts_7 : decode b_LW_parts 7 = .ok (.ifCond .eq 7, 3) := by decide +kernel
theorem d_LW_parts_10 : decode b_LW_parts 10 = .ok (.lconst 1, 1) := by decide +kernel
theorem d_LW_parts_11 : decode b_LW_parts 11 = .ok (.goto 4, 3) := by decide +kernel
theorem d_LW_parts_14 : decode b_LW_parts 14 = .ok (.lconst 0, 1) := by decide +kernel
theorem d_LW_parts_15 : decode b_LW_parts 15 = .ok (.lastore, 1) := by decide +kernel
theorem d_LW_parts_16 : decode b_LW_parts 16 = .ok (.goto 9, 3) := by decide +kernel
theorem d_LW_parts_19 : decode b_LW_parts 19 = .ok (.astore_n 3, 1) := by decide +kernel
theorem d_LW_parts_20 : decode b_LW_parts 20 = .ok (.iconst 1, 1) := by decide +kernel
theorem d_LW_parts_21 : decode b_LW_parts 21 = .ok (.ireturn, 1) := by decide +kernel
theorem d_LW_parts_22 : decode b_LW_parts 22 = .ok (.astore_n 3, 1) := by decide +kernel
theorem d_LW_parts_23 : decode b_LW_parts 23 = .ok (.iconst 2, 1) := by decide +kernel
theorem d_LW_parts_24 : decode b_LW_parts 24 = .ok (.ireturn, 1) := by decide +kernel
theorem d_LW_parts_25 : decode b_LW_parts 25 = .ok (.iconst 0, 1) := by decide +kernel
theorem d_LW_parts_26 : decode b_LW_parts 26 = .ok (.ireturn, 1) := by decide +kernel
theorem d_LW_told_0 : decode b_LW_told 0 = .ok (.aload_n 3, 1) := by decide +kernel
theorem d_LW_told_1 : decode b_LW_told 1 = .ok (.iconst 0, 1) := by decide +kernel
theorem d_LW_told_2 : decode b_LW_told 2 = .ok (.aload_n 0, 1) := by decide +kernel
theorem d_LW_told_3 : decode b_LW_told 3 = .ok (.iload_n 1, 1) := by decide +kernel
theorem d_LW_told_4 : decode b_LW_told 4 = .ok (.iload_n 2, 1) := by decide +kernel
theorem d_LW_told_5 : decode b_LW_told 5 = .ok (.invokevirtual 67, 3) := by decide +kernel
theorem d_LW_told_8 : decode b_LW_told 8 = .ok (.lastore, 1) := by decide +kernel
theorem d_LW_told_9 : decode b_LW_told 9 = .ok (.goto 11, 3) := by decide +kernel
theorem d_LW_told_12 : decode b_LW_told 12 = .ok (.astore 4, 2) := by decide +kernel
theorem d_LW_told_14 : decode b_LW_told 14 = .ok (.iconst 1, 1) := by decide +kernel
theorem d_LW_told_15 : decode b_LW_told 15 = .ok (.ireturn, 1) := by decide +kernel
theorem d_LW_told_16 : decode b_LW_told 16 = .ok (.astore 4, 2) := by decide +kernel
theorem d_LW_told_18 : decode b_LW_told 18 = .ok (.iconst 2, 1) := by decide +kernel
theorem d_LW_told_19 : decode b_LW_told 19 = .ok (.ireturn, 1) := by decide +kernel
theorem d_LW_told_20 : decode b_LW_told 20 = .ok (.iconst 0, 1) := by decide +kernel
theorem d_LW_told_21 : decode b_LW_told 21 = .ok (.ireturn, 1) := by decide +kernel
theorem d_LW_book_0 : decode b_LW_book 0 = .ok (.aload_n 2, 1) := by decide +kernel
theorem d_LW_book_1 : decode b_LW_book 1 = .ok (.iconst 0, 1) := by decide +kernel
theorem d_LW_book_2 : decode b_LW_book 2 = .ok (.aload_n 0, 1) := by decide +kernel
theorem d_LW_book_3 : decode b_LW_book 3 = .ok (.iload_n 1, 1) := by decide +kernel
theorem d_LW_book_4 : decode b_LW_book 4 = .ok (.invokevirtual 71, 3) := by decide +kernel
theorem d_LW_book_7 : decode b_LW_book 7 = .ok (.i2l, 1) := by decide +kernel
theorem d_LW_book_8 : decode b_LW_book 8 = .ok (.lastore, 1) := by decide +kernel
theorem d_LW_book_9 : decode b_LW_book 9 = .ok (.goto 6, 3) := by decide +kernel
theorem d_LW_book_12 : decode b_LW_book 12 = .ok (.astore_n 3, 1) := by decide +kernel
theorem d_LW_book_13 : decode b_LW_book 13 = .ok (.iconst 1, 1) := by decide +kernel
theorem d_LW_book_14 : decode b_LW_book 14 = .ok (.ireturn, 1) := by decide +kernel
theorem d_LW_book_15 : decode b_LW_book 15 = .ok (.iconst 0, 1) := by decide +kernel
theorem d_LW_book_16 : decode b_LW_book 16 = .ok (.ireturn, 1) := by decide +kernel
theorem d_LW_state_0 : decode b_LW_state 0 = .ok (.aload_n 2, 1) := by decide +kernel
theorem d_LW_state_1 : decode b_LW_state 1 = .ok (.iconst 0, 1) := by decide +kernel
theorem d_LW_state_2 : decode b_LW_state 2 = .ok (.aload_n 0, 1) := by decide +kernel
theorem d_LW_state_3 : decode b_LW_state 3 = .ok (.iload_n 1, 1) := by decide +kernel
theorem d_LW_state_4 : decode b_LW_state 4 = .ok (.invokevirtual 74, 3) := by decide +kernel
theorem d_LW_state_7 : decode b_LW_state 7 = .ok (.lastore, 1) := by decide +kernel
theorem d_LW_state_8 : decode b_LW_state 8 = .ok (.goto 6, 3) := by decide +kernel
theorem d_LW_state_11 : decode b_LW_state 11 = .ok (.astore_n 3, 1) := by decide +kernel
theorem d_LW_state_12 : decode b_LW_state 12 = .ok (.iconst 1, 1) := by decide +kernel
theorem d_LW_state_13 : decode b_LW_state 13 = .ok (.ireturn, 1) := by decide +kernel
theorem d_LW_state_14 : decode b_LW_state 14 = .ok (.iconst 0, 1) := by decide +kernel
theorem d_LW_state_15 : decode b_LW_state 15 = .ok (.ireturn, 1) := by decide +kernel
theorem d_LW_law_0 : decode b_LW_law 0 = .ok (.new 8, 3) := by decide +kernel
theorem d_LW_law_3 : decode b_LW_law 3 = .ok (.dup, 1) := by decide +kernel
theorem d_LW_law_4 : decode b_LW_law 4 = .ok (.invokespecial 77, 3) := by decide +kernel
theorem d_LW_law_7 : decode b_LW_law 7 = .ok (.astore_n 1, 1) := by decide +kernel
theorem d_LW_law_8 : decode b_LW_law 8 = .ok (.new 78, 3) := by decide +kernel
theorem d_LW_law_11 : decode b_LW_law 11 = .ok (.dup, 1) := by decide +kernel
theorem d_LW_law_12 : decode b_LW_law 12 = .ok (.invokespecial 80, 3) := by decide +kernel
theorem d_LW_law_15 : decode b_LW_law 15 = .ok (.astore_n 2, 1) := by decide +kernel
theorem d_LW_law_16 : decode b_LW_law 16 = .ok (.iconst 1, 1) := by decide +kernel
theorem d_LW_law_17 : decode b_LW_law 17 = .ok (.newarray .long, 2) := by decide +kernel
theorem d_LW_law_19 : decode b_LW_law 19 = .ok (.astore_n 3, 1) := by decide +kernel
theorem d_LW_law_20 : decode b_LW_law 20 = .ok (.iconst 0, 1) := by decide +kernel
theorem d_LW_law_21 : decode b_LW_law 21 = .ok (.istore 4, 2) := by decide +kernel
theorem d_LW_law_23 : decode b_LW_law 23 = .ok (.iload 4, 2) := by decide +kernel
theorem d_LW_law_25 : decode b_LW_law 25 = .ok (.aload_n 0, 1) := by decide +kernel
theorem d_LW_law_26 : decode b_LW_law 26 = .ok (.arraylength, 1) := by decide +kernel
theorem d_LW_law_27 : decode b_LW_law 27 = .ok (.bipush 8, 2) := by decide +kernel
theorem d_LW_law_29 : decode b_LW_law 29 = .ok (.isub, 1) := by decide +kernel
theorem d_LW_law_30 : decode b_LW_law 30 = .ok (.if_icmp .gt 1205, 3) := by decide +kernel
theorem d_LW_law_33 : decode b_LW_law 33 = .ok (.aload_n 0, 1) := by decide +kernel
theorem d_LW_law_34 : decode b_LW_law 34 = .ok (.iload 4, 2) := by decide +kernel
theorem d_LW_law_36 : decode b_LW_law 36 = .ok (.iaload, 1) := by decide +kernel
theorem d_LW_law_37 : decode b_LW_law 37 = .ok (.bipush 15, 2) := by decide +kernel
theorem d_LW_law_39 : decode b_LW_law 39 = .ok (.iand, 1) := by decide +kernel
theorem d_LW_law_40 : decode b_LW_law 40 = .ok (.tableswitch 1189 0 15 #[80, 164, 232, 276, 324, 372, 524, 603, 659, 714, 809, 857, 948, 1011, 1078, 1134], 80) := by decide +kernel
theorem d_LW_law_120 : decode b_LW_law 120 = .ok (.aload_n 1, 1) := by decide +kernel
theorem d_LW_law_121 : decode b_LW_law 121 = .ok (.aload_n 0, 1) := by decide +kernel
theorem d_LW_law_122 : decode b_LW_law 122 = .ok (.iload 4, 2) := by decide +kernel
theorem d_LW_law_124 : decode b_LW_law 124 = .ok (.iconst 1, 1) := by decide +kernel
theorem d_LW_law_125 : decode b_LW_law 125 = .ok (.iadd, 1) := by decide +kernel
theorem d_LW_law_126 : decode b_LW_law 126 = .ok (.iaload, 1) := by decide +kernel
theorem d_LW_law_127 : decode b_LW_law 127 = .ok (.aload_n 0, 1) := by decide +kernel
theorem d_LW_law_128 : decode b_LW_law 128 = .ok (.iload 4, 2) := by decide +kernel
theorem d_LW_law_130 : decode b_LW_law 130 = .ok (.iconst 2, 1) := by decide +kernel
theorem d_LW_law_131 : decode b_LW_law 131 = .ok (.iadd, 1) := by decide +kernel
theorem d_LW_law_132 : decode b_LW_law 132 = .ok (.iaload, 1) := by decide +kernel
theorem d_LW_law_133 : decode b_LW_law 133 = .ok (.aload_n 0, 1) := by decide +kernel
theorem d_LW_law_134 : decode b_LW_law 134 = .ok (.iload 4, 2) := by decide +kernel
theorem d_LW_law_136 : decode b_LW_law 136 = .ok (.iconst 3, 1) := by decide +kernel
theorem d_LW_law_137 : decode b_LW_law 137 = .ok (.iadd, 1) := by decide +kernel
theorem d_LW_law_138 : decode b_LW_law 138 = .ok (.iaload, 1) := by decide +kernel
theorem d_LW_law_139 : decode b_LW_law 139 = .ok (.aload_n 0, 1) := by decide +kernel
theorem d_LW_law_140 : decode b_LW_law 140 = .ok (.iload 4, 2) := by decide +kernel
theorem d_LW_law_142 : decode b_LW_law 142 = .ok (.iconst 4, 1) := by decide +kernel
theorem d_LW_law_143 : decode b_LW_law 143 = .ok (.iadd, 1) := by decide +kernel
theorem d_LW_law_144 : decode b_LW_law 144 = .ok (.iaload, 1) := by decide +kernel
theorem d_LW_law_145 : decode b_LW_law 145 = .ok (.aload_n 0, 1) := by decide +kernel
theorem d_LW_law_146 : decode b_LW_law 146 = .ok (.iload 4, 2) := by decide +kernel
theorem d_LW_law_148 : decode b_LW_law 148 = .ok (.iconst 5, 1) := by decide +kernel
theorem d_LW_law_149 : decode b_LW_law 149 = .ok (.iadd, 1) := by decide +kernel
theorem d_LW_law_150 : decode b_LW_law 150 = .ok (.iaload, 1) := by decide +kernel
theorem d_LW_law_151 : decode b_LW_law 151 = .ok (.invokestatic 81, 3) := by decide +kernel
theorem d_LW_law_154 : decode b_LW_law 154 = .ok (.istore 5, 2) := by decide +kernel
theorem d_LW_law_156 : decode b_LW_law 156 = .ok (.aload_n 2, 1) := by decide +kernel
theorem d_LW_law_157 : decode b_LW_law 157 = .ok (.aload_n 0, 1) := by decide +kernel
theorem d_LW_law_158 : decode b_LW_law 158 = .ok (.iload 4, 2) := by decide +kernel
theorem d_LW_law_160 : decode b_LW_law 160 = .ok (.iconst 1, 1) := by decide +kernel
theorem d_LW_law_161 : decode b_LW_law 161 = .ok (.iadd, 1) := by decide +kernel
theorem d_LW_law_162 : decode b_LW_law 162 = .ok (.iaload, 1) := by decide +kernel
theorem d_LW_law_163 : decode b_LW_law 163 = .ok (.aload_n 0, 1) := by decide +kernel
theorem d_LW_law_164 : decode b_LW_law 164 = .ok (.iload 4, 2) := by decide +kernel
theorem d_LW_law_166 : decode b_LW_law 166 = .ok (.iconst 2, 1) := by decide +kernel
theorem d_LW_law_167 : decode b_LW_law 167 = .ok (.iadd, 1) := by decide +kernel
theorem d_LW_law_168 : decode b_LW_law 168 = .ok (.iaload, 1) := by decide +kernel
theorem d_LW_law_169 : decode b_LW_law 169 = .ok (.aload_n 0, 1) := by decide +kernel
theorem d_LW_law_170 : decode b_LW_law 170 = .ok (.iload 4, 2) := by decide +kernel
theorem d_LW_law_172 : decode b_LW_law 172 = .ok (.iconst 3, 1) := by decide +kernel
theorem d_LW_law_173 : decode b_LW_law 173 = .ok (.iadd, 1) := by decide +kernel
theorem d_LW_law_174 : decode b_LW_law 174 = .ok (.iaload, 1) := by decide +kernel
theorem d_LW_law_175 : decode b_LW_law 175 = .ok (.aload_n 0, 1) := by decide +kernel
theorem d_LW_law_176 : decode b_LW_law 176 = .ok (.iload 4, 2) := by decide +kernel
theorem d_LW_law_178 : decode b_LW_law 178 = .ok (.iconst 4, 1) := by decide +kernel
theorem d_LW_law_179 : decode b_LW_law 179 = .ok (.iadd, 1) := by decide +kernel
theorem d_LW_law_180 : decode b_LW_law 180 = .ok (.iaload, 1) := by decide +kernel
theorem d_LW_law_181 : decode b_LW_law 181 = .ok (.aload_n 0, 1) := by decide +kernel
theorem d_LW_law_182 : decode b_LW_law 182 = .ok (.iload 4, 2) := by decide +kernel
theorem d_LW_law_184 : decode b_LW_law 184 = .ok (.iconst 5, 1) := by decide +kernel
theorem d_LW_law_185 : decode b_LW_law 185 = .ok (.iadd, 1) := by decide +kernel
theorem d_LW_law_186 : decode b_LW_law 186 = .ok (.iaload, 1) := by decide +kernel
theorem d_LW_law_187 : decode b_LW_law 187 = .ok (.invokevirtual 86, 3) := by decide +kernel
theorem d_LW_law_190 : decode b_LW_law 190 = .ok (.aload_n 2, 1) := by decide +kernel
theorem d_LW_law_191 : decode b_LW_law 191 = .ok (.invokevirtual 87, 3) := by decide +kernel
theorem d_LW_law_194 : decode b_LW_law 194 = .ok (.iload 5, 2) := by decide +kernel
theorem d_LW_law_196 : decode b_LW_law 196 = .ok (.if_icmp .eq 5, 3) := by decide +kernel
theorem d_LW_law_199 : decode b_LW_law 199 = .ok (.iconst 0, 1) := by decide +kernel
theorem d_LW_law_200 : decode b_LW_law 200 = .ok (.ireturn, 1) := by decide +kernel
theorem d_LW_law_201 : decode b_LW_law 201 = .ok (.goto 1028, 3) := by decide +kernel
theorem d_LW_law_204 : decode b_LW_law 204 = .ok (.aload_n 1, 1) := by decide +kernel
theorem d_LW_law_205 : decode b_LW_law 205 = .ok (.aload_n 0, 1) := by decide +kernel
theorem d_LW_law_206 : decode b_LW_law 206 = .ok (.iload 4, 2) := by decide +kernel
theorem d_LW_law_208 : decode b_LW_law 208 = .ok (.iconst 1, 1) := by decide +kernel
theorem d_LW_law_209 : decode b_LW_law 209 = .ok (.iadd, 1) := by decide +kernel
theorem d_LW_law_210 : decode b_LW_law 210 = .ok (.iaload, 1) := by decide +kernel
theorem d_LW_law_211 : decode b_LW_law 211 = .ok (.aload_n 0, 1) := by decide +kernel
theorem d_LW_law_212 : decode b_LW_law 212 = .ok (.iload 4, 2) := by decide +kernel
theorem d_LW_law_214 : decode b_LW_law 214 = .ok (.iconst 2, 1) := by decide +kernel
theorem d_LW_law_215 : decode b_LW_law 215 = .ok (.iadd, 1) := by decide +kernel
theorem d_LW_law_216 : decode b_LW_law 216 = .ok (.iaload, 1) := by decide +kernel
theorem d_LW_law_217 : decode b_LW_law 217 = .ok (.aload_n 3, 1) := by decide +kernel
theorem d_LW_law_218 : decode b_LW_law 218 = .ok (.invokestatic 90, 3) := by decide +kernel
theorem d_LW_law_221 : decode b_LW_law 221 = .ok (.istore 5, 2) := by decide +kernel
theorem d_LW_law_223 : decode b_LW_law 223 = .ok (.aload_n 2, 1) := by decide +kernel
theorem d_LW_law_224 : decode b_LW_law 224 = .ok (.aload_n 0, 1) := by decide +kernel
theorem d_LW_law_225 : decode b_LW_law 225 = .ok (.iload 4, 2) := by decide +kernel
theorem d_LW_law_227 : decode b_LW_law 227 = .ok (.iconst 1, 1) := by decide +kernel
theorem d_LW_law_228 : decode b_LW_law 228 = .ok (.iadd, 1) := by decide +kernel
theorem d_LW_law_229 : decode b_LW_law 229 = .ok (.iaload, 1) := by decide +kernel
theorem d_LW_law_230 : decode b_LW_law 230 = .ok (.aload_n 0, 1) := by decide +kernel
theorem d_LW_law_231 : decode b_LW_law 231 = .ok (.iload 4, 2) := by decide +kernel
theorem d_LW_law_233 : decode b_LW_law 233 = .ok (.iconst 2, 1) := by decide +kernel
theorem d_LW_law_234 : decode b_LW_law 234 = .ok (.iadd, 1) := by decide +kernel
theorem d_LW_law_235 : decode b_LW_law 235 = .ok (.iaload, 1) := by decide +kernel
theorem d_LW_law_236 : decode b_LW_law 236 = .ok (.invokevirtual 93, 3) := by decide +kernel
theorem d_LW_law_239 : decode b_LW_law 239 = .ok (.istore 6, 2) := by decide +kernel
theorem d_LW_law_241 : decode b_LW_law 241 = .ok (.aload_n 2, 1) := by decide +kernel
theorem d_LW_law_242 : decode b_LW_law 242 = .ok (.invokevirtual 87, 3) := by decide +kernel
theorem d_LW_law_245 : decode b_LW_law 245 = .ok (.iload 5, 2) := by decide +kernel
theorem d_LW_law_247 : decode b_LW_law 247 = .ok (.if_icmp .eq 5, 3) := by decide +kernel
theorem d_LW_law_250 : decode b_LW_law 250 = .ok (.iconst 0, 1) := by decide +kernel
theorem d_LW_law_251 : decode b_LW_law 251 = .ok (.ireturn, 1) := by decide +kernel
theorem d_LW_law_252 : decode b_LW_law 252 = .ok (.iload 5, 2) := by decide +kernel
theorem d_LW_law_254 : decode b_LW_law 254 = .ok (.ifCond .ne 15, 3) := by decide +kernel
theorem d_LW_law_257 : decode b_LW_law 257 = .ok (.aload_n 3, 1) := by decide +kernel
theorem d_LW_law_258 : decode b_LW_law 258 = .ok (.iconst 0, 1) := by decide +kernel
theorem d_LW_law_259 : decode b_LW_law 259 = .ok (.laload, 1) := by decide +kernel
theorem d_LW_law_260 : decode b_LW_law 260 = .ok (.iload 6, 2) := by decide +kernel
theorem d_LW_law_262 : decode b_LW_law 262 = .ok (.i2l, 1) := by decide +kernel
theorem d_LW_law_263 : decode b_LW_law 263 = .ok (.lcmp, 1) := by decide +kernel
theorem d_LW_law_264 : decode b_LW_law 264 = .ok (.ifCond .eq 5, 3) := by decide +kernel
theorem d_LW_law_267 : decode b_LW_law 267 = .ok (.iconst 0, 1) := by decide +kernel
theorem d_LW_law_268 : decode b_LW_law 268 = .ok (.ireturn, 1) := by decide +kernel
theorem d_LW_law_269 : decode b_LW_law 269 = .ok (.goto 960, 3) := by decide +kernel
theorem d_LW_law_272 : decode b_LW_law 272 = .ok (.aload_n 1, 1) := by decide +kernel
theorem d_LW_law_273 : decode b_LW_law 273 = .ok (.aload_n 3, 1) := by decide +kernel
theorem d_LW_law_274 : decode b_LW_law 274 = .ok (.invokestatic 94, 3) := by decide +kernel
theorem d_LW_law_277 : decode b_LW_law 277 = .ok (.istore 5, 2) := by decide +kernel
theorem d_LW_law_279 : decode b_LW_law 279 = .ok (.aload_n 2, 1) := by decide +kernel
theorem d_LW_law_280 : decode b_LW_law 280 = .ok (.invokevirtual 97, 3) := by decide +kernel
theorem d_LW_law_283 : decode b_LW_law 283 = .ok (.istore 6, 2) := by decide +kernel
theorem d_LW_law_285 : decode b_LW_law 285 = .ok (.aload_n 2, 1) := by decide +kernel
theorem d_LW_law_286 : decode b_LW_law 286 = .ok (.invokevirtual 87, 3) := by decide +kernel
theorem d_LW_law_289 : decode b_LW_law 289 = .ok (.iload 5, 2) := by decide +kernel
theorem d_LW_law_291 : decode b_LW_law 291 = .ok (.if_icmp .eq 5, 3) := by decide +kernel
theorem d_LW_law_294 : decode b_LW_law 294 = .ok (.iconst 0, 1) := by decide +kernel
theorem d_LW_law_295 : decode b_LW_law 295 = .ok (.ireturn, 1) := by decide +kernel
theorem d_LW_law_296 : decode b_LW_law 296 = .ok (.iload 5, 2) := by decide +kernel
theorem d_LW_law_298 : decode b_LW_law 298 = .ok (.ifCond .ne 15, 3) := by decide +kernel
theorem d_LW_law_301 : decode b_LW_law 301 = .ok (.aload_n 3, 1) := by decide +kernel
theorem d_LW_law_302 : decode b_LW_law 302 = .ok (.iconst 0, 1) := by decide +kernel
theorem d_LW_law_303 : decode b_LW_law 303 = .ok (.laload, 1) := by decide +kernel
theorem d_LW_law_304 : decode b_LW_law 304 = .ok (.iload 6, 2) := by decide +kernel
theorem d_LW_law_306 : decode b_LW_law 306 = .ok (.i2l, 1) := by decide +kernel
theorem d_LW_law_307 : decode b_LW_law 307 = .ok (.lcmp, 1) := by decide +kernel
theorem d_LW_law_308 : decode b_LW_law 308 = .ok (.ifCond .eq 5, 3) := by decide +kernel
theorem d_LW_law_311 : decode b_LW_law 311 = .ok (.iconst 0, 1) := by decide +kernel
theorem d_LW_law_312 : decode b_LW_law 312 = .ok (.ireturn, 1) := by decide +kernel
theorem d_LW_law_313 : decode b_LW_law 313 = .ok (.goto 916, 3) := by decide +kernel
theorem d_LW_law_316 : decode b_LW_law 316 = .ok (.aload_n 1, 1) := by decide +kernel
theorem d_LW_law_317 : decode b_LW_law 317 = .ok (.aload_n 0, 1) := by decide +kernel
theorem d_LW_law_318 : decode b_LW_law 318 = .ok (.iload 4, 2) := by decide +kernel
theorem d_LW_law_320 : decode b_LW_law 320 = .ok (.iconst 1, 1) := by decide +kernel
theorem d_LW_law_321 : decode b_LW_law 321 = .ok (.iadd, 1) := by decide +kernel
theorem d_LW_law_322 : decode b_LW_law 322 = .ok (.iaload, 1) := by decide +kernel
theorem d_LW_law_323 : decode b_LW_law 323 = .ok (.aload_n 0, 1) := by decide +kernel
theorem d_LW_law_324 : decode b_LW_law 324 = .ok (.iload 4, 2) := by decide +kernel
theorem d_LW_law_326 : decode b_LW_law 326 = .ok (.iconst 2, 1) := by decide +kernel
theorem d_LW_law_327 : decode b_LW_law 327 = .ok (.iadd, 1) := by decide +kernel
theorem d_LW_law_328 : decode b_LW_law 328 = .ok (.iaload, 1) := by decide +kernel
theorem d_LW_law_329 : decode b_LW_law 329 = .ok (.invokestatic 98, 3) := by decide +kernel
theorem d_LW_law_332 : decode b_LW_law 332 = .ok (.istore 5, 2) := by decide +kernel
theorem d_LW_law_334 : decode b_LW_law 334 = .ok (.aload_n 2, 1) := by decide +kernel
theorem d_LW_law_335 : decode b_LW_law 335 = .ok (.aload_n 0, 1) := by decide +kernel
theorem d_LW_law_336 : decode b_LW_law 336 = .ok (.iload 4, 2) := by decide +kernel
theorem d_LW_law_338 : decode b_LW_law 338 = .ok (.iconst 1, 1) := by decide +kernel
theorem d_LW_law_339 : decode b_LW_law 339 = .ok (.iadd, 1) := by decide +kernel
theorem d_LW_law_340 : decode b_LW_law 340 = .ok (.iaload, 1) := by decide +kernel
theorem d_LW_law_341 : decode b_LW_law 341 = .ok (.aload_n 0, 1) := by decide +kernel
theorem d_LW_law_342 : decode b_LW_law 342 = .ok (.iload 4, 2) := by decide +kernel
theorem d_LW_law_344 : decode b_LW_law 344 = .ok (.iconst 2, 1) := by decide +kernel
theorem d_LW_law_345 : decode b_LW_law 345 = .ok (.iadd, 1) := by decide +kernel
theorem d_LW_law_346 : decode b_LW_law 346 = .ok (.iaload, 1) := by decide +kernel
theorem d_LW_law_347 : decode b_LW_law 347 = .ok (.invokevirtual 101, 3) := by decide +kernel
theorem d_LW_law_350 : decode b_LW_law 350 = .ok (.aload_n 2, 1) := by decide +kernel
theorem d_LW_law_351 : decode b_LW_law 351 = .ok (.invokevirtual 87, 3) := by decide +kernel
theorem d_LW_law_354 : decode b_LW_law 354 = .ok (.iload 5, 2) := by decide +kernel
theorem d_LW_law_356 : decode b_LW_law 356 = .ok (.if_icmp .eq 5, 3) := by decide +kernel
theorem d_LW_law_359 : decode b_LW_law 359 = .ok (.iconst 0, 1) := by decide +kernel
theorem d_LW_law_360 : decode b_LW_law 360 = .ok (.ireturn, 1) := by decide +kernel
theorem d_LW_law_361 : decode b_LW_law 361 = .ok (.goto 868, 3) := by decide +kernel
theorem d_LW_law_364 : decode b_LW_law 364 = .ok (.aload_n 1, 1) := by decide +kernel
theorem d_LW_law_365 : decode b_LW_law 365 = .ok (.aload_n 0, 1) := by decide +kernel
theorem d_LW_law_366 : decode b_LW_law 366 = .ok (.iload 4, 2) := by decide +kernel
theorem d_LW_law_368 : decode b_LW_law 368 = .ok (.iconst 1, 1) := by decide +kernel
theorem d_LW_law_369 : decode b_LW_law 369 = .ok (.iadd, 1) := by decide +kernel
theorem d_LW_law_370 : decode b_LW_law 370 = .ok (.iaload, 1) := by decide +kernel
theorem d_LW_law_371 : decode b_LW_law 371 = .ok (.aload_n 0, 1) := by decide +kernel
theorem d_LW_law_372 : decode b_LW_law 372 = .ok (.iload 4, 2) := by decide +kernel
theorem d_LW_law_374 : decode b_LW_law 374 = .ok (.iconst 2, 1) := by decide +kernel
theorem d_LW_law_375 : decode b_LW_law 375 = .ok (.iadd, 1) := by decide +kernel
theorem d_LW_law_376 : decode b_LW_law 376 = .ok (.iaload, 1) := by decide +kernel
theorem d_LW_law_377 : decode b_LW_law 377 = .ok (.invokestatic 102, 3) := by decide +kernel
theorem d_LW_law_380 : decode b_LW_law 380 = .ok (.istore 5, 2) := by decide +kernel
theorem d_LW_law_382 : decode b_LW_law 382 = .ok (.aload_n 2, 1) := by decide +kernel
theorem d_LW_law_383 : decode b_LW_law 383 = .ok (.aload_n 0, 1) := by decide +kernel
theorem d_LW_law_384 : decode b_LW_law 384 = .ok (.iload 4, 2) := by decide +kernel
theorem d_LW_law_386 : decode b_LW_law 386 = .ok (.iconst 1, 1) := by decide +kernel
theorem d_LW_law_387 : decode b_LW_law 387 = .ok (.iadd, 1) := by decide +kernel
theorem d_LW_law_388 : decode b_LW_law 388 = .ok (.iaload, 1) := by decide +kernel
theorem d_LW_law_389 : decode b_LW_law 389 = .ok (.aload_n 0, 1) := by decide +kernel
theorem d_LW_law_390 : decode b_LW_law 390 = .ok (.iload 4, 2) := by decide +kernel
theorem d_LW_law_392 : decode b_LW_law 392 = .ok (.iconst 2, 1) := by decide +kernel
theorem d_LW_law_393 : decode b_LW_law 393 = .ok (.iadd, 1) := by decide +kernel
theorem d_LW_law_394 : decode b_LW_law 394 = .ok (.iaload, 1) := by decide +kernel
theorem d_LW_law_395 : decode b_LW_law 395 = .ok (.invokevirtual 104, 3) := by decide +kernel
theorem d_LW_law_398 : decode b_LW_law 398 = .ok (.aload_n 2, 1) := by decide +kernel
theorem d_LW_law_399 : decode b_LW_law 399 = .ok (.invokevirtual 87, 3) := by decide +kernel
theorem d_LW_law_402 : decode b_LW_law 402 = .ok (.iload 5, 2) := by decide +kernel
theorem d_LW_law_404 : decode b_LW_law 404 = .ok (.if_icmp .eq 5, 3) := by decide +kernel
theorem d_LW_law_407 : decode b_LW_law 407 = .ok (.iconst 0, 1) := by decide +kernel
theorem d_LW_law_408 : decode b_LW_law 408 = .ok (.ireturn, 1) := by decide +kernel
theorem d_LW_law_409 : decode b_LW_law 409 = .ok (.goto 820, 3) := by decide +kernel
theorem d_LW_law_412 : decode b_LW_law 412 = .ok (.aload_n 1, 1) := by decide +kernel
theorem d_LW_law_413 : decode b_LW_law 413 = .ok (.aload_n 0, 1) := by decide +kernel
theorem d_LW_law_414 : decode b_LW_law 414 = .ok (.iload 4, 2) := by decide +kernel
theorem d_LW_law_416 : decode b_LW_law 416 = .ok (.iconst 1, 1) := by decide +kernel
theorem d_LW_law_417 : decode b_LW_law 417 = .ok (.iadd, 1) := by decide +kernel
theorem d_LW_law_418 : decode b_LW_law 418 = .ok (.iaload, 1) := by decide +kernel
theorem d_LW_law_419 : decode b_LW_law 419 = .ok (.aload_n 0, 1) := by decide +kernel
theorem d_LW_law_420 : decode b_LW_law 420 = .ok (.iload 4, 2) := by decide +kernel
theorem d_LW_law_422 : decode b_LW_law 422 = .ok (.iconst 2, 1) := by decide +kernel
theorem d_LW_law_423 : decode b_LW_law 423 = .ok (.iadd, 1) := by decide +kernel
theorem d_LW_law_424 : decode b_LW_law 424 = .ok (.iaload, 1) := by decide +kernel
theorem d_LW_law_425 : decode b_LW_law 425 = .ok (.aload_n 0, 1) := by decide +kernel
theorem d_LW_law_426 : decode b_LW_law 426 = .ok (.iload 4, 2) := by decide +kernel
theorem d_LW_law_428 : decode b_LW_law 428 = .ok (.iconst 3, 1) := by decide +kernel
theorem d_LW_law_429 : decode b_LW_law 429 = .ok (.iadd, 1) := by decide +kernel
theorem d_LW_law_430 : decode b_LW_law 430 = .ok (.iaload, 1) := by decide +kernel
theorem d_LW_law_431 : decode b_LW_law 431 = .ok (.i2l, 1) := by decide +kernel
theorem d_LW_law_432 : decode b_LW_law 432 = .ok (.bipush 32, 2) := by decide +kernel
theorem d_LW_law_434 : decode b_LW_law 434 = .ok (.lshl, 1) := by decide +kernel
theorem d_LW_law_435 : decode b_LW_law 435 = .ok (.aload_n 0, 1) := by decide +kernel
theorem d_LW_law_436 : decode b_LW_law 436 = .ok (.iload 4, 2) := by decide +kernel
theorem d_LW_law_438 : decode b_LW_law 438 = .ok (.iconst 4, 1) := by decide +kernel
theorem d_LW_law_439 : decode b_LW_law 439 = .ok (.iadd, 1) := by decide +kernel
theorem d_LW_law_440 : decode b_LW_law 440 = .ok (.iaload, 1) := by decide +kernel
theorem d_LW_law_441 : decode b_LW_law 441 = .ok (.i2l, 1) := by decide +kernel
theorem d_LW_law_442 : decode b_LW_law 442 = .ok (.ldc2_w 105, 3) := by decide +kernel
theorem d_LW_law_445 : decode b_LW_law 445 = .ok (.land, 1) := by decide +kernel
theorem d_LW_law_446 : decode b_LW_law 446 = .ok (.lor, 1) := by decide +kernel
theorem d_LW_law_447 : decode b_LW_law 447 = .ok (.aload_n 0, 1) := by decide +kernel
theorem d_LW_law_448 : decode b_LW_law 448 = .ok (.iload 4, 2) := by decide +kernel
theorem d_LW_law_450 : decode b_LW_law 450 = .ok (.iconst 5, 1) := by decide +kernel
theorem d_LW_law_451 : decode b_LW_law 451 = .ok (.iadd, 1) := by decide +kernel
theorem d_LW_law_452 : decode b_LW_law 452 = .ok (.iaload, 1) := by decide +kernel
theorem d_LW_law_453 : decode b_LW_law 453 = .ok (.aload_n 0, 1) := by decide +kernel
theorem d_LW_law_454 : decode b_LW_law 454 = .ok (.iload 4, 2) := by decide +kernel
theorem d_LW_law_456 : decode b_LW_law 456 = .ok (.bipush 6, 2) := by decide +kernel
theorem d_LW_law_458 : decode b_LW_law 458 = .ok (.iadd, 1) := by decide +kernel
theorem d_LW_law_459 : decode b_LW_law 459 = .ok (.iaload, 1) := by decide +kernel
theorem d_LW_law_460 : decode b_LW_law 460 = .ok (.i2l, 1) := by decide +kernel
theorem d_LW_law_461 : decode b_LW_law 461 = .ok (.bipush 32, 2) := by decide +kernel
theorem d_LW_law_463 : decode b_LW_law 463 = .ok (.lshl, 1) := by decide +kernel
theorem d_LW_law_464 : decode b_LW_law 464 = .ok (.aload_n 0, 1) := by decide +kernel
theorem d_LW_law_465 : decode b_LW_law 465 = .ok (.iload 4, 2) := by decide +kernel
theorem d_LW_law_467 : decode b_LW_law 467 = .ok (.bipush 7, 2) := by decide +kernel
theorem d_LW_law_469 : decode b_LW_law 469 = .ok (.iadd, 1) := by decide +kernel
theorem d_LW_law_470 : decode b_LW_law 470 = .ok (.iaload, 1) := by decide +kernel
theorem d_LW_law_471 : decode b_LW_law 471 = .ok (.i2l, 1) := by decide +kernel
theorem d_LW_law_472 : decode b_LW_law 472 = .ok (.ldc2_w 105, 3) := by decide +kernel
theorem d_LW_law_475 : decode b_LW_law 475 = .ok (.land, 1) := by decide +kernel
theorem d_LW_law_476 : decode b_LW_law 476 = .ok (.lor, 1) := by decide +kernel
theorem d_LW_law_477 : decode b_LW_law 477 = .ok (.invokestatic 107, 3) := by decide +kernel
theorem d_LW_law_480 : decode b_LW_law 480 = .ok (.istore 5, 2) := by decide +kernel
theorem d_LW_law_482 : decode b_LW_law 482 = .ok (.aload_n 2, 1) := by decide +kernel
theorem d_LW_law_483 : decode b_LW_law 483 = .ok (.aload_n 0, 1) := by decide +kernel
theorem d_LW_law_484 : decode b_LW_law 484 = .ok (.iload 4, 2) := by decide +kernel
theorem d_LW_law_486 : decode b_LW_law 486 = .ok (.iconst 1, 1) := by decide +kernel
theorem d_LW_law_487 : decode b_LW_law 487 = .ok (.iadd, 1) := by decide +kernel
theorem d_LW_law_488 : decode b_LW_law 488 = .ok (.iaload, 1) := by decide +kernel
theorem d_LW_law_489 : decode b_LW_law 489 = .ok (.aload_n 0, 1) := by decide +kernel
theorem d_LW_law_490 : decode b_LW_law 490 = .ok (.iload 4, 2) := by decide +kernel
theorem d_LW_law_492 : decode b_LW_law 492 = .ok (.iconst 2, 1) := by decide +kernel
theorem d_LW_law_493 : decode b_LW_law 493 = .ok (.iadd, 1) := by decide +kernel
theorem d_LW_law_494 : decode b_LW_law 494 = .ok (.iaload, 1) := by decide +kernel
theorem d_LW_law_495 : decode b_LW_law 495 = .ok (.aload_n 0, 1) := by decide +kernel
theorem d_LW_law_496 : decode b_LW_law 496 = .ok (.iload 4, 2) := by decide +kernel
theorem d_LW_law_498 : decode b_LW_law 498 = .ok (.iconst 3, 1) := by decide +kernel
theorem d_LW_law_499 : decode b_LW_law 499 = .ok (.iadd, 1) := by decide +kernel
theorem d_LW_law_500 : decode b_LW_law 500 = .ok (.iaload, 1) := by decide +kernel
theorem d_LW_law_501 : decode b_LW_law 501 = .ok (.i2l, 1) := by decide +kernel
theorem d_LW_law_502 : decode b_LW_law 502 = .ok (.bipush 32, 2) := by decide +kernel
theorem d_LW_law_504 : decode b_LW_law 504 = .ok (.lshl, 1) := by decide +kernel
theorem d_LW_law_505 : decode b_LW_law 505 = .ok (.aload_n 0, 1) := by decide +kernel
theorem d_LW_law_506 : decode b_LW_law 506 = .ok (.iload 4, 2) := by decide +kernel
theorem d_LW_law_508 : decode b_LW_law 508 = .ok (.iconst 4, 1) := by decide +kernel
theorem d_LW_law_509 : decode b_LW_law 509 = .ok (.iadd, 1) := by decide +kernel
theorem d_LW_law_510 : decode b_LW_law 510 = .ok (.iaload, 1) := by decide +kernel
theorem d_LW_law_511 : decode b_LW_law 511 = .ok (.i2l, 1) := by decide +kernel
theorem d_LW_law_512 : decode b_LW_law 512 = .ok (.ldc2_w 105, 3) := by decide +kernel
theorem d_LW_law_515 : decode b_LW_law 515 = .ok (.land, 1) := by decide +kernel
theorem d_LW_law_516 : decode b_LW_law 516 = .ok (.lor, 1) := by decide +kernel
theorem d_LW_law_517 : decode b_LW_law 517 = .ok (.aload_n 0, 1) := by decide +kernel
theorem d_LW_law_518 : decode b_LW_law 518 = .ok (.iload 4, 2) := by decide +kernel
theorem d_LW_law_520 : decode b_LW_law 520 = .ok (.iconst 5, 1) := by decide +kernel
theorem d_LW_law_521 : decode b_LW_law 521 = .ok (.iadd, 1) := by decide +kernel
theorem d_LW_law_522 : decode b_LW_law 522 = .ok (.iaload, 1) := by decide +kernel
theorem d_LW_law_523 : decode b_LW_law 523 = .ok (.aload_n 0, 1) := by decide +kernel
theorem d_LW_law_524 : decode b_LW_law 524 = .ok (.iload 4, 2) := by decide +kernel
theorem d_LW_law_526 : decode b_LW_law 526 = .ok (.bipush 6, 2) := by decide +kernel
theorem d_LW_law_528 : decode b_LW_law 528 = .ok (.iadd, 1) := by decide +kernel
theorem d_LW_law_529 : decode b_LW_law 529 = .ok (.iaload, 1) := by decide +kernel
theorem d_LW_law_530 : decode b_LW_law 530 = .ok (.i2l, 1) := by decide +kernel
theorem d_LW_law_531 : decode b_LW_law 531 = .ok (.bipush 32, 2) := by decide +kernel
theorem d_LW_law_533 : decode b_LW_law 533 = .ok (.lshl, 1) := by decide +kernel
theorem d_LW_law_534 : decode b_LW_law 534 = .ok (.aload_n 0, 1) := by decide +kernel
theorem d_LW_law_535 : decode b_LW_law 535 = .ok (.iload 4, 2) := by decide +kernel
theorem d_LW_law_537 : decode b_LW_law 537 = .ok (.bipush 7, 2) := by decide +kernel
theorem d_LW_law_539 : decode b_LW_law 539 = .ok (.iadd, 1) := by decide +kernel
theorem d_LW_law_540 : decode b_LW_law 540 = .ok (.iaload, 1) := by decide +kernel
theorem d_LW_law_541 : decode b_LW_law 541 = .ok (.i2l, 1) := by decide +kernel
theorem d_LW_law_542 : decode b_LW_law 542 = .ok (.ldc2_w 105, 3) := by decide +kernel
theorem d_LW_law_545 : decode b_LW_law 545 = .ok (.land, 1) := by decide +kernel
theorem d_LW_law_546 : decode b_LW_law 546 = .ok (.lor, 1) := by decide +kernel
theorem d_LW_law_547 : decode b_LW_law 547 = .ok (.invokevirtual 110, 3) := by decide +kernel
theorem d_LW_law_550 : decode b_LW_law 550 = .ok (.aload_n 2, 1) := by decide +kernel
theorem d_LW_law_551 : decode b_LW_law 551 = .ok (.invokevirtual 87, 3) := by decide +kernel
theorem d_LW_law_554 : decode b_LW_law 554 = .ok (.iload 5, 2) := by decide +kernel
theorem d_LW_law_556 : decode b_LW_law 556 = .ok (.if_icmp .eq 5, 3) := by decide +kernel
theorem d_LW_law_559 : decode b_LW_law 559 = .ok (.iconst 0, 1) := by decide +kernel
theorem d_LW_law_560 : decode b_LW_law 560 = .ok (.ireturn, 1) := by decide +kernel
theorem d_LW_law_561 : decode b_LW_law 561 = .ok (.goto 668, 3) := by decide +kernel
theorem d_LW_law_564 : decode b_LW_law 564 = .ok (.aload_n 1, 1) := by decide +kernel
theorem d_LW_law_565 : decode b_LW_law 565 = .ok (.aload_n 0, 1) := by decide +kernel
theorem d_LW_law_566 : decode b_LW_law 566 = .ok (.iload 4, 2) := by decide +kernel
theorem d_LW_law_568 : decode b_LW_law 568 = .ok (.iconst 1, 1) := by decide +kernel
theorem d_LW_law_569 : decode b_LW_law 569 = .ok (.iadd, 1) := by decide +kernel
theorem d_LW_law_570 : decode b_LW_law 570 = .ok (.iaload, 1) := by decide +kernel
theorem d_LW_law_571 : decode b_LW_law 571 = .ok (.aload_n 0, 1) := by decide +kernel
theorem d_LW_law_572 : decode b_LW_law 572 = .ok (.iload 4, 2) := by decide +kernel
theorem d_LW_law_574 : decode b_LW_law 574 = .ok (.iconst 2, 1) := by decide +kernel
theorem d_LW_law_575 : decode b_LW_law 575 = .ok (.iadd, 1) := by decide +kernel
theorem d_LW_law_576 : decode b_LW_law 576 = .ok (.iaload, 1) := by decide +kernel
theorem d_LW_law_577 : decode b_LW_law 577 = .ok (.aload_n 0, 1) := by decide +kernel
theorem d_LW_law_578 : decode b_LW_law 578 = .ok (.iload 4, 2) := by decide +kernel
theorem d_LW_law_580 : decode b_LW_law 580 = .ok (.iconst 3, 1) := by decide +kernel
theorem d_LW_law_581 : decode b_LW_law 581 = .ok (.iadd, 1) := by decide +kernel
theorem d_LW_law_582 : decode b_LW_law 582 = .ok (.iaload, 1) := by decide +kernel
theorem d_LW_law_583 : decode b_LW_law 583 = .ok (.aload_n 3, 1) := by decide +kernel
theorem d_LW_law_584 : decode b_LW_law 584 = .ok (.invokestatic 111, 3) := by decide +kernel
theorem d_LW_law_587 : decode b_LW_law 587 = .ok (.istore 5, 2) := by decide +kernel
theorem d_LW_law_589 : decode b_LW_law 589 = .ok (.aload_n 2, 1) := by decide +kernel
theorem d_LW_law_590 : decode b_LW_law 590 = .ok (.aload_n 0, 1) := by decide +kernel
theorem d_LW_law_591 : decode b_LW_law 591 = .ok (.iload 4, 2) := by decide +kernel
theorem d_LW_law_593 : decode b_LW_law 593 = .ok (.iconst 1, 1) := by decide +kernel
theorem d_LW_law_594 : decode b_LW_law 594 = .ok (.iadd, 1) := by decide +kernel
theorem d_LW_law_595 : decode b_LW_law 595 = .ok (.iaload, 1) := by decide +kernel
theorem d_LW_law_596 : decode b_LW_law 596 = .ok (.aload_n 0, 1) := by decide +kernel
theorem d_LW_law_597 : decode b_LW_law 597 = .ok (.iload 4, 2) := by decide +kernel
theorem d_LW_law_599 : decode b_LW_law 599 = .ok (.iconst 2, 1) := by decide +kernel
theorem d_LW_law_600 : decode b_LW_law 600 = .ok (.iadd, 1) := by decide +kernel
theorem d_LW_law_601 : decode b_LW_law 601 = .ok (.iaload, 1) := by decide +kernel
theorem d_LW_law_602 : decode b_LW_law 602 = .ok (.aload_n 0, 1) := by decide +kernel
theorem d_LW_law_603 : decode b_LW_law 603 = .ok (.iload 4, 2) := by decide +kernel
theorem d_LW_law_605 : decode b_LW_law 605 = .ok (.iconst 3, 1) := by decide +kernel
theorem d_LW_law_606 : decode b_LW_law 606 = .ok (.iadd, 1) := by decide +kernel
theorem d_LW_law_607 : decode b_LW_law 607 = .ok (.iaload, 1) := by decide +kernel
theorem d_LW_law_608 : decode b_LW_law 608 = .ok (.invokevirtual 114, 3) := by decide +kernel
theorem d_LW_law_611 : decode b_LW_law 611 = .ok (.lstore 6, 2) := by decide +kernel
theorem d_LW_law_613 : decode b_LW_law 613 = .ok (.aload_n 2, 1) := by decide +kernel
theorem d_LW_law_614 : decode b_LW_law 614 = .ok (.invokevirtual 87, 3) := by decide +kernel
theorem d_LW_law_617 : decode b_LW_law 617 = .ok (.iload 5, 2) := by decide +kernel
theorem d_LW_law_619 : decode b_LW_law 619 = .ok (.if_icmp .eq 5, 3) := by decide +kernel
theorem d_LW_law_622 : decode b_LW_law 622 = .ok (.iconst 0, 1) := by decide +kernel
theorem d_LW_law_623 : decode b_LW_law 623 = .ok (.ireturn, 1) := by decide +kernel
theorem d_LW_law_624 : decode b_LW_law 624 = .ok (.iload 5, 2) := by decide +kernel
theorem d_LW_law_626 : decode b_LW_law 626 = .ok (.ifCond .ne 14, 3) := by decide +kernel
theorem d_LW_law_629 : decode b_LW_law 629 = .ok (.aload_n 3, 1) := by decide +kernel
theorem d_LW_law_630 : decode b_LW_law 630 = .ok (.iconst 0, 1) := by decide +kernel
theorem d_LW_law_631 : decode b_LW_law 631 = .ok (.laload, 1) := by decide +kernel
theorem d_LW_law_632 : decode b_LW_law 632 = .ok (.lload 6, 2) := by decide +kernel
theorem d_LW_law_634 : decode b_LW_law 634 = .ok (.lcmp, 1) := by decide +kernel
theorem d_LW_law_635 : decode b_LW_law 635 = .ok (.ifCond .eq 5, 3) := by decide +kernel
theorem d_LW_law_638 : decode b_LW_law 638 = .ok (.iconst 0, 1) := by decide +kernel
theorem d_LW_law_639 : decode b_LW_law 639 = .ok (.ireturn, 1) := by decide +kernel
theorem d_LW_law_640 : decode b_LW_law 640 = .ok (.goto 589, 3) := by decide +kernel
theorem d_LW_law_643 : decode b_LW_law 643 = .ok (.aload_n 1, 1) := by decide +kernel
theorem d_LW_law_644 : decode b_LW_law 644 = .ok (.aload_n 0, 1) := by decide +kernel
theorem d_LW_law_645 : decode b_LW_law 645 = .ok (.iload 4, 2) := by decide +kernel
theorem d_LW_law_647 : decode b_LW_law 647 = .ok (.iconst 1, 1) := by decide +kernel
theorem d_LW_law_648 : decode b_LW_law 648 = .ok (.iadd, 1) := by decide +kernel
theorem d_LW_law_649 : decode b_LW_law 649 = .ok (.iaload, 1) := by decide +kernel
theorem d_LW_law_650 : decode b_LW_law 650 = .ok (.aload_n 3, 1) := by decide +kernel
theorem d_LW_law_651 : decode b_LW_law 651 = .ok (.invokestatic 115, 3) := by decide +kernel
theorem d_LW_law_654 : decode b_LW_law 654 = .ok (.istore 5, 2) := by decide +kernel
theorem d_LW_law_656 : decode b_LW_law 656 = .ok (.aload_n 2, 1) := by decide +kernel
theorem d_LW_law_657 : decode b_LW_law 657 = .ok (.aload_n 0, 1) := by decide +kernel
theorem d_LW_law_658 : decode b_LW_law 658 = .ok (.iload 4, 2) := by decide +kernel
theorem d_LW_law_660 : decode b_LW_law 660 = .ok (.iconst 1, 1) := by decide +kernel
theorem d_LW_law_661 : decode b_LW_law 661 = .ok (.iadd, 1) := by decide +kernel
theorem d_LW_law_662 : decode b_LW_law 662 = .ok (.iaload, 1) := by decide +kernel
theorem d_LW_law_663 : decode b_LW_law 663 = .ok (.invokevirtual 118, 3) := by decide +kernel
theorem d_LW_law_666 : decode b_LW_law 666 = .ok (.istore 6, 2) := by decide +kernel
theorem d_LW_law_668 : decode b_LW_law 668 = .ok (.aload_n 2, 1) := by decide +kernel
theorem d_LW_law_669 : decode b_LW_law 669 = .ok (.invokevirtual 87, 3) := by decide +kernel
theorem d_LW_law_672 : decode b_LW_law 672 = .ok (.iload 5, 2) := by decide +kernel
theorem d_LW_law_674 : decode b_LW_law 674 = .ok (.if_icmp .eq 5, 3) := by decide +kernel
theorem d_LW_law_677 : decode b_LW_law 677 = .ok (.iconst 0, 1) := by decide +kernel
theorem d_LW_law_678 : decode b_LW_law 678 = .ok (.ireturn, 1) := by decide +kernel
theorem d_LW_law_679 : decode b_LW_law 679 = .ok (.iload 5, 2) := by decide +kernel
theorem d_LW_law_681 : decode b_LW_law 681 = .ok (.ifCond .ne 15, 3) := by decide +kernel
theorem d_LW_law_684 : decode b_LW_law 684 = .ok (.aload_n 3, 1) := by decide +kernel
theorem d_LW_law_685 : decode b_LW_law 685 = .ok (.iconst 0, 1) := by decide +kernel
theorem d_LW_law_686 : decode b_LW_law 686 = .ok (.laload, 1) := by decide +kernel
theorem d_LW_law_687 : decode b_LW_law 687 = .ok (.iload 6, 2) := by decide +kernel
theorem d_LW_law_689 : decode b_LW_law 689 = .ok (.i2l, 1) := by decide +kernel
theorem d_LW_law_690 : decode b_LW_law 690 = .ok (.lcmp, 1) := by decide +kernel
theorem d_LW_law_691 : decode b_LW_law 691 = .ok (.ifCond .eq 5, 3) := by decide +kernel
theorem d_LW_law_694 : decode b_LW_law 694 = .ok (.iconst 0, 1) := by decide +kernel
theorem d_LW_law_695 : decode b_LW_law 695 = .ok (.ireturn, 1) := by decide +kernel
theorem d_LW_law_696 : decode b_LW_law 696 = .ok (.goto 533, 3) := by decide +kernel
theorem d_LW_law_699 : decode b_LW_law 699 = .ok (.aload_n 1, 1) := by decide +kernel
theorem d_LW_law_700 : decode b_LW_law 700 = .ok (.aload_n 0, 1) := by decide +kernel
theorem d_LW_law_701 : decode b_LW_law 701 = .ok (.iload 4, 2) := by decide +kernel
theorem d_LW_law_703 : decode b_LW_law 703 = .ok (.iconst 1, 1) := by decide +kernel
theorem d_LW_law_704 : decode b_LW_law 704 = .ok (.iadd, 1) := by decide +kernel
theorem d_LW_law_705 : decode b_LW_law 705 = .ok (.iaload, 1) := by decide +kernel
theorem d_LW_law_706 : decode b_LW_law 706 = .ok (.aload_n 3, 1) := by decide +kernel
theorem d_LW_law_707 : decode b_LW_law 707 = .ok (.invokestatic 119, 3) := by decide +kernel
theorem d_LW_law_710 : decode b_LW_law 710 = .ok (.istore 5, 2) := by decide +kernel
theorem d_LW_law_712 : decode b_LW_law 712 = .ok (.aload_n 2, 1) := by decide +kernel
theorem d_LW_law_713 : decode b_LW_law 713 = .ok (.aload_n 0, 1) := by decide +kernel
theorem d_LW_law_714 : decode b_LW_law 714 = .ok (.iload 4, 2) := by decide +kernel
theorem d_LW_law_716 : decode b_LW_law 716 = .ok (.iconst 1, 1) := by decide +kernel
theorem d_LW_law_717 : decode b_LW_law 717 = .ok (.iadd, 1) := by decide +kernel
theorem d_LW_law_718 : decode b_LW_law 718 = .ok (.iaload, 1) := by decide +kernel
theorem d_LW_law_719 : decode b_LW_law 719 = .ok (.invokevirtual 121, 3) := by decide +kernel
theorem d_LW_law_722 : decode b_LW_law 722 = .ok (.lstore 6, 2) := by decide +kernel
theorem d_LW_law_724 : decode b_LW_law 724 = .ok (.aload_n 2, 1) := by decide +kernel
theorem d_LW_law_725 : decode b_LW_law 725 = .ok (.invokevirtual 87, 3) := by decide +kernel
theorem d_LW_law_728 : decode b_LW_law 728 = .ok (.iload 5, 2) := by decide +kernel
theorem d_LW_law_730 : decode b_LW_law 730 = .ok (.if_icmp .eq 5, 3) := by decide +kernel
theorem d_LW_law_733 : decode b_LW_law 733 = .ok (.iconst 0, 1) := by decide +kernel
theorem d_LW_law_734 : decode b_LW_law 734 = .ok (.ireturn, 1) := by decide +kernel
theorem d_LW_law_735 : decode b_LW_law 735 = .ok (.iload 5, 2) := by decide +kernel
theorem d_LW_law_737 : decode b_LW_law 737 = .ok (.ifCond .ne 14, 3) := by decide +kernel
theorem d_LW_law_740 : decode b_LW_law 740 = .ok (.aload_n 3, 1) := by decide +kernel
theorem d_LW_law_741 : decode b_LW_law 741 = .ok (.iconst 0, 1) := by decide +kernel
theorem d_LW_law_742 : decode b_LW_law 742 = .ok (.laload, 1) := by decide +kernel
theorem d_LW_law_743 : decode b_LW_law 743 = .ok (.lload 6, 2) := by decide +kernel
theorem d_LW_law_745 : decode b_LW_law 745 = .ok (.lcmp, 1) := by decide +kernel
theorem d_LW_law_746 : decode b_LW_law 746 = .ok (.ifCond .eq 5, 3) := by decide +kernel
theorem d_LW_law_749 : decode b_LW_law 749 = .ok (.iconst 0, 1) := by decide +kernel
theorem d_LW_law_750 : decode b_LW_law 750 = .ok (.ireturn, 1) := by decide +kernel
theorem d_LW_law_751 : decode b_LW_law 751 = .ok (.goto 478, 3) := by decide +kernel
theorem d_LW_law_754 : decode b_LW_law 754 = .ok (.aload_n 1, 1) := by decide +kernel
theorem d_LW_law_755 : decode b_LW_law 755 = .ok (.aload_n 0, 1) := by decide +kernel
theorem d_LW_law_756 : decode b_LW_law 756 = .ok (.iload 4, 2) := by decide +kernel
theorem d_LW_law_758 : decode b_LW_law 758 = .ok (.iconst 1, 1) := by decide +kernel
theorem d_LW_law_759 : decode b_LW_law 759 = .ok (.iadd, 1) := by decide +kernel
theorem d_LW_law_760 : decode b_LW_law 760 = .ok (.iaload, 1) := by decide +kernel
theorem d_LW_law_761 : decode b_LW_law 761 = .ok (.i2l, 1) := by decide +kernel
theorem d_LW_law_762 : decode b_LW_law 762 = .ok (.bipush 32, 2) := by decide +kernel
theorem d_LW_law_764 : decode b_LW_law 764 = .ok (.lshl, 1) := by decide +kernel
theorem d_LW_law_765 : decode b_LW_law 765 = .ok (.aload_n 0, 1) := by decide +kernel
theorem d_LW_law_766 : decode b_LW_law 766 = .ok (.iload 4, 2) := by decide +kernel
theorem d_LW_law_768 : decode b_LW_law 768 = .ok (.iconst 2, 1) := by decide +kernel
theorem d_LW_law_769 : decode b_LW_law 769 = .ok (.iadd, 1) := by decide +kernel
theorem d_LW_law_770 : decode b_LW_law 770 = .ok (.iaload, 1) := by decide +kernel
theorem d_LW_law_771 : decode b_LW_law 771 = .ok (.i2l, 1) := by decide +kernel
theorem d_LW_law_772 : decode b_LW_law 772 = .ok (.ldc2_w 105, 3) := by decide +kernel
theorem d_LW_law_775 : decode b_LW_law 775 = .ok (.land, 1) := by decide +kernel
theorem d_LW_law_776 : decode b_LW_law 776 = .ok (.lor, 1) := by decide +kernel
theorem d_LW_law_777 : decode b_LW_law 777 = .ok (.aload_n 3, 1) := by decide +kernel
theorem d_LW_law_778 : decode b_LW_law 778 = .ok (.invokestatic 122, 3) := by decide +kernel
theorem d_LW_law_781 : decode b_LW_law 781 = .ok (.istore 5, 2) := by decide +kernel
theorem d_LW_law_783 : decode b_LW_law 783 = .ok (.aload_n 2, 1) := by decide +kernel
theorem d_LW_law_784 : decode b_LW_law 784 = .ok (.aload_n 0, 1) := by decide +kernel
theorem d_LW_law_785 : decode b_LW_law 785 = .ok (.iload 4, 2) := by decide +kernel
theorem d_LW_law_787 : decode b_LW_law 787 = .ok (.iconst 1, 1) := by decide +kernel
theorem d_LW_law_788 : decode b_LW_law 788 = .ok (.iadd, 1) := by decide +kernel
theorem d_LW_law_789 : decode b_LW_law 789 = .ok (.iaload, 1) := by decide +kernel
theorem d_LW_law_790 : decode b_LW_law 790 = .ok (.i2l, 1) := by decide +kernel
theorem d_LW_law_791 : decode b_LW_law 791 = .ok (.bipush 32, 2) := by decide +kernel
theorem d_LW_law_793 : decode b_LW_law 793 = .ok (.lshl, 1) := by decide +kernel
theorem d_LW_law_794 : decode b_LW_law 794 = .ok (.aload_n 0, 1) := by decide +kernel
theorem d_LW_law_795 : decode b_LW_law 795 = .ok (.iload 4, 2) := by decide +kernel
theorem d_LW_law_797 : decode b_LW_law 797 = .ok (.iconst 2, 1) := by decide +kernel
theorem d_LW_law_798 : decode b_LW_law 798 = .ok (.iadd, 1) := by decide +kernel
theorem d_LW_law_799 : decode b_LW_law 799 = .ok (.iaload, 1) := by decide +kernel
theorem d_LW_law_800 : decode b_LW_law 800 = .ok (.i2l, 1) := by decide +kernel
theorem d_LW_law_801 : decode b_LW_law 801 = .ok (.ldc2_w 105, 3) := by decide +kernel
theorem d_LW_law_804 : decode b_LW_law 804 = .ok (.land, 1) := by decide +kernel
theorem d_LW_law_805 : decode b_LW_law 805 = .ok (.lor, 1) := by decide +kernel
theorem d_LW_law_806 : decode b_LW_law 806 = .ok (.invokevirtual 125, 3) := by decide +kernel
theorem d_LW_law_809 : decode b_LW_law 809 = .ok (.istore 6, 2) := by decide +kernel
theorem d_LW_law_811 : decode b_LW_law 811 = .ok (.aload_n 2, 1) := by decide +kernel
theorem d_LW_law_812 : decode b_LW_law 812 = .ok (.invokevirtual 87, 3) := by decide +kernel
theorem d_LW_law_815 : decode b_LW_law 815 = .ok (.iload 5, 2) := by decide +kernel
theorem d_LW_law_817 : decode b_LW_law 817 = .ok (.if_icmp .eq 5, 3) := by decide +kernel
theorem d_LW_law_820 : decode b_LW_law 820 = .ok (.iconst 0, 1) := by decide +kernel
theorem d_LW_law_821 : decode b_LW_law 821 = .ok (.ireturn, 1) := by decide +kernel
theorem d_LW_law_822 : decode b_LW_law 822 = .ok (.iload 5, 2) := by decide +kernel
theorem d_LW_law_824 : decode b_LW_law 824 = .ok (.ifCond .ne 22, 3) := by decide +kernel
theorem d_LW_law_827 : decode b_LW_law 827 = .ok (.aload_n 3, 1) := by decide +kernel
theorem d_LW_law_828 : decode b_LW_law 828 = .ok (.iconst 0, 1) := by decide +kernel
theorem d_LW_law_829 : decode b_LW_law 829 = .ok (.laload, 1) := by decide +kernel
theorem d_LW_law_830 : decode b_LW_law 830 = .ok (.iload 6, 2) := by decide +kernel
theorem d_LW_law_832 : decode b_LW_law 832 = .ok (.ifCond .eq 7, 3) := by decide +kernel
theorem d_LW_law_835 : decode b_LW_law 835 = .ok (.lconst 1, 1) := by decide +kernel
theorem d_LW_law_836 : decode b_LW_law 836 = .ok (.goto 4, 3) := by decide +kernel
theorem d_LW_law_839 : decode b_LW_law 839 = .ok (.lconst 0, 1) := by decide +kernel
theorem d_LW_law_840 : decode b_LW_law 840 = .ok (.lcmp, 1) := by decide +kernel
theorem d_LW_law_841 : decode b_LW_law 841 = .ok (.ifCond .eq 5, 3) := by decide +kernel
theorem d_LW_law_844 : decode b_LW_law 844 = .ok (.iconst 0, 1) := by decide +kernel
theorem d_LW_law_845 : decode b_LW_law 845 = .ok (.ireturn, 1) := by decide +kernel
theorem d_LW_law_846 : decode b_LW_law 846 = .ok (.goto 383, 3) := by decide +kernel
theorem d_LW_law_849 : decode b_LW_law 849 = .ok (.aload_n 1, 1) := by decide +kernel
theorem d_LW_law_850 : decode b_LW_law 850 = .ok (.aload_n 0, 1) := by decide +kernel
theorem d_LW_law_851 : decode b_LW_law 851 = .ok (.iload 4, 2) := by decide +kernel
theorem d_LW_law_853 : decode b_LW_law 853 = .ok (.iconst 1, 1) := by decide +kernel
theorem d_LW_law_854 : decode b_LW_law 854 = .ok (.iadd, 1) := by decide +kernel
theorem d_LW_law_855 : decode b_LW_law 855 = .ok (.iaload, 1) := by decide +kernel
theorem d_LW_law_856 : decode b_LW_law 856 = .ok (.aload_n 0, 1) := by decide +kernel
theorem d_LW_law_857 : decode b_LW_law 857 = .ok (.iload 4, 2) := by decide +kernel
theorem d_LW_law_859 : decode b_LW_law 859 = .ok (.iconst 2, 1) := by decide +kernel
theorem d_LW_law_860 : decode b_LW_law 860 = .ok (.iadd, 1) := by decide +kernel
theorem d_LW_law_861 : decode b_LW_law 861 = .ok (.iaload, 1) := by decide +kernel
theorem d_LW_law_862 : decode b_LW_law 862 = .ok (.invokestatic 126, 3) := by decide +kernel
theorem d_LW_law_865 : decode b_LW_law 865 = .ok (.istore 5, 2) := by decide +kernel
theorem d_LW_law_867 : decode b_LW_law 867 = .ok (.aload_n 2, 1) := by decide +kernel
theorem d_LW_law_868 : decode b_LW_law 868 = .ok (.aload_n 0, 1) := by decide +kernel
theorem d_LW_law_869 : decode b_LW_law 869 = .ok (.iload 4, 2) := by decide +kernel
theorem d_LW_law_871 : decode b_LW_law 871 = .ok (.iconst 1, 1) := by decide +kernel
theorem d_LW_law_872 : decode b_LW_law 872 = .ok (.iadd, 1) := by decide +kernel
theorem d_LW_law_873 : decode b_LW_law 873 = .ok (.iaload, 1) := by decide +kernel
theorem d_LW_law_874 : decode b_LW_law 874 = .ok (.aload_n 0, 1) := by decide +kernel
theorem d_LW_law_875 : decode b_LW_law 875 = .ok (.iload 4, 2) := by decide +kernel
theorem d_LW_law_877 : decode b_LW_law 877 = .ok (.iconst 2, 1) := by decide +kernel
theorem d_LW_law_878 : decode b_LW_law 878 = .ok (.iadd, 1) := by decide +kernel
theorem d_LW_law_879 : decode b_LW_law 879 = .ok (.iaload, 1) := by decide +kernel
theorem d_LW_law_880 : decode b_LW_law 880 = .ok (.invokevirtual 128, 3) := by decide +kernel
theorem d_LW_law_883 : decode b_LW_law 883 = .ok (.aload_n 2, 1) := by decide +kernel
theorem d_LW_law_884 : decode b_LW_law 884 = .ok (.invokevirtual 87, 3) := by decide +kernel
theorem d_LW_law_887 : decode b_LW_law 887 = .ok (.iload 5, 2) := by decide +kernel
theorem d_LW_law_889 : decode b_LW_law 889 = .ok (.if_icmp .eq 5, 3) := by decide +kernel
theorem d_LW_law_892 : decode b_LW_law 892 = .ok (.iconst 0, 1) := by decide +kernel
theorem d_LW_law_893 : decode b_LW_law 893 = .ok (.ireturn, 1) := by decide +kernel
theorem d_LW_law_894 : decode b_LW_law 894 = .ok (.goto 335, 3) := by decide +kernel
theorem d_LW_law_897 : decode b_LW_law 897 = .ok (.aload_n 1, 1) := by decide +kernel
theorem d_LW_law_898 : decode b_LW_law 898 = .ok (.aload_n 0, 1) := by decide +kernel
theorem d_LW_law_899 : decode b_LW_law 899 = .ok (.iload 4, 2) := by decide +kernel
theorem d_LW_law_901 : decode b_LW_law 901 = .ok (.iconst 1, 1) := by decide +kernel
theorem d_LW_law_902 : decode b_LW_law 902 = .ok (.iadd, 1) := by decide +kernel
theorem d_LW_law_903 : decode b_LW_law 903 = .ok (.iaload, 1) := by decide +kernel
theorem d_LW_law_904 : decode b_LW_law 904 = .ok (.aload_n 0, 1) := by decide +kernel
theorem d_LW_law_905 : decode b_LW_law 905 = .ok (.iload 4, 2) := by decide +kernel
theorem d_LW_law_907 : decode b_LW_law 907 = .ok (.iconst 2, 1) := by decide +kernel
theorem d_LW_law_908 : decode b_LW_law 908 = .ok (.iadd, 1) := by decide +kernel
theorem d_LW_law_909 : decode b_LW_law 909 = .ok (.iaload, 1) := by decide +kernel
theorem d_LW_law_910 : decode b_LW_law 910 = .ok (.ifCond .eq 7, 3) := by decide +kernel
theorem d_LW_law_913 : decode b_LW_law 913 = .ok (.iconst 1, 1) := by decide +kernel
theorem d_LW_law_914 : decode b_LW_law 914 = .ok (.goto 4, 3) := by decide +kernel
theorem d_LW_law_917 : decode b_LW_law 917 = .ok (.iconst 0, 1) := by decide +kernel
theorem d_LW_law_918 : decode b_LW_law 918 = .ok (.aload_n 3, 1) := by decide +kernel
theorem d_LW_law_919 : decode b_LW_law 919 = .ok (.invokestatic 129, 3) := by decide +kernel
theorem d_LW_law_922 : decode b_LW_law 922 = .ok (.istore 5, 2) := by decide +kernel
theorem d_LW_law_924 : decode b_LW_law 924 = .ok (.aload_n 2, 1) := by decide +kernel
theorem d_LW_law_925 : decode b_LW_law 925 = .ok (.aload_n 0, 1) := by decide +kernel
theorem d_LW_law_926 : decode b_LW_law 926 = .ok (.iload 4, 2) := by decide +kernel
theorem d_LW_law_928 : decode b_LW_law 928 = .ok (.iconst 1, 1) := by decide +kernel
theorem d_LW_law_929 : decode b_LW_law 929 = .ok (.iadd, 1) := by decide +kernel
theorem d_LW_law_930 : decode b_LW_law 930 = .ok (.iaload, 1) := by decide +kernel
theorem d_LW_law_931 : decode b_LW_law 931 = .ok (.aload_n 0, 1) := by decide +kernel
theorem d_LW_law_932 : decode b_LW_law 932 = .ok (.iload 4, 2) := by decide +kernel
theorem d_LW_law_934 : decode b_LW_law 934 = .ok (.iconst 2, 1) := by decide +kernel
theorem d_LW_law_935 : decode b_LW_law 935 = .ok (.iadd, 1) := by decide +kernel
theorem d_LW_law_936 : decode b_LW_law 936 = .ok (.iaload, 1) := by decide +kernel
theorem d_LW_law_937 : decode b_LW_law 937 = .ok (.ifCond .eq 7, 3) := by decide +kernel
theorem d_LW_law_940 : decode b_LW_law 940 = .ok (.iconst 1, 1) := by decide +kernel
theorem d_LW_law_941 : decode b_LW_law 941 = .ok (.goto 4, 3) := by decide +kernel
theorem d_LW_law_944 : decode b_LW_law 944 = .ok (.iconst 0, 1) := by decide +kernel
theorem d_LW_law_945 : decode b_LW_law 945 = .ok (.invokevirtual 132, 3) := by decide +kernel
theorem d_LW_law_948 : decode b_LW_law 948 = .ok (.istore 6, 2) := by decide +kernel
theorem d_LW_law_950 : decode b_LW_law 950 = .ok (.aload_n 2, 1) := by decide +kernel
theorem d_LW_law_951 : decode b_LW_law 951 = .ok (.invokevirtual 87, 3) := by decide +kernel
theorem d_LW_law_954 : decode b_LW_law 954 = .ok (.iload 5, 2) := by decide +kernel
theorem d_LW_law_956 : decode b_LW_law 956 = .ok (.if_icmp .eq 5, 3) := by decide +kernel
theorem d_LW_law_959 : decode b_LW_law 959 = .ok (.iconst 0, 1) := by decide +kernel
theorem d_LW_law_960 : decode b_LW_law 960 = .ok (.ireturn, 1) := by decide +kernel
theorem d_LW_law_961 : decode b_LW_law 961 = .ok (.iload 5, 2) := by decide +kernel
theorem d_LW_law_963 : decode b_LW_law 963 = .ok (.ifCond .ne 22, 3) := by decide +kernel
theorem d_LW_law_966 : decode b_LW_law 966 = .ok (.aload_n 3, 1) := by decide +kernel
theorem d_LW_law_967 : decode b_LW_law 967 = .ok (.iconst 0, 1) := by decide +kernel
theorem d_LW_law_968 : decode b_LW_law 968 = .ok (.laload, 1) := by decide +kernel
theorem d_LW_law_969 : decode b_LW_law 969 = .ok (.iload 6, 2) := by decide +kernel
theorem d_LW_law_971 : decode b_LW_law 971 = .ok (.ifCond .eq 7, 3) := by decide +kernel
theorem d_LW_law_974 : decode b_LW_law 974 = .ok (.lconst 1, 1) := by decide +kernel
theorem d_LW_law_975 : decode b_LW_law 975 = .ok (.goto 4, 3) := by decide +kernel
theorem d_LW_law_978 : decode b_LW_law 978 = .ok (.lconst 0, 1) := by decide +kernel
theorem d_LW_law_979 : decode b_LW_law 979 = .ok (.lcmp, 1) := by decide +kernel
theorem d_LW_law_980 : decode b_LW_law 980 = .ok (.ifCond .eq 5, 3) := by decide +kernel
theorem d_LW_law_983 : decode b_LW_law 983 = .ok (.iconst 0, 1) := by decide +kernel
theorem d_LW_law_984 : decode b_LW_law 984 = .ok (.ireturn, 1) := by decide +kernel
theorem d_LW_law_985 : decode b_LW_law 985 = .ok (.goto 244, 3) := by decide +kernel
theorem d_LW_law_988 : decode b_LW_law 988 = .ok (.aload_n 1, 1) := by decide +kernel
theorem d_LW_law_989 : decode b_LW_law 989 = .ok (.aload_n 0, 1) := by decide +kernel
theorem d_LW_law_990 : decode b_LW_law 990 = .ok (.iload 4, 2) := by decide +kernel
theorem d_LW_law_992 : decode b_LW_law 992 = .ok (.iconst 1, 1) := by decide +kernel
theorem d_LW_law_993 : decode b_LW_law 993 = .ok (.iadd, 1) := by decide +kernel
theorem d_LW_law_994 : decode b_LW_law 994 = .ok (.iaload, 1) := by decide +kernel
theorem d_LW_law_995 : decode b_LW_law 995 = .ok (.aload_n 3, 1) := by decide +kernel
theorem d_LW_law_996 : decode b_LW_law 996 = .ok (.invokestatic 133, 3) := by decide +kernel
theorem d_LW_law_999 : decode b_LW_law 999 = .ok (.istore 5, 2) := by decide +kernel
theorem d_LW_law_1001 : decode b_LW_law 1001 = .ok (.aload_n 2, 1) := by decide +kernel
theorem d_LW_law_1002 : decode b_LW_law 1002 = .ok (.aload_n 0, 1) := by decide +kernel
theorem d_LW_law_1003 : decode b_LW_law 1003 = .ok (.iload 4, 2) := by decide +kernel
theorem d_LW_law_1005 : decode b_LW_law 1005 = .ok (.iconst 1, 1) := by decide +kernel
theorem d_LW_law_1006 : decode b_LW_law 1006 = .ok (.iadd, 1) := by decide +kernel
theorem d_LW_law_1007 : decode b_LW_law 1007 = .ok (.iaload, 1) := by decide +kernel
theorem d_LW_law_1008 : decode b_LW_law 1008 = .ok (.invokevirtual 135, 3) := by decide +kernel
theorem d_LW_law_1011 : decode b_LW_law 1011 = .ok (.istore 6, 2) := by decide +kernel
theorem d_LW_law_1013 : decode b_LW_law 1013 = .ok (.aload_n 2, 1) := by decide +kernel
theorem d_LW_law_1014 : decode b_LW_law 1014 = .ok (.invokevirtual 87, 3) := by decide +kernel
theorem d_LW_law_1017 : decode b_LW_law 1017 = .ok (.iload 5, 2) := by decide +kernel
theorem d_LW_law_1019 : decode b_LW_law 1019 = .ok (.if_icmp .eq 5, 3) := by decide +kernel
theorem d_LW_law_1022 : decode b_LW_law 1022 = .ok (.iconst 0, 1) := by decide +kernel
theorem d_LW_law_1023 : decode b_LW_law 1023 = .ok (.ireturn, 1) := by decide +kernel
theorem d_LW_law_1024 : decode b_LW_law 1024 = .ok (.iload 5, 2) := by decide +kernel
theorem d_LW_law_1026 : decode b_LW_law 1026 = .ok (.ifCond .ne 22, 3) := by decide +kernel
theorem d_LW_law_1029 : decode b_LW_law 1029 = .ok (.aload_n 3, 1) := by decide +kernel
theorem d_LW_law_1030 : decode b_LW_law 1030 = .ok (.iconst 0, 1) := by decide +kernel
theorem d_LW_law_1031 : decode b_LW_law 1031 = .ok (.laload, 1) := by decide +kernel
theorem d_LW_law_1032 : decode b_LW_law 1032 = .ok (.iload 6, 2) := by decide +kernel
theorem d_LW_law_1034 : decode b_LW_law 1034 = .ok (.ifCond .eq 7, 3) := by decide +kernel
theorem d_LW_law_1037 : decode b_LW_law 1037 = .ok (.lconst 1, 1) := by decide +kernel
theorem d_LW_law_1038 : decode b_LW_law 1038 = .ok (.goto 4, 3) := by decide +kernel
theorem d_LW_law_1041 : decode b_LW_law 1041 = .ok (.lconst 0, 1) := by decide +kernel
theorem d_LW_law_1042 : decode b_LW_law 1042 = .ok (.lcmp, 1) := by decide +kernel
theorem d_LW_law_1043 : decode b_LW_law 1043 = .ok (.ifCond .eq 5, 3) := by decide +kernel
theorem d_LW_law_1046 : decode b_LW_law 1046 = .ok (.iconst 0, 1) := by decide +kernel
theorem d_LW_law_1047 : decode b_LW_law 1047 = .ok (.ireturn, 1) := by decide +kernel
theorem d_LW_law_1048 : decode b_LW_law 1048 = .ok (.goto 181, 3) := by decide +kernel
theorem d_LW_law_1051 : decode b_LW_law 1051 = .ok (.aload_n 1, 1) := by decide +kernel
theorem d_LW_law_1052 : decode b_LW_law 1052 = .ok (.aload_n 0, 1) := by decide +kernel
theorem d_LW_law_1053 : decode b_LW_law 1053 = .ok (.iload 4, 2) := by decide +kernel
theorem d_LW_law_1055 : decode b_LW_law 1055 = .ok (.iconst 1, 1) := by decide +kernel
theorem d_LW_law_1056 : decode b_LW_law 1056 = .ok (.iadd, 1) := by decide +kernel
theorem d_LW_law_1057 : decode b_LW_law 1057 = .ok (.iaload, 1) := by decide +kernel
theorem d_LW_law_1058 : decode b_LW_law 1058 = .ok (.aload_n 0, 1) := by decide +kernel
theorem d_LW_law_1059 : decode b_LW_law 1059 = .ok (.iload 4, 2) := by decide +kernel
theorem d_LW_law_1061 : decode b_LW_law 1061 = .ok (.iconst 2, 1) := by decide +kernel
theorem d_LW_law_1062 : decode b_LW_law 1062 = .ok (.iadd, 1) := by decide +kernel
theorem d_LW_law_1063 : decode b_LW_law 1063 = .ok (.iaload, 1) := by decide +kernel
theorem d_LW_law_1064 : decode b_LW_law 1064 = .ok (.aload_n 3, 1) := by decide +kernel
theorem d_LW_law_1065 : decode b_LW_law 1065 = .ok (.invokestatic 136, 3) := by decide +kernel
theorem d_LW_law_1068 : decode b_LW_law 1068 = .ok (.istore 5, 2) := by decide +kernel
theorem d_LW_law_1070 : decode b_LW_law 1070 = .ok (.aload_n 2, 1) := by decide +kernel
theorem d_LW_law_1071 : decode b_LW_law 1071 = .ok (.aload_n 0, 1) := by decide +kernel
theorem d_LW_law_1072 : decode b_LW_law 1072 = .ok (.iload 4, 2) := by decide +kernel
theorem d_LW_law_1074 : decode b_LW_law 1074 = .ok (.iconst 1, 1) := by decide +kernel
theorem d_LW_law_1075 : decode b_LW_law 1075 = .ok (.iadd, 1) := by decide +kernel
theorem d_LW_law_1076 : decode b_LW_law 1076 = .ok (.iaload, 1) := by decide +kernel
theorem d_LW_law_1077 : decode b_LW_law 1077 = .ok (.aload_n 0, 1) := by decide +kernel
theorem d_LW_law_1078 : decode b_LW_law 1078 = .ok (.iload 4, 2) := by decide +kernel
theorem d_LW_law_1080 : decode b_LW_law 1080 = .ok (.iconst 2, 1) := by decide +kernel
theorem d_LW_law_1081 : decode b_LW_law 1081 = .ok (.iadd, 1) := by decide +kernel
theorem d_LW_law_1082 : decode b_LW_law 1082 = .ok (.iaload, 1) := by decide +kernel
theorem d_LW_law_1083 : decode b_LW_law 1083 = .ok (.invokevirtual 138, 3) := by decide +kernel
theorem d_LW_law_1086 : decode b_LW_law 1086 = .ok (.lstore 6, 2) := by decide +kernel
theorem d_LW_law_1088 : decode b_LW_law 1088 = .ok (.aload_n 2, 1) := by decide +kernel
theorem d_LW_law_1089 : decode b_LW_law 1089 = .ok (.invokevirtual 87, 3) := by decide +kernel
theorem d_LW_law_1092 : decode b_LW_law 1092 = .ok (.iload 5, 2) := by decide +kernel
theorem d_LW_law_1094 : decode b_LW_law 1094 = .ok (.if_icmp .eq 5, 3) := by decide +kernel
theorem d_LW_law_1097 : decode b_LW_law 1097 = .ok (.iconst 0, 1) := by decide +kernel
theorem d_LW_law_1098 : decode b_LW_law 1098 = .ok (.ireturn, 1) := by decide +kernel
theorem d_LW_law_1099 : decode b_LW_law 1099 = .ok (.iload 5, 2) := by decide +kernel
theorem d_LW_law_1101 : decode b_LW_law 1101 = .ok (.ifCond .ne 14, 3) := by decide +kernel
theorem d_LW_law_1104 : decode b_LW_law 1104 = .ok (.aload_n 3, 1) := by decide +kernel
theorem d_LW_law_1105 : decode b_LW_law 1105 = .ok (.iconst 0, 1) := by decide +kernel
theorem d_LW_law_1106 : decode b_LW_law 1106 = .ok (.laload, 1) := by decide +kernel
theorem d_LW_law_1107 : decode b_LW_law 1107 = .ok (.lload 6, 2) := by decide +kernel
theorem d_LW_law_1109 : decode b_LW_law 1109 = .ok (.lcmp, 1) := by decide +kernel
theorem d_LW_law_1110 : decode b_LW_law 1110 = .ok (.ifCond .eq 5, 3) := by decide +kernel
theorem d_LW_law_1113 : decode b_LW_law 1113 = .ok (.iconst 0, 1) := by decide +kernel
theorem d_LW_law_1114 : decode b_LW_law 1114 = .ok (.ireturn, 1) := by decide +kernel
theorem d_LW_law_1115 : decode b_LW_law 1115 = .ok (.goto 114, 3) := by decide +kernel
theorem d_LW_law_1118 : decode b_LW_law 1118 = .ok (.aload_n 1, 1) := by decide +kernel
theorem d_LW_law_1119 : decode b_LW_law 1119 = .ok (.aload_n 0, 1) := by decide +kernel
theorem d_LW_law_1120 : decode b_LW_law 1120 = .ok (.iload 4, 2) := by decide +kernel
theorem d_LW_law_1122 : decode b_LW_law 1122 = .ok (.iconst 1, 1) := by decide +kernel
theorem d_LW_law_1123 : decode b_LW_law 1123 = .ok (.iadd, 1) := by decide +kernel
theorem d_LW_law_1124 : decode b_LW_law 1124 = .ok (.iaload, 1) := by decide +kernel
theorem d_LW_law_1125 : decode b_LW_law 1125 = .ok (.aload_n 3, 1) := by decide +kernel
theorem d_LW_law_1126 : decode b_LW_law 1126 = .ok (.invokestatic 139, 3) := by decide +kernel
theorem d_LW_law_1129 : decode b_LW_law 1129 = .ok (.istore 5, 2) := by decide +kernel
theorem d_LW_law_1131 : decode b_LW_law 1131 = .ok (.aload_n 2, 1) := by decide +kernel
theorem d_LW_law_1132 : decode b_LW_law 1132 = .ok (.aload_n 0, 1) := by decide +kernel
theorem d_LW_law_1133 : decode b_LW_law 1133 = .ok (.iload 4, 2) := by decide +kernel
theorem d_LW_law_1135 : decode b_LW_law 1135 = .ok (.iconst 1, 1) := by decide +kernel
theorem d_LW_law_1136 : decode b_LW_law 1136 = .ok (.iadd, 1) := by decide +kernel
theorem d_LW_law_1137 : decode b_LW_law 1137 = .ok (.iaload, 1) := by decide +kernel
theorem d_LW_law_1138 : decode b_LW_law 1138 = .ok (.invokevirtual 141, 3) := by decide +kernel
theorem d_LW_law_1141 : decode b_LW_law 1141 = .ok (.istore 6, 2) := by decide +kernel
theorem d_LW_law_1143 : decode b_LW_law 1143 = .ok (.aload_n 2, 1) := by decide +kernel
theorem d_LW_law_1144 : decode b_LW_law 1144 = .ok (.invokevirtual 87, 3) := by decide +kernel
theorem d_LW_law_1147 : decode b_LW_law 1147 = .ok (.iload 5, 2) := by decide +kernel
theorem d_LW_law_1149 : decode b_LW_law 1149 = .ok (.if_icmp .eq 5, 3) := by decide +kernel
theorem d_LW_law_1152 : decode b_LW_law 1152 = .ok (.iconst 0, 1) := by decide +kernel
theorem d_LW_law_1153 : decode b_LW_law 1153 = .ok (.ireturn, 1) := by decide +kernel
theorem d_LW_law_1154 : decode b_LW_law 1154 = .ok (.iload 5, 2) := by decide +kernel
theorem d_LW_law_1156 : decode b_LW_law 1156 = .ok (.ifCond .ne 15, 3) := by decide +kernel
theorem d_LW_law_1159 : decode b_LW_law 1159 = .ok (.aload_n 3, 1) := by decide +kernel
theorem d_LW_law_1160 : decode b_LW_law 1160 = .ok (.iconst 0, 1) := by decide +kernel
theorem d_LW_law_1161 : decode b_LW_law 1161 = .ok (.laload, 1) := by decide +kernel
theorem d_LW_law_1162 : decode b_LW_law 1162 = .ok (.iload 6, 2) := by decide +kernel
theorem d_LW_law_1164 : decode b_LW_law 1164 = .ok (.i2l, 1) := by decide +kernel
theorem d_LW_law_1165 : decode b_LW_law 1165 = .ok (.lcmp, 1) := by decide +kernel
theorem d_LW_law_1166 : decode b_LW_law 1166 = .ok (.ifCond .eq 5, 3) := by decide +kernel
theorem d_LW_law_1169 : decode b_LW_law 1169 = .ok (.iconst 0, 1) := by decide +kernel
theorem d_LW_law_1170 : decode b_LW_law 1170 = .ok (.ireturn, 1) := by decide +kernel
theorem d_LW_law_1171 : decode b_LW_law 1171 = .ok (.goto 58, 3) := by decide +kernel
theorem d_LW_law_1174 : decode b_LW_law 1174 = .ok (.aload_n 1, 1) := by decide +kernel
theorem d_LW_law_1175 : decode b_LW_law 1175 = .ok (.aload_n 0, 1) := by decide +kernel
theorem d_LW_law_1176 : decode b_LW_law 1176 = .ok (.iload 4, 2) := by decide +kernel
theorem d_LW_law_1178 : decode b_LW_law 1178 = .ok (.iconst 1, 1) := by decide +kernel
theorem d_LW_law_1179 : decode b_LW_law 1179 = .ok (.iadd, 1) := by decide +kernel
theorem d_LW_law_1180 : decode b_LW_law 1180 = .ok (.iaload, 1) := by decide +kernel
theorem d_LW_law_1181 : decode b_LW_law 1181 = .ok (.aload_n 3, 1) := by decide +kernel
theorem d_LW_law_1182 : decode b_LW_law 1182 = .ok (.invokestatic 142, 3) := by decide +kernel
theorem d_LW_law_1185 : decode b_LW_law 1185 = .ok (.istore 5, 2) := by decide +kernel
theorem d_LW_law_1187 : decode b_LW_law 1187 = .ok (.aload_n 2, 1) := by decide +kernel
theorem d_LW_law_1188 : decode b_LW_law 1188 = .ok (.aload_n 0, 1) := by decide +kernel
theorem d_LW_law_1189 : decode b_LW_law 1189 = .ok (.iload 4, 2) := by decide +kernel
theorem d_LW_law_1191 : decode b_LW_law 1191 = .ok (.iconst 1, 1) := by decide +kernel
theorem d_LW_law_1192 : decode b_LW_law 1192 = .ok (.iadd, 1) := by decide +kernel
theorem d_LW_law_1193 : decode b_LW_law 1193 = .ok (.iaload, 1) := by decide +kernel
theorem d_LW_law_1194 : decode b_LW_law 1194 = .ok (.invokevirtual 144, 3) := by decide +kernel
theorem d_LW_law_1197 : decode b_LW_law 1197 = .ok (.lstore 6, 2) := by decide +kernel
theorem d_LW_law_1199 : decode b_LW_law 1199 = .ok (.aload_n 2, 1) := by decide +kernel
theorem d_LW_law_1200 : decode b_LW_law 1200 = .ok (.invokevirtual 87, 3) := by decide +kernel
theorem d_LW_law_1203 : decode b_LW_law 1203 = .ok (.iload 5, 2) := by decide +kernel
theorem d_LW_law_1205 : decode b_LW_law 1205 = .ok (.if_icmp .eq 5, 3) := by decide +kernel
theorem d_LW_law_1208 : decode b_LW_law 1208 = .ok (.iconst 0, 1) := by decide +kernel
theorem d_LW_law_1209 : decode b_LW_law 1209 = .ok (.ireturn, 1) := by decide +kernel
theorem d_LW_law_1210 : decode b_LW_law 1210 = .ok (.iload 5, 2) := by decide +kernel
theorem d_LW_law_1212 : decode b_LW_law 1212 = .ok (.ifCond .ne 14, 3) := by decide +kernel
theorem d_LW_law_1215 : decode b_LW_law 1215 = .ok (.aload_n 3, 1) := by decide +kernel
theorem d_LW_law_1216 : decode b_LW_law 1216 = .ok (.iconst 0, 1) := by decide +kernel
theorem d_LW_law_1217 : decode b_LW_law 1217 = .ok (.laload, 1) := by decide +kernel
theorem d_LW_law_1218 : decode b_LW_law 1218 = .ok (.lload 6, 2) := by decide +kernel
theorem d_LW_law_1220 : decode b_LW_law 1220 = .ok (.lcmp, 1) := by decide +kernel
theorem d_LW_law_1221 : decode b_LW_law 1221 = .ok (.ifCond .eq 5, 3) := by decide +kernel
theorem d_LW_law_1224 : decode b_LW_law 1224 = .ok (.iconst 0, 1) := by decide +kernel
theorem d_LW_law_1225 : decode b_LW_law 1225 = .ok (.ireturn, 1) := by decide +kernel
theorem d_LW_law_1226 : decode b_LW_law 1226 = .ok (.goto 3, 3) := by decide +kernel
theorem d_LW_law_1229 : decode b_LW_law 1229 = .ok (.iinc 4 8, 3) := by decide +kernel
theorem d_LW_law_1232 : decode b_LW_law 1232 = .ok (.goto (-1209), 3) := by decide +kernel
theorem d_LW_law_1235 : decode b_LW_law 1235 = .ok (.iconst 1, 1) := by decide +kernel
theorem d_LW_law_1236 : decode b_LW_law 1236 = .ok (.ireturn, 1) := by decide +kernel
end
section
/-! what stands for the whole run: the law's start s0, the classes' numbers; every word of the tables at every later state -/
section XGA
/-- the start; the classes' numbers and slots; the classes of int[], long[], Motion[] -/
abbrev xg_G : Type := State × va_G × ClassId × ClassId × ClassId
def xg_ok (w : Cond) : Bool := (w.onTables && w.keepsH) || goodWord w
theorem xg_word {args a' : Array Value} {s U : State} (hW : s.WarmedH U.vm) {w : Cond} (hk : xg_ok w = true) (h : w.before args s = true) : w.before a' U = true := by
  simp only [xg_ok, Bool.or_eq_true, Bool.and_eq_true] at hk
  rcases hk with ⟨h1, h2⟩ | h1
  · have h3 := Cond.onTables_warmH (args' := a') (T := U) hW h1 h2 h
    rwa [State.setVm_self] at h3
  · exact word_at hW (good_of_word h1) h
/-- the words that stand at every later state -/
def xg_st : Cond → Bool
  | .castable _ _ => true
  | .declares _ => true
  | w => xg_ok w
theorem xg_stable {args a' : Array Value} {s U : State} (hW : s.WarmedH U.vm) {w : Cond} (hk : xg_st w = true) (h : w.before args s = true) : w.before a' U = true := by
  by_cases h1 : xg_ok w = true
  · exact xg_word hW h1 h
  · cases w with
    | castable a b =>
      have e1 := Cond.castable_setVm (args := args) hW.alike a b
      have e2 := Cond.onTables_vm (A := args) (A' := a') (U := s) (U' := U) U.vm (.castable a b) rfl
      rw [State.setVm_self] at e2
      rw [← e2, e1]
      exact h
    | declares y =>
      have e1 := Cond.declares_setVm (args := args) hW.alike y
      have e2 := Cond.onTables_vm (A := args) (A' := a') (U := s) (U' := U) U.vm (.declares y) rfl
      rw [State.setVm_self] at e2
      rw [← e2, e1]
      exact h
    | _ => exact absurd hk h1
theorem xg_string {args a' : Array Value} {s U : State} (hW : s.WarmedH U.vm) {own tx : String} {k : Nat} (h : (Cond.stringRef own k tx).before args s = true) : (Cond.stringRef own k tx).before a' U = true := by
  have h0 : (Cond.stringRef own k tx).before #[] s = true := h
  have hc : ∃ c, s.vm.findClass own = some c := by
    cases hf : s.vm.findClass own with
    | none => simp [Cond.before, Cond.holds, Cond.value, hf] at h
    | some c => exact ⟨c, rfl⟩
  obtain ⟨c, hc⟩ := hc
  obtain ⟨k9, cf9, i9, a9, -, -, -, -, -, hev⟩ := Cond.stringRef_spec hc h0
  exact (vk_R.warm hW (vk_R.of h0 hev)).1
/-- where a static field lies: seen from a later state whose old cells are as they were -/
theorem xg_lays {args a' : Array Value} {s U : State} {C n d : String} (hW : s.WarmedH U.vm) (hO : ∀ q : Nat, q < s.heap.size → U.heap[q]? = s.heap[q]?) (h : (Cond.laysStatic C n d).before args s = true) : (Cond.laysStatic C n d).before a' U = true := by
  obtain ⟨c, k, i, f, a, cell, h1, h2, h3, h4, h5, h6, h7, h8, h9⟩ := Cond.laysStatic_spec h
  obtain ⟨k', hi', he⟩ := State.fieldFound?_setVm hW.alike h2
  show (Cond.laysStatic C n d).holds a' U none U [] = true
  exact Cond.laysStatic_of (by rw [hW.alike.findClass]; exact h1) hi' h3 (by rw [he]; exact h4) (by rw [hO a (Array.getElem?_eq_some_iff.mp h5).1]; exact h5) h6 h7 h8 (by rw [he]; exact h9)
theorem xg_isRef {args a' : Array Value} {s U : State} {C n d : String} (hW : s.WarmedH U.vm) (hO : ∀ q : Nat, q < s.heap.size → U.heap[q]? = s.heap[q]?) (hl : (Cond.laysStatic C n d).before args s = true) (h : (Cond.isRef (.static C n d)).before args s = true) : (Cond.isRef (.static C n d)).before a' U = true := by
  obtain ⟨c, k, i, f, a, cell, h1, h2, h3, h4, h5, h6, h7, h8, h9⟩ := Cond.laysStatic_spec hl
  obtain ⟨k', hi', he⟩ := State.fieldFound?_setVm hW.alike h2
  have h5' : U.heap[a]? = some cell := by rw [hO a (Array.getElem?_eq_some_iff.mp h5).1]; exact h5
  have e1 : (Term.static C n d).eval args s none [] s = cell.slots[f.slot]? := by
    simp [Term.eval, State.fieldNamed?, h2, h3, h4, h5, h6]
  have e2 : (Term.static C n d).eval a' U none [] U = cell.slots[f.slot]? := by
    have hi2 : U.fieldFound? C n d = some (c, k', i, f) := hi'
    simp [Term.eval, State.fieldNamed?, hi2, h3, show k'.statics = some a by rw [he]; exact h4, h5', h6]
  simp only [Cond.before, Cond.holds, Cond.value, e1] at h
  simp only [Cond.before, Cond.holds, Cond.value, e2]
  exact h
def xg_tb : List Cond := lw_tbl.filter xg_ok
abbrev xg_tN : String := "java/lang/Throwable"
abbrev xg_Ty (G : xg_G) : List (ClassId × FieldType) := [(G.2.2.1, .int), (G.2.2.2.1, .long), (G.2.2.2.2, .object "SealTrust$Motion")]
/-- the classes of exceptions, and which is not which -/
def xg_ne : List (String × String) := [("java/lang/IllegalArgumentException", "java/util/NoSuchElementException"), ("java/lang/IllegalStateException", "java/util/NoSuchElementException"), ("java/lang/ArithmeticException", "java/util/NoSuchElementException"), ("java/lang/ArithmeticException", "java/lang/IllegalStateException"), ("java/lang/IllegalStateException", "java/lang/IllegalArgumentException")]
/-- what the start says -/
def xg_F (G : xg_G) : Prop :=
  (∀ w ∈ lw_tbl, w.before #[] G.1 = true) ∧ va_K G.2.1 cl_all (xg_Ty G) G.1 ∧ (Cond.isRef (.static xg_tN "UNASSIGNED_STACK" "[Ljava/lang/StackTraceElement;")).before #[] G.1 = true ∧ (Cond.isRef (.static xg_tN "SUPPRESSED_SENTINEL" "Ljava/util/List;")).before #[] G.1 = true ∧ (∀ q ∈ xg_ne, va_Nc q.1 q.2 G.1)
theorem xg_w {G : xg_G} {s : State} (hg : xg_F G) (hw : G.1.WarmedH s.vm) {w : Cond} (hm : w ∈ lw_tbl) (hk : xg_st w = true) (args : Array Value) : w.before args s = true := xg_stable hw hk (hg.1 w hm)
theorem xg_t {G : xg_G} {s : State} (hg : xg_F G) (hw : G.1.WarmedH s.vm) (args : Array Value) : ∀ w ∈ xg_tb, w.before args s = true := fun w h => xg_word hw (List.mem_filter.mp h).2 (hg.1 w (List.mem_filter.mp h).1)
theorem xg_k {G : xg_G} {s : State} (hg : xg_F G) (hw : G.1.WarmedH s.vm) : va_K G.2.1 cl_all (xg_Ty G) s := va_K.moved hw.alike hg.2.1
/-- a method's start: its arguments, the heap, tables that are the start's or warmer -/
def xg_Pc (G : xg_G) (av : List Value) (H : Heap) : Array Value → State → Prop := fun v U => v = av.toArray ∧ U.heap = H ∧ G.1.WarmedH U.vm
theorem xg_blind {G : xg_G} {av : List Value} {H : Heap} : FrameBlind (xg_Pc G av H) := fun _ U g mk h => ⟨h.1, (xc_hpc U g mk _).trans h.2.1, h.2.2⟩
theorem xg_pre {G : xg_G} {av : List Value} {H : Heap} {s : State} (hw : G.1.WarmedH s.vm) : ∀ U : State, U.heap = H → s.WarmedH U.vm → xg_Pc G av H av.toArray U := fun U h hW => ⟨rfl, h, State.WarmedH.trans hw hW⟩
/-- the old cells are as they were at the start -/
def xg_O (G : xg_G) (H : Heap) : Prop := ∀ q : Nat, q < G.1.heap.size → H[q]? = G.1.heap[q]?
theorem in_BU : ∀ w ∈ u_ws "SealTrust$Buffer" T_BU 2, w ∈ xg_tb := by decide +kernel
theorem in_KE : ∀ w ∈ u_ws "SealTrust$Key" T_KE 11, w ∈ xg_tb := by decide +kernel
theorem in_MO : ∀ w ∈ u_ws "SealTrust$Motion" T_MO 8, w ∈ xg_tb := by decide +kernel
theorem in_ST : ∀ w ∈ u_ws "SealTrust" T_ST 7, w ∈ xg_tb := by decide +kernel
theorem in_MD : ∀ w ∈ u_ws "SealTrustModel" T_MD 23, w ∈ xg_tb := by decide +kernel
section Sites
variable {p : Program} {l : Launch} {e : Env} {R : Room} {s : State} {m : MethodId} {args : Array Value} {below : List Frame} {meth : Method} {c : Code} {H : Heap} {locs : List Loc} {cells slots : Nat} {G : xg_G}
variable {y : MethodName} {cc bytes : ByteArray} {maxL nL n index kw pc : Nat} {rm : Room} {post : xc_R → Heap → Prop} {A : Nat → Prop} {own host : String} {b : Nat} {As rest st0 : List Value} {ls : Array Slot} {ret : Option FieldType}
/-- a call of a static method by the entry 'index' of the class 'own' -/
def xg_siteS (own : String) (index : Nat) (y : MethodName) (bytes : ByteArray) (maxL : Nat) (ret : Option FieldType) (n : Nat) : Prop :=
  Cond.methodLink own index y ∈ lw_tbl ∧ Cond.static y ∈ lw_tbl ∧ Cond.initialized y.cls ∈ lw_tbl ∧ Cond.code y bytes maxL ret ∈ lw_tbl ∧ xc_no y ∧ (parseMethodDescriptor y.desc).map (fun d => d.parameters.length) = some n
/-- .. of a nest mate -/
def xg_siteSN (own : String) (index : Nat) (y : MethodName) (host : String) (bytes : ByteArray) (maxL : Nat) (ret : Option FieldType) (n : Nat) : Prop :=
  Cond.methodLinkNest own index y host ∈ lw_tbl ∧ Cond.static y ∈ lw_tbl ∧ Cond.initialized y.cls ∈ lw_tbl ∧ Cond.code y bytes maxL ret ∈ lw_tbl ∧ xc_no y ∧ (parseMethodDescriptor y.desc).map (fun d => d.parameters.length) = some n
/-- .. of a static method with a table of handlers -/
def xg_siteSW (own : String) (index : Nat) (y : MethodName) (bytes : ByteArray) (maxL : Nat) (ret : Option FieldType) (hh : List (Nat × Nat × Nat × Nat)) (n : Nat) : Prop :=
  Cond.methodLink own index y ∈ lw_tbl ∧ Cond.static y ∈ lw_tbl ∧ Cond.initialized y.cls ∈ lw_tbl ∧ Cond.codeWith y bytes maxL ret hh ∈ lw_tbl ∧ xc_no y ∧ (parseMethodDescriptor y.desc).map (fun d => d.parameters.length) = some n
/-- .. of an object's method -/
def xg_siteV (own : String) (index : Nat) (y : MethodName) (bytes : ByteArray) (maxL : Nat) (ret : Option FieldType) (n : Nat) : Prop :=
  Cond.methodLink own index y ∈ lw_tbl ∧ Cond.instanceMethod y ∈ lw_tbl ∧ Cond.selects y.cls y y ∈ lw_tbl ∧ Cond.initialized y.cls ∈ lw_tbl ∧ Cond.code y bytes maxL ret ∈ lw_tbl ∧ xc_no y ∧ (parseMethodDescriptor y.desc).map (fun d => d.parameters.length) = some n
/-- .. of a constructor -/
def xg_siteI (own : String) (index : Nat) (y : MethodName) (bytes : ByteArray) (maxL : Nat) (n : Nat) : Prop :=
  Cond.methodLink own index y ∈ lw_tbl ∧ Cond.instanceMethod y ∈ lw_tbl ∧ Cond.initialized y.cls ∈ lw_tbl ∧ Cond.code y bytes maxL none ∈ lw_tbl ∧ xc_no y ∧ (parseMethodDescriptor y.desc).map (fun d => d.parameters.length) = some n ∧ y.name = "<init>"
theorem xg_room (h : (rest.map fun v => v.category).sum ≤ kw) : 2 * (F0 m pc ls st0).monitorRoom + (rest.map fun v => v.category).sum ≤ kw := by
  have h1 : (F0 m pc ls st0).monitorRoom = 0 := rfl
  rw [h1]
  omega
theorem xg_runS (hs : xg_siteS own index y bytes maxL ret n) (hg : xg_F G) (hw : G.1.WarmedH s.vm) (S : xc_Fix p m c cc nL s own) (hM : xc_Met l y (.code y bytes maxL ret) rm (xg_Pc G As H) post A) (hf : xc_Fits R rm maxL kw cells slots)
    (hn : As.length = n) (hsize : ls.size = nL) (hstack : st0 = As.reverse ++ rest) (hW : (rest.map fun v => v.category).sum ≤ kw) (hdg : decode cc pc = .ok (.invokestatic index, 3)) : xc_Run p l e R s m args below meth c H locs cells slots (F0 m pc ls st0) rest rm.cells rm.slots post A :=
  xc_runS S hM (xc_C.of (xg_w hg hw hs.2.2.2.1 rfl args) hs.2.2.2.2.2) (xg_w hg hw hs.1 rfl args) (xg_w hg hw hs.2.1 rfl args) (xg_w hg hw hs.2.2.1 rfl args) hs.2.2.2.2.1 hf xg_blind (xg_pre hw) rfl hn hsize hstack (xg_room hW) hdg
theorem xg_runSN (hs : xg_siteSN own index y host bytes maxL ret n) (hg : xg_F G) (hw : G.1.WarmedH s.vm) (S : xc_Fix p m c cc nL s own) (hM : xc_Met l y (.code y bytes maxL ret) rm (xg_Pc G As H) post A) (hf : xc_Fits R rm maxL kw cells slots)
    (hn : As.length = n) (hsize : ls.size = nL) (hstack : st0 = As.reverse ++ rest) (hW : (rest.map fun v => v.category).sum ≤ kw) (hdg : decode cc pc = .ok (.invokestatic index, 3)) : xc_Run p l e R s m args below meth c H locs cells slots (F0 m pc ls st0) rest rm.cells rm.slots post A :=
  xc_runSN S hM (xc_C.of (xg_w hg hw hs.2.2.2.1 rfl args) hs.2.2.2.2.2) (xg_w hg hw hs.1 rfl args) (xg_w hg hw hs.2.1 rfl args) (xg_w hg hw hs.2.2.1 rfl args) hs.2.2.2.2.1 hf xg_blind (xg_pre hw) rfl hn hsize hstack (xg_room hW) hdg
theorem xg_runSW {hh : List (Nat × Nat × Nat × Nat)} (hs : xg_siteSW own index y bytes maxL ret hh n) (hg : xg_F G) (hw : G.1.WarmedH s.vm) (S : xc_Fix p m c cc nL s own) (hM : xc_Met l y (.codeWith y bytes maxL ret hh) rm (xg_Pc G As H) post A) (hf : xc_Fits R rm maxL kw cells slots)
    (hn : As.length = n) (hsize : ls.size = nL) (hstack : st0 = As.reverse ++ rest) (hW : (rest.map fun v => v.category).sum ≤ kw) (hdg : decode cc pc = .ok (.invokestatic index, 3)) : xc_Run p l e R s m args below meth c H locs cells slots (F0 m pc ls st0) rest rm.cells rm.slots post A :=
  xc_runS S hM (xc_C.ofW (xg_w hg hw hs.2.2.2.1 rfl args) hs.2.2.2.2.2) (xg_w hg hw hs.1 rfl args) (xg_w hg hw hs.2.1 rfl args) (xg_w hg hw hs.2.2.1 rfl args) hs.2.2.2.2.1 hf xg_blind (xg_pre hw) rfl hn hsize hstack (xg_room hW) hdg
theorem xg_runV (hs : xg_siteV own index y bytes maxL ret n) (hg : xg_F G) (hw : G.1.WarmedH s.vm) (S : xc_Fix p m c cc nL s own) (hO : xc_O s H y.cls b) (hM : xc_Met l y (.code y bytes maxL ret) rm (xg_Pc G (.ref b :: As) H) post A) (hf : xc_Fits R rm maxL kw cells slots)
    (hn : As.length = n) (hsize : ls.size = nL) (hstack : st0 = As.reverse ++ .ref b :: rest) (hW : (rest.map fun v => v.category).sum ≤ kw) (hdg : decode cc pc = .ok (.invokevirtual index, 3)) : xc_Run p l e R s m args below meth c H locs cells slots (F0 m pc ls st0) rest rm.cells rm.slots post A :=
  xc_runV S hM (xc_C.of (xg_w hg hw hs.2.2.2.2.1 rfl args) hs.2.2.2.2.2.2) (xg_w hg hw hs.1 rfl args) (xg_w hg hw hs.2.1 rfl args) (xg_w hg hw hs.2.2.1 rfl args) (xg_w hg hw hs.2.2.2.1 rfl args) hs.2.2.2.2.2.1 hf hO xg_blind (xg_pre hw) rfl hn hsize hstack (xg_room hW) hdg
theorem xg_runI (hs : xg_siteI own index y bytes maxL n) (hg : xg_F G) (hw : G.1.WarmedH s.vm) (S : xc_Fix p m c cc nL s own) (hM : xc_Met l y (.code y bytes maxL none) rm (xg_Pc G (.ref b :: As) H) post A) (hf : xc_Fits R rm maxL kw cells slots)
    (hn : As.length = n) (hsize : ls.size = nL) (hstack : st0 = As.reverse ++ .ref b :: rest) (hW : (rest.map fun v => v.category).sum ≤ kw) (hdg : decode cc pc = .ok (.invokespecial index, 3)) : xc_Run p l e R s m args below meth c H locs cells slots (F0 m pc ls st0) rest rm.cells rm.slots post A :=
  xc_runI S hM (xg_w hg hw hs.2.2.2.1 rfl args) hs.2.2.2.2.2.1 (xg_w hg hw hs.1 rfl args) (xg_w hg hw hs.2.1 rfl args) (xg_w hg hw hs.2.2.1 rfl args) hs.2.2.2.2.2.2 hs.2.2.2.2.1 hf xg_blind (xg_pre hw) rfl hn hsize hstack (xg_room hW) hdg
end Sites
end XGA
end
section
/-! a private constructor of a nest mate; catching, with what the start says of the classes -/
section XGN
variable {p : Program} {l : Launch} {e : Env} {R : Room} {s : State} {m : MethodId} {args : Array Value} {below : List Frame} {meth : Method} {c : Code} {H : Heap} {locs : List Loc} {cells slots : Nat} {G : xg_G}
variable {y : MethodName} {cc bytes : ByteArray} {maxL nL n index kw pc : Nat} {rm : Room} {Pc : Array Value → State → Prop} {post : xc_R → Heap → Prop} {A : Nat → Prop} {own host : String} {b : Nat} {As rest st0 : List Value} {ls : Array Slot} {g : JFrame}
theorem xc_runIN (S : xc_Fix p m c cc nL s own) (hM : xc_Met l y (.code y bytes maxL none) rm Pc post A) (hcode : (Cond.code y bytes maxL none).before args s = true) (hd : (parseMethodDescriptor y.desc).map (fun d => d.parameters.length) = some n) (hlink : (Cond.methodLinkNest own index y host).before args s = true) (hinst : (Cond.instanceMethod y).before args s = true) (hini : (Cond.initialized y.cls).before args s = true) (hy1 : y.name = "<init>") (hy : xc_no y) (hf : xc_Fits R rm maxL kw cells slots)
    (hb : FrameBlind Pc) (hPc : ∀ U : State, U.heap = H → s.WarmedH U.vm → Pc (Value.ref b :: As).toArray U) (hg : g.method = m) (hn : As.length = n) (hsize : g.locals.size = nL) (hstack : g.stack = As.reverse ++ .ref b :: rest) (hW : 2 * g.monitorRoom + (rest.map fun v => v.category).sum ≤ kw) (hdg : decode cc g.pc = .ok (.invokespecial index, 3)) :
    xc_Run p l e R s m args below meth c H locs cells slots g rest rm.cells rm.slots post A := by
  have hC : xc_C s y (.code y bytes maxL none) maxL n := xc_C.of hcode hd
  obtain ⟨hx, hbb, hml, ho⟩ := S
  subst hg
  intro T hT X
  have hpl : e.platform.magicAccessors = ({} : Platform).magicAccessors := by rw [X.admits.platform]
  have hlen : ∀ sig, parseMethodDescriptor y.desc = some sig → As.length = sig.parameters.length := fun sig h => by
    rw [h] at hd
    exact hn.trans (Option.some.inj hd).symm
  obtain ⟨mk, methM, cM, kP, vm₁, hnm, hmM, -, -, -, -, hkP, -, hW₁, hstep₁⟩ := Steps.initColdArgsNest (e := e) X.here hx X.warmed hpl ho hy1 hy hlink hinst hcode (f := g) rfl hlen hstack (by rw [hbb]; exact hdg)
  have X₁ := X.noted hW₁
  exact xc_close hT X₁ hM hC hini hnm rfl (hsize.trans hml.symm) (by rw [hbb]; exact hdg) hW hf hb hPc hstep₁
def xg_siteIN (own : String) (index : Nat) (y : MethodName) (host : String) (bytes : ByteArray) (maxL : Nat) (n : Nat) : Prop :=
  Cond.methodLinkNest own index y host ∈ lw_tbl ∧ Cond.instanceMethod y ∈ lw_tbl ∧ Cond.initialized y.cls ∈ lw_tbl ∧ Cond.code y bytes maxL none ∈ lw_tbl ∧ xc_no y ∧ (parseMethodDescriptor y.desc).map (fun d => d.parameters.length) = some n ∧ y.name = "<init>"
theorem xg_runIN (hs : xg_siteIN own index y host bytes maxL n) (hg : xg_F G) (hw : G.1.WarmedH s.vm) (S : xc_Fix p m c cc nL s own) (hM : xc_Met l y (.code y bytes maxL none) rm (xg_Pc G (.ref b :: As) H) post A) (hf : xc_Fits R rm maxL kw cells slots)
    (hn : As.length = n) (hsize : ls.size = nL) (hstack : st0 = As.reverse ++ .ref b :: rest) (hW : (rest.map fun v => v.category).sum ≤ kw) (hdg : decode cc pc = .ok (.invokespecial index, 3)) : xc_Run p l e R s m args below meth c H locs cells slots (F0 m pc ls st0) rest rm.cells rm.slots post A :=
  xc_runIN S hM (xg_w hg hw hs.2.2.2.1 rfl args) hs.2.2.2.2.2.1 (xg_w hg hw hs.1 rfl args) (xg_w hg hw hs.2.1 rfl args) (xg_w hg hw hs.2.2.1 rfl args) hs.2.2.2.2.2.2 hs.2.2.2.2.1 hf xg_blind (xg_pre hw) rfl hn hsize hstack (xg_room hW) hdg
/-- caught by the row x of this method's table; the rows ahead don't take it -/
theorem xg_catch {Q : State → Prop} {name E : String} {ce : Cell} {q : Addr} (hown : s.vm.findClass own = some m.cls) (pre : List ExceptionTableEntry) (x : ExceptionTableEntry) (suf : List ExceptionTableEntry) (hsplit : c.exceptionTable.toList = pre ++ x :: suf)
    (hpass : ∀ z ∈ pre, z.catchType ≠ 0 ∧ ∃ nm : String, (Cond.classLink own z.catchType nm).before args s = true ∧ va_Nc E nm s) (hx : covers x pc = true) (h0 : x.catchType ≠ 0)
    (hlink : (Cond.classLink own x.catchType name).before args s = true) (hcast : (Cond.castable E name).before args s = true) (hce : H[q]? = some ce) (hcv : ce.vm = .none) (hcl : s.vm.findClass E = some ce.cls)
    (kk : W p l e R s m args below meth c H locs cells slots Q (F0 m x.handlerPc ls [.ref q])) : xc_W p l e R s m args below meth c H locs cells slots Q (F0 m pc ls rest) q := by
  intro T hT X
  have hpl : e.platform.magicAccessors = ({} : Platform).magicAccessors := by rw [X.admits.platform]
  obtain ⟨c3, c4, hc3, hc4, hasg⟩ := Cond.castable_spec hcast
  cases Option.some.inj (hc3.symm.trans hcl)
  obtain ⟨k9, h9, -⟩ := Vm.findClass_spec hcl
  obtain ⟨vm', X', st⟩ := X.thenCaughtThrough q (g := F0 m pc ls rest) rfl (Steps.refl _) (by rw [hT]; exact hce) (by rw [hcv]; rfl) ⟨k9, h9⟩ pre x suf hsplit
    (fun z hz => by
      obtain ⟨hz0, nm, hl1, a8, b8, h1, h2, h3⟩ := hpass z hz
      obtain ⟨c6, hc6, hcl6⟩ := Cond.classLink_spec hown hl1 e.platform hpl
      cases Option.some.inj (h1.symm.trans hcl)
      cases Option.some.inj (h2.symm.trans hc6)
      exact Or.inr ⟨hz0, _, hcl6, h3⟩) hx (X.catches_of_link hown h0 hlink hc4 hasg).1
  obtain ⟨t, a1, b1⟩ := kk (T.setVm vm') hT X'
  exact ⟨t, st.trans a1, b1⟩
end XGN
end
section
/-! the sites: words of the tables by their places; fields; calls; constants -/
section XSI
theorem wd_1 : (Cond.methodLinkNest "SealTrust" 9 y_KE_init "SealTrust") ∈ lw_tbl := List.mem_append_right _ (List.mem_append_left _ (List.mem_of_getElem? (i := 24) rfl))
theorem wd_2 : (Cond.instanceMethod y_KE_init) ∈ lw_tbl := List.mem_append_right _ (List.mem_append_left _ (List.mem_of_getElem? (i := 25) rfl))
theorem wd_3 : (Cond.initialized "SealTrust$Key") ∈ lw_tbl := List.mem_append_right _ (List.mem_append_left _ (List.mem_of_getElem? (i := 2) rfl))
theorem wd_4 : (Cond.code y_KE_init prog_3_method_1_code 1 none) ∈ lw_tbl := List.mem_append_right _ (List.mem_append_left _ (List.mem_of_getElem? (i := 26) rfl))
theorem wd_5 : (Cond.fieldLink "SealTrust" 10 "SealTrust" "key" "LSealTrust$Key;") ∈ lw_tbl := List.mem_append_right _ (List.mem_append_left _ (List.mem_of_getElem? (i := 125) rfl))
theorem wd_6 : (Cond.methodLinkNest "SealTrust" 18 y_BU_init "SealTrust") ∈ lw_tbl := List.mem_append_right _ (List.mem_append_left _ (List.mem_of_getElem? (i := 69) rfl))
theorem wd_7 : (Cond.instanceMethod y_BU_init) ∈ lw_tbl := List.mem_append_right _ (List.mem_append_left _ (List.mem_of_getElem? (i := 70) rfl))
theorem wd_8 : (Cond.initialized "SealTrust$Buffer") ∈ lw_tbl := List.mem_append_right _ (List.mem_append_left _ (List.mem_of_getElem? (i := 3) rfl))
theorem wd_9 : (Cond.code y_BU_init prog_2_method_1_code 1 none) ∈ lw_tbl := List.mem_append_right _ (List.mem_append_left _ (List.mem_of_getElem? (i := 71) rfl))
theorem wd_10 : (Cond.fieldLink "SealTrust" 19 "SealTrust" "buffer" "LSealTrust$Buffer;") ∈ lw_tbl := List.mem_append_right _ (List.mem_append_left _ (List.mem_of_getElem? (i := 126) rfl))
theorem wd_11 : (Cond.fieldLink "SealTrust" 25 "SealTrust" "motions" "[LSealTrust$Motion;") ∈ lw_tbl := List.mem_append_right _ (List.mem_append_left _ (List.mem_of_getElem? (i := 127) rfl))
theorem wd_12 : (Cond.methodLinkNest "SealTrust" 29 y_MO_init "SealTrust") ∈ lw_tbl := List.mem_append_right _ (List.mem_append_left _ (List.mem_of_getElem? (i := 84) rfl))
theorem wd_13 : (Cond.instanceMethod y_MO_init) ∈ lw_tbl := List.mem_append_right _ (List.mem_append_left _ (List.mem_of_getElem? (i := 85) rfl))
theorem wd_14 : (Cond.initialized "SealTrust$Motion") ∈ lw_tbl := List.mem_append_right _ (List.mem_append_left _ (List.mem_of_getElem? (i := 4) rfl))
theorem wd_15 : (Cond.code y_MO_init prog_4_method_1_code 1 none) ∈ lw_tbl := List.mem_append_right _ (List.mem_append_left _ (List.mem_of_getElem? (i := 86) rfl))
theorem wd_16 : (Cond.fieldLink "SealTrust" 30 "SealTrust" "sealed" "[I") ∈ lw_tbl := List.mem_append_right _ (List.mem_append_left _ (List.mem_of_getElem? (i := 128) rfl))
theorem wd_17 : (Cond.static y_ST_isSafePrime) ∈ lw_tbl := List.mem_append_right _ (List.mem_append_left _ (List.mem_of_getElem? (i := 156) rfl))
theorem wd_18 : (Cond.initialized "SealTrust") ∈ lw_tbl := List.mem_append_right _ (List.mem_append_left _ (List.mem_of_getElem? (i := 1) rfl))
theorem wd_19 : (Cond.code y_ST_isSafePrime prog_1_method_28_code 1 (some .boolean)) ∈ lw_tbl := List.mem_append_right _ (List.mem_append_left _ (List.mem_of_getElem? (i := 157) rfl))
theorem wd_20 : (Cond.methodLink "SealTrust" 34 y_ST_isSafePrime) ∈ lw_tbl := List.mem_append_right _ (List.mem_append_left _ (List.mem_of_getElem? (i := 155) rfl))
theorem wd_21 : (Cond.methodLink "SealTrust" 49 y_KE_begin) ∈ lw_tbl := List.mem_append_right _ (List.mem_append_left _ (List.mem_of_getElem? (i := 232) rfl))
theorem wd_22 : (Cond.instanceMethod y_KE_begin) ∈ lw_tbl := List.mem_append_right _ (List.mem_append_left _ (List.mem_of_getElem? (i := 233) rfl))
theorem wd_23 : (Cond.selects "SealTrust$Key" y_KE_begin y_KE_begin) ∈ lw_tbl := List.mem_append_right _ (List.mem_append_left _ (List.mem_of_getElem? (i := 234) rfl))
theorem wd_24 : (Cond.code y_KE_begin prog_3_method_2_code 12 none) ∈ lw_tbl := List.mem_append_right _ (List.mem_append_left _ (List.mem_of_getElem? (i := 235) rfl))
theorem wd_25 : (Cond.methodLink "SealTrust" 53 y_KE_addPolynomial) ∈ lw_tbl := List.mem_append_right _ (List.mem_append_right _ (List.mem_append_left _ (List.mem_of_getElem? (i := 5) rfl)))
theorem wd_26 : (Cond.instanceMethod y_KE_addPolynomial) ∈ lw_tbl := List.mem_append_right _ (List.mem_append_right _ (List.mem_append_left _ (List.mem_of_getElem? (i := 6) rfl)))
theorem wd_27 : (Cond.selects "SealTrust$Key" y_KE_addPolynomial y_KE_addPolynomial) ∈ lw_tbl := List.mem_append_right _ (List.mem_append_right _ (List.mem_append_left _ (List.mem_of_getElem? (i := 7) rfl)))
theorem wd_28 : (Cond.code y_KE_addPolynomial prog_3_method_3_code 8 none) ∈ lw_tbl := List.mem_append_right _ (List.mem_append_right _ (List.mem_append_left _ (List.mem_of_getElem? (i := 8) rfl)))
theorem wd_29 : (Cond.fieldLink "SealTrust" 57 "SealTrust" "motionCount" "I") ∈ lw_tbl := List.mem_append_right _ (List.mem_append_left _ (List.mem_of_getElem? (i := 129) rfl))
theorem wd_30 : (Cond.fieldLink "SealTrust" 61 "SealTrust" "sealedCount" "I") ∈ lw_tbl := List.mem_append_right _ (List.mem_append_left _ (List.mem_of_getElem? (i := 130) rfl))
theorem wd_31 : (Cond.fieldLink "SealTrust" 64 "SealTrust" "suspended" "I") ∈ lw_tbl := List.mem_append_right _ (List.mem_append_left _ (List.mem_of_getElem? (i := 131) rfl))
theorem wd_32 : (Cond.methodLink "SealTrust" 67 y_BU_room) ∈ lw_tbl := List.mem_append_right _ (List.mem_append_right _ (List.mem_append_left _ (List.mem_of_getElem? (i := 20) rfl)))
theorem wd_33 : (Cond.instanceMethod y_BU_room) ∈ lw_tbl := List.mem_append_right _ (List.mem_append_right _ (List.mem_append_left _ (List.mem_of_getElem? (i := 21) rfl)))
theorem wd_34 : (Cond.selects "SealTrust$Buffer" y_BU_room y_BU_room) ∈ lw_tbl := List.mem_append_right _ (List.mem_append_right _ (List.mem_append_left _ (List.mem_of_getElem? (i := 22) rfl)))
theorem wd_35 : (Cond.code y_BU_room prog_2_method_3_code 1 (some .int)) ∈ lw_tbl := List.mem_append_right _ (List.mem_append_right _ (List.mem_append_left _ (List.mem_of_getElem? (i := 23) rfl)))
theorem wd_36 : (Cond.methodLink "SealTrust" 73 y_BU_append) ∈ lw_tbl := List.mem_append_right _ (List.mem_append_right _ (List.mem_append_left _ (List.mem_of_getElem? (i := 25) rfl)))
theorem wd_37 : (Cond.instanceMethod y_BU_append) ∈ lw_tbl := List.mem_append_right _ (List.mem_append_right _ (List.mem_append_left _ (List.mem_of_getElem? (i := 26) rfl)))
theorem wd_38 : (Cond.selects "SealTrust$Buffer" y_BU_append y_BU_append) ∈ lw_tbl := List.mem_append_right _ (List.mem_append_right _ (List.mem_append_left _ (List.mem_of_getElem? (i := 27) rfl)))
theorem wd_39 : (Cond.code y_BU_append prog_2_method_4_code 4 none) ∈ lw_tbl := List.mem_append_right _ (List.mem_append_right _ (List.mem_append_left _ (List.mem_of_getElem? (i := 28) rfl)))
theorem wd_40 : (Cond.methodLink "SealTrust" 77 y_BU_count) ∈ lw_tbl := List.mem_append_right _ (List.mem_append_right _ (List.mem_append_left _ (List.mem_of_getElem? (i := 29) rfl)))
theorem wd_41 : (Cond.instanceMethod y_BU_count) ∈ lw_tbl := List.mem_append_right _ (List.mem_append_right _ (List.mem_append_left _ (List.mem_of_getElem? (i := 30) rfl)))
theorem wd_42 : (Cond.selects "SealTrust$Buffer" y_BU_count y_BU_count) ∈ lw_tbl := List.mem_append_right _ (List.mem_append_right _ (List.mem_append_left _ (List.mem_of_getElem? (i := 31) rfl)))
theorem wd_43 : (Cond.code y_BU_count prog_2_method_2_code 1 (some .int)) ∈ lw_tbl := List.mem_append_right _ (List.mem_append_right _ (List.mem_append_left _ (List.mem_of_getElem? (i := 32) rfl)))
theorem wd_44 : (Cond.methodLink "SealTrust" 80 y_ST_requireDocument) ∈ lw_tbl := List.mem_append_right _ (List.mem_append_right _ (List.mem_append_left _ (List.mem_of_getElem? (i := 41) rfl)))
theorem wd_45 : (Cond.instanceMethod y_ST_requireDocument) ∈ lw_tbl := List.mem_append_right _ (List.mem_append_right _ (List.mem_append_left _ (List.mem_of_getElem? (i := 43) rfl)))
theorem wd_46 : (Cond.selects "SealTrust" y_ST_requireDocument y_ST_requireDocument) ∈ lw_tbl := List.mem_append_left _ (List.mem_map.mpr ⟨(y_ST_requireDocument, 7), (List.mem_append_left _ (List.mem_of_getElem? (i := 2) rfl)), rfl⟩)
theorem wd_47 : (Cond.code y_ST_requireDocument prog_1_method_19_code 1 none) ∈ lw_tbl := List.mem_append_right _ (List.mem_append_right _ (List.mem_append_left _ (List.mem_of_getElem? (i := 44) rfl)))
theorem wd_48 : (Cond.methodLink "SealTrust" 88 y_KE_blockOf) ∈ lw_tbl := List.mem_append_right _ (List.mem_append_right _ (List.mem_append_left _ (List.mem_of_getElem? (i := 67) rfl)))
theorem wd_49 : (Cond.instanceMethod y_KE_blockOf) ∈ lw_tbl := List.mem_append_right _ (List.mem_append_right _ (List.mem_append_left _ (List.mem_of_getElem? (i := 68) rfl)))
theorem wd_50 : (Cond.selects "SealTrust$Key" y_KE_blockOf y_KE_blockOf) ∈ lw_tbl := List.mem_append_right _ (List.mem_append_right _ (List.mem_append_left _ (List.mem_of_getElem? (i := 69) rfl)))
theorem wd_51 : (Cond.code y_KE_blockOf prog_3_method_5_code 2 (some .long)) ∈ lw_tbl := List.mem_append_right _ (List.mem_append_right _ (List.mem_append_left _ (List.mem_of_getElem? (i := 70) rfl)))
theorem wd_52 : (Cond.methodLink "SealTrust" 92 y_MO_begin) ∈ lw_tbl := List.mem_append_right _ (List.mem_append_right _ (List.mem_append_left _ (List.mem_of_getElem? (i := 85) rfl)))
theorem wd_53 : (Cond.instanceMethod y_MO_begin) ∈ lw_tbl := List.mem_append_right _ (List.mem_append_right _ (List.mem_append_left _ (List.mem_of_getElem? (i := 86) rfl)))
theorem wd_54 : (Cond.selects "SealTrust$Motion" y_MO_begin y_MO_begin) ∈ lw_tbl := List.mem_append_right _ (List.mem_append_right _ (List.mem_append_left _ (List.mem_of_getElem? (i := 87) rfl)))
theorem wd_55 : (Cond.code y_MO_begin prog_4_method_2_code 3 none) ∈ lw_tbl := List.mem_append_right _ (List.mem_append_right _ (List.mem_append_left _ (List.mem_of_getElem? (i := 88) rfl)))
theorem wd_56 : (Cond.methodLink "SealTrust" 95 y_BU_clear) ∈ lw_tbl := List.mem_append_right _ (List.mem_append_right _ (List.mem_append_left _ (List.mem_of_getElem? (i := 89) rfl)))
theorem wd_57 : (Cond.instanceMethod y_BU_clear) ∈ lw_tbl := List.mem_append_right _ (List.mem_append_right _ (List.mem_append_left _ (List.mem_of_getElem? (i := 90) rfl)))
theorem wd_58 : (Cond.selects "SealTrust$Buffer" y_BU_clear y_BU_clear) ∈ lw_tbl := List.mem_append_right _ (List.mem_append_right _ (List.mem_append_left _ (List.mem_of_getElem? (i := 91) rfl)))
theorem wd_59 : (Cond.code y_BU_clear prog_2_method_5_code 1 none) ∈ lw_tbl := List.mem_append_right _ (List.mem_append_right _ (List.mem_append_left _ (List.mem_of_getElem? (i := 92) rfl)))
theorem wd_60 : (Cond.methodLink "SealTrust" 98 y_ST_motionAt) ∈ lw_tbl := List.mem_append_right _ (List.mem_append_right _ (List.mem_append_left _ (List.mem_of_getElem? (i := 101) rfl)))
theorem wd_61 : (Cond.instanceMethod y_ST_motionAt) ∈ lw_tbl := List.mem_append_right _ (List.mem_append_right _ (List.mem_append_left _ (List.mem_of_getElem? (i := 103) rfl)))
theorem wd_62 : (Cond.selects "SealTrust" y_ST_motionAt y_ST_motionAt) ∈ lw_tbl := List.mem_append_left _ (List.mem_map.mpr ⟨(y_ST_motionAt, 7), (List.mem_append_left _ (List.mem_of_getElem? (i := 4) rfl)), rfl⟩)
theorem wd_63 : (Cond.code y_ST_motionAt prog_1_method_20_code 2 (some (.object "SealTrust$Motion"))) ∈ lw_tbl := List.mem_append_right _ (List.mem_append_right _ (List.mem_append_left _ (List.mem_of_getElem? (i := 104) rfl)))
theorem wd_64 : (Cond.static y_ST_requireTrustee) ∈ lw_tbl := List.mem_append_right _ (List.mem_append_right _ (List.mem_append_left _ (List.mem_of_getElem? (i := 122) rfl)))
theorem wd_65 : (Cond.code y_ST_requireTrustee prog_1_method_21_code 1 none) ∈ lw_tbl := List.mem_append_right _ (List.mem_append_right _ (List.mem_append_left _ (List.mem_of_getElem? (i := 123) rfl)))
theorem wd_66 : (Cond.methodLink "SealTrust" 102 y_ST_requireTrustee) ∈ lw_tbl := List.mem_append_right _ (List.mem_append_right _ (List.mem_append_left _ (List.mem_of_getElem? (i := 121) rfl)))
theorem wd_67 : (Cond.static y_ST_requireOpen) ∈ lw_tbl := List.mem_append_right _ (List.mem_append_right _ (List.mem_append_left _ (List.mem_of_getElem? (i := 126) rfl)))
theorem wd_68 : (Cond.code y_ST_requireOpen prog_1_method_22_code 1 none) ∈ lw_tbl := List.mem_append_right _ (List.mem_append_right _ (List.mem_append_left _ (List.mem_of_getElem? (i := 127) rfl)))
theorem wd_69 : (Cond.methodLink "SealTrust" 106 y_ST_requireOpen) ∈ lw_tbl := List.mem_append_right _ (List.mem_append_right _ (List.mem_append_left _ (List.mem_of_getElem? (i := 125) rfl)))
theorem wd_70 : (Cond.static y_ST_requireNoVoice) ∈ lw_tbl := List.mem_append_right _ (List.mem_append_right _ (List.mem_append_left _ (List.mem_of_getElem? (i := 130) rfl)))
theorem wd_71 : (Cond.code y_ST_requireNoVoice prog_1_method_23_code 2 none) ∈ lw_tbl := List.mem_append_right _ (List.mem_append_right _ (List.mem_append_left _ (List.mem_of_getElem? (i := 131) rfl)))
theorem wd_72 : (Cond.methodLink "SealTrust" 110 y_ST_requireNoVoice) ∈ lw_tbl := List.mem_append_right _ (List.mem_append_right _ (List.mem_append_left _ (List.mem_of_getElem? (i := 129) rfl)))
theorem wd_73 : (Cond.static y_ST_isIn) ∈ lw_tbl := List.mem_append_right _ (List.mem_append_right _ (List.mem_append_left _ (List.mem_of_getElem? (i := 133) rfl)))
theorem wd_74 : (Cond.code y_ST_isIn prog_1_method_27_code 2 (some .boolean)) ∈ lw_tbl := List.mem_append_right _ (List.mem_append_right _ (List.mem_append_left _ (List.mem_of_getElem? (i := 134) rfl)))
theorem wd_75 : (Cond.methodLink "SealTrust" 114 y_ST_isIn) ∈ lw_tbl := List.mem_append_right _ (List.mem_append_right _ (List.mem_append_left _ (List.mem_of_getElem? (i := 132) rfl)))
theorem wd_76 : (Cond.methodLink "SealTrust" 120 y_KE_makePartial) ∈ lw_tbl := List.mem_append_right _ (List.mem_append_right _ (List.mem_append_left _ (List.mem_of_getElem? (i := 137) rfl)))
theorem wd_77 : (Cond.instanceMethod y_KE_makePartial) ∈ lw_tbl := List.mem_append_right _ (List.mem_append_right _ (List.mem_append_left _ (List.mem_of_getElem? (i := 138) rfl)))
theorem wd_78 : (Cond.selects "SealTrust$Key" y_KE_makePartial y_KE_makePartial) ∈ lw_tbl := List.mem_append_right _ (List.mem_append_right _ (List.mem_append_left _ (List.mem_of_getElem? (i := 139) rfl)))
theorem wd_79 : (Cond.code y_KE_makePartial prog_3_method_8_code 14 none) ∈ lw_tbl := List.mem_append_right _ (List.mem_append_right _ (List.mem_append_left _ (List.mem_of_getElem? (i := 140) rfl)))
theorem wd_80 : (Cond.methodLink "SealTrust" 123 y_MO_takeObjection) ∈ lw_tbl := List.mem_append_right _ (List.mem_append_right _ (List.mem_append_left _ (List.mem_of_getElem? (i := 165) rfl)))
theorem wd_81 : (Cond.instanceMethod y_MO_takeObjection) ∈ lw_tbl := List.mem_append_right _ (List.mem_append_right _ (List.mem_append_left _ (List.mem_of_getElem? (i := 166) rfl)))
theorem wd_82 : (Cond.selects "SealTrust$Motion" y_MO_takeObjection y_MO_takeObjection) ∈ lw_tbl := List.mem_append_right _ (List.mem_append_right _ (List.mem_append_left _ (List.mem_of_getElem? (i := 167) rfl)))
theorem wd_83 : (Cond.code y_MO_takeObjection prog_4_method_5_code 2 none) ∈ lw_tbl := List.mem_append_right _ (List.mem_append_right _ (List.mem_append_left _ (List.mem_of_getElem? (i := 168) rfl)))
theorem wd_84 : (Cond.fieldLinkNest "SealTrust" 126 "SealTrust$Motion" "objections" "I" "SealTrust") ∈ lw_tbl := List.mem_append_right _ (List.mem_append_left _ (List.mem_of_getElem? (i := 105) rfl))
theorem wd_85 : (Cond.methodLink "SealTrust" 131 y_MO_takePartial) ∈ lw_tbl := List.mem_append_right _ (List.mem_append_right _ (List.mem_append_left _ (List.mem_of_getElem? (i := 183) rfl)))
theorem wd_86 : (Cond.instanceMethod y_MO_takePartial) ∈ lw_tbl := List.mem_append_right _ (List.mem_append_right _ (List.mem_append_left _ (List.mem_of_getElem? (i := 155) rfl)))
theorem wd_87 : (Cond.selects "SealTrust$Motion" y_MO_takePartial y_MO_takePartial) ∈ lw_tbl := List.mem_append_right _ (List.mem_append_right _ (List.mem_append_left _ (List.mem_of_getElem? (i := 156) rfl)))
theorem wd_88 : (Cond.code y_MO_takePartial prog_4_method_3_code 7 none) ∈ lw_tbl := List.mem_append_right _ (List.mem_append_right _ (List.mem_append_left _ (List.mem_of_getElem? (i := 157) rfl)))
theorem wd_89 : (Cond.fieldLinkNest "SealTrust" 135 "SealTrust$Motion" "partials" "I" "SealTrust") ∈ lw_tbl := List.mem_append_right _ (List.mem_append_left _ (List.mem_of_getElem? (i := 103) rfl))
theorem wd_90 : (Cond.fieldLinkNest "SealTrust" 143 "SealTrust$Motion" "powers" "[J" "SealTrust") ∈ lw_tbl := List.mem_append_right _ (List.mem_append_left _ (List.mem_of_getElem? (i := 89) rfl))
theorem wd_91 : (Cond.fieldLinkNest "SealTrust" 147 "SealTrust$Motion" "challenges" "[I" "SealTrust") ∈ lw_tbl := List.mem_append_right _ (List.mem_append_left _ (List.mem_of_getElem? (i := 92) rfl))
theorem wd_92 : (Cond.fieldLinkNest "SealTrust" 150 "SealTrust$Motion" "answers" "[J" "SealTrust") ∈ lw_tbl := List.mem_append_right _ (List.mem_append_left _ (List.mem_of_getElem? (i := 95) rfl))
theorem wd_93 : (Cond.methodLink "SealTrust" 155 y_ST_goodPartials) ∈ lw_tbl := List.mem_append_right _ (List.mem_append_right _ (List.mem_append_left _ (List.mem_of_getElem? (i := 200) rfl)))
theorem wd_94 : (Cond.instanceMethod y_ST_goodPartials) ∈ lw_tbl := List.mem_append_right _ (List.mem_append_right _ (List.mem_append_left _ (List.mem_of_getElem? (i := 202) rfl)))
theorem wd_95 : (Cond.selects "SealTrust" y_ST_goodPartials y_ST_goodPartials) ∈ lw_tbl := List.mem_append_left _ (List.mem_map.mpr ⟨(y_ST_goodPartials, 7), (List.mem_append_left _ (List.mem_of_getElem? (i := 7) rfl)), rfl⟩)
theorem wd_96 : (Cond.code y_ST_goodPartials prog_1_method_24_code 4 (some .int)) ∈ lw_tbl := List.mem_append_right _ (List.mem_append_right _ (List.mem_append_left _ (List.mem_of_getElem? (i := 203) rfl)))
theorem wd_97 : (Cond.fieldLinkNest "SealTrust" 159 "SealTrust$Motion" "block" "J" "SealTrust") ∈ lw_tbl := List.mem_append_right _ (List.mem_append_left _ (List.mem_of_getElem? (i := 101) rfl))
theorem wd_98 : (Cond.methodLink "SealTrust" 163 y_KE_isPrimeToModulus) ∈ lw_tbl := List.mem_append_right _ (List.mem_append_right _ (List.mem_append_left _ (List.mem_of_getElem? (i := 229) rfl)))
theorem wd_99 : (Cond.instanceMethod y_KE_isPrimeToModulus) ∈ lw_tbl := List.mem_append_right _ (List.mem_append_right _ (List.mem_append_left _ (List.mem_of_getElem? (i := 214) rfl)))
theorem wd_100 : (Cond.selects "SealTrust$Key" y_KE_isPrimeToModulus y_KE_isPrimeToModulus) ∈ lw_tbl := List.mem_append_right _ (List.mem_append_right _ (List.mem_append_left _ (List.mem_of_getElem? (i := 215) rfl)))
theorem wd_101 : (Cond.code y_KE_isPrimeToModulus prog_3_method_4_code 3 (some .boolean)) ∈ lw_tbl := List.mem_append_right _ (List.mem_append_right _ (List.mem_append_left _ (List.mem_of_getElem? (i := 216) rfl)))
theorem wd_102 : (Cond.methodLink "SealTrust" 180 y_KE_signatureOf) ∈ lw_tbl := List.mem_append_right _ (List.mem_append_right _ (List.mem_append_right _ (List.mem_append_left _ (List.mem_of_getElem? (i := 8) rfl))))
theorem wd_103 : (Cond.instanceMethod y_KE_signatureOf) ∈ lw_tbl := List.mem_append_right _ (List.mem_append_right _ (List.mem_append_right _ (List.mem_append_left _ (List.mem_of_getElem? (i := 9) rfl))))
theorem wd_104 : (Cond.selects "SealTrust$Key" y_KE_signatureOf y_KE_signatureOf) ∈ lw_tbl := List.mem_append_right _ (List.mem_append_right _ (List.mem_append_right _ (List.mem_append_left _ (List.mem_of_getElem? (i := 10) rfl))))
theorem wd_105 : (Cond.code y_KE_signatureOf prog_3_method_6_code 3 (some .long)) ∈ lw_tbl := List.mem_append_right _ (List.mem_append_right _ (List.mem_append_right _ (List.mem_append_left _ (List.mem_of_getElem? (i := 11) rfl))))
theorem wd_106 : (Cond.methodLink "SealTrust" 184 y_MO_seal) ∈ lw_tbl := List.mem_append_right _ (List.mem_append_right _ (List.mem_append_right _ (List.mem_append_left _ (List.mem_of_getElem? (i := 12) rfl))))
theorem wd_107 : (Cond.instanceMethod y_MO_seal) ∈ lw_tbl := List.mem_append_right _ (List.mem_append_right _ (List.mem_append_right _ (List.mem_append_left _ (List.mem_of_getElem? (i := 13) rfl))))
theorem wd_108 : (Cond.selects "SealTrust$Motion" y_MO_seal y_MO_seal) ∈ lw_tbl := List.mem_append_right _ (List.mem_append_right _ (List.mem_append_right _ (List.mem_append_left _ (List.mem_of_getElem? (i := 14) rfl))))
theorem wd_109 : (Cond.code y_MO_seal prog_4_method_6_code 3 none) ∈ lw_tbl := List.mem_append_right _ (List.mem_append_right _ (List.mem_append_right _ (List.mem_append_left _ (List.mem_of_getElem? (i := 15) rfl))))
theorem wd_110 : (Cond.methodLink "SealTrust" 187 y_ST_enter) ∈ lw_tbl := List.mem_append_right _ (List.mem_append_right _ (List.mem_append_right _ (List.mem_append_left _ (List.mem_of_getElem? (i := 16) rfl))))
theorem wd_111 : (Cond.instanceMethod y_ST_enter) ∈ lw_tbl := List.mem_append_right _ (List.mem_append_right _ (List.mem_append_right _ (List.mem_append_left _ (List.mem_of_getElem? (i := 18) rfl))))
theorem wd_112 : (Cond.selects "SealTrust" y_ST_enter y_ST_enter) ∈ lw_tbl := List.mem_append_left _ (List.mem_map.mpr ⟨(y_ST_enter, 7), (List.mem_append_left _ (List.mem_of_getElem? (i := 10) rfl)), rfl⟩)
theorem wd_113 : (Cond.code y_ST_enter prog_1_method_26_code 2 none) ∈ lw_tbl := List.mem_append_right _ (List.mem_append_right _ (List.mem_append_right _ (List.mem_append_left _ (List.mem_of_getElem? (i := 19) rfl))))
theorem wd_114 : (Cond.fieldLinkNest "SealTrust" 190 "SealTrust$Motion" "signature" "J" "SealTrust") ∈ lw_tbl := List.mem_append_right _ (List.mem_append_left _ (List.mem_of_getElem? (i := 107) rfl))
theorem wd_115 : (Cond.methodLink "SealTrust" 193 y_KE_isSignature) ∈ lw_tbl := List.mem_append_right _ (List.mem_append_right _ (List.mem_append_right _ (List.mem_append_left _ (List.mem_of_getElem? (i := 27) rfl))))
theorem wd_116 : (Cond.instanceMethod y_KE_isSignature) ∈ lw_tbl := List.mem_append_right _ (List.mem_append_right _ (List.mem_append_right _ (List.mem_append_left _ (List.mem_of_getElem? (i := 28) rfl))))
theorem wd_117 : (Cond.selects "SealTrust$Key" y_KE_isSignature y_KE_isSignature) ∈ lw_tbl := List.mem_append_right _ (List.mem_append_right _ (List.mem_append_right _ (List.mem_append_left _ (List.mem_of_getElem? (i := 29) rfl))))
theorem wd_118 : (Cond.code y_KE_isSignature prog_3_method_7_code 5 (some .boolean)) ∈ lw_tbl := List.mem_append_right _ (List.mem_append_right _ (List.mem_append_right _ (List.mem_append_left _ (List.mem_of_getElem? (i := 30) rfl))))
theorem wd_119 : (Cond.methodLink "SealTrust" 197 y_ST_requireKey) ∈ lw_tbl := List.mem_append_right _ (List.mem_append_right _ (List.mem_append_left _ (List.mem_of_getElem? (i := 45) rfl)))
theorem wd_120 : (Cond.instanceMethod y_ST_requireKey) ∈ lw_tbl := List.mem_append_right _ (List.mem_append_right _ (List.mem_append_left _ (List.mem_of_getElem? (i := 47) rfl)))
theorem wd_121 : (Cond.selects "SealTrust" y_ST_requireKey y_ST_requireKey) ∈ lw_tbl := List.mem_append_left _ (List.mem_map.mpr ⟨(y_ST_requireKey, 7), (List.mem_append_left _ (List.mem_of_getElem? (i := 3) rfl)), rfl⟩)
theorem wd_122 : (Cond.code y_ST_requireKey prog_1_method_18_code 1 none) ∈ lw_tbl := List.mem_append_right _ (List.mem_append_right _ (List.mem_append_left _ (List.mem_of_getElem? (i := 48) rfl)))
theorem wd_123 : (Cond.fieldLinkNest "SealTrust" 200 "SealTrust$Key" "epoch" "J" "SealTrust") ∈ lw_tbl := List.mem_append_right _ (List.mem_append_left _ (List.mem_of_getElem? (i := 34) rfl))
theorem wd_124 : (Cond.methodLink "SealTrust" 203 y_ST_dropOpenPartials) ∈ lw_tbl := List.mem_append_right _ (List.mem_append_right _ (List.mem_append_right _ (List.mem_append_left _ (List.mem_of_getElem? (i := 38) rfl))))
theorem wd_125 : (Cond.instanceMethod y_ST_dropOpenPartials) ∈ lw_tbl := List.mem_append_right _ (List.mem_append_right _ (List.mem_append_right _ (List.mem_append_left _ (List.mem_of_getElem? (i := 40) rfl))))
theorem wd_126 : (Cond.selects "SealTrust" y_ST_dropOpenPartials y_ST_dropOpenPartials) ∈ lw_tbl := List.mem_append_left _ (List.mem_map.mpr ⟨(y_ST_dropOpenPartials, 7), (List.mem_append_left _ (List.mem_of_getElem? (i := 11) rfl)), rfl⟩)
theorem wd_127 : (Cond.code y_ST_dropOpenPartials prog_1_method_25_code 2 none) ∈ lw_tbl := List.mem_append_right _ (List.mem_append_right _ (List.mem_append_right _ (List.mem_append_left _ (List.mem_of_getElem? (i := 41) rfl))))
theorem wd_128 : (Cond.methodLink "SealTrust" 208 y_KE_isWholeBy) ∈ lw_tbl := List.mem_append_right _ (List.mem_append_right _ (List.mem_append_right _ (List.mem_append_left _ (List.mem_of_getElem? (i := 61) rfl))))
theorem wd_129 : (Cond.instanceMethod y_KE_isWholeBy) ∈ lw_tbl := List.mem_append_right _ (List.mem_append_right _ (List.mem_append_right _ (List.mem_append_left _ (List.mem_of_getElem? (i := 62) rfl))))
theorem wd_130 : (Cond.selects "SealTrust$Key" y_KE_isWholeBy y_KE_isWholeBy) ∈ lw_tbl := List.mem_append_right _ (List.mem_append_right _ (List.mem_append_right _ (List.mem_append_left _ (List.mem_of_getElem? (i := 63) rfl))))
theorem wd_131 : (Cond.code y_KE_isWholeBy prog_3_method_11_code 5 (some .boolean)) ∈ lw_tbl := List.mem_append_right _ (List.mem_append_right _ (List.mem_append_right _ (List.mem_append_left _ (List.mem_of_getElem? (i := 64) rfl))))
theorem wd_132 : (Cond.fieldLinkNest "SealTrust" 211 "SealTrust$Motion" "standing" "I" "SealTrust") ∈ lw_tbl := List.mem_append_right _ (List.mem_append_left _ (List.mem_of_getElem? (i := 98) rfl))
theorem wd_133 : (Cond.fieldLinkNest "SealTrust" 220 "SealTrust$Key" "dealt" "Z" "SealTrust") ∈ lw_tbl := List.mem_append_right _ (List.mem_append_left _ (List.mem_of_getElem? (i := 32) rfl))
theorem wd_134 : (Cond.fieldLinkNest "SealTrust" 224 "SealTrust$Key" "modulus" "J" "SealTrust") ∈ lw_tbl := List.mem_append_right _ (List.mem_append_left _ (List.mem_of_getElem? (i := 41) rfl))
theorem wd_135 : (Cond.fieldLinkNest "SealTrust" 227 "SealTrust$Key" "checks" "[J" "SealTrust") ∈ lw_tbl := List.mem_append_right _ (List.mem_append_left _ (List.mem_of_getElem? (i := 30) rfl))
theorem wd_136 : (Cond.methodLink "SealTrust" 242 y_KE_isGood) ∈ lw_tbl := List.mem_append_right _ (List.mem_append_right _ (List.mem_append_left _ (List.mem_of_getElem? (i := 204) rfl)))
theorem wd_137 : (Cond.instanceMethod y_KE_isGood) ∈ lw_tbl := List.mem_append_right _ (List.mem_append_right _ (List.mem_append_left _ (List.mem_of_getElem? (i := 205) rfl)))
theorem wd_138 : (Cond.selects "SealTrust$Key" y_KE_isGood y_KE_isGood) ∈ lw_tbl := List.mem_append_right _ (List.mem_append_right _ (List.mem_append_left _ (List.mem_of_getElem? (i := 206) rfl)))
theorem wd_139 : (Cond.code y_KE_isGood prog_3_method_9_code 16 (some .boolean)) ∈ lw_tbl := List.mem_append_right _ (List.mem_append_right _ (List.mem_append_left _ (List.mem_of_getElem? (i := 207) rfl)))
theorem wd_140 : (Cond.methodLink "SealTrust" 246 y_MO_dropPartials) ∈ lw_tbl := List.mem_append_right _ (List.mem_append_right _ (List.mem_append_right _ (List.mem_append_left _ (List.mem_of_getElem? (i := 42) rfl))))
theorem wd_141 : (Cond.instanceMethod y_MO_dropPartials) ∈ lw_tbl := List.mem_append_right _ (List.mem_append_right _ (List.mem_append_right _ (List.mem_append_left _ (List.mem_of_getElem? (i := 43) rfl))))
theorem wd_142 : (Cond.selects "SealTrust$Motion" y_MO_dropPartials y_MO_dropPartials) ∈ lw_tbl := List.mem_append_right _ (List.mem_append_right _ (List.mem_append_right _ (List.mem_append_left _ (List.mem_of_getElem? (i := 44) rfl))))
theorem wd_143 : (Cond.code y_MO_dropPartials prog_4_method_4_code 1 none) ∈ lw_tbl := List.mem_append_right _ (List.mem_append_right _ (List.mem_append_right _ (List.mem_append_left _ (List.mem_of_getElem? (i := 45) rfl))))
theorem wd_144 : (Cond.static y_ST_isPrime) ∈ lw_tbl := List.mem_append_right _ (List.mem_append_left _ (List.mem_of_getElem? (i := 159) rfl))
theorem wd_145 : (Cond.code y_ST_isPrime prog_1_method_29_code 2 (some .boolean)) ∈ lw_tbl := List.mem_append_right _ (List.mem_append_left _ (List.mem_of_getElem? (i := 160) rfl))
theorem wd_146 : (Cond.methodLink "SealTrust" 249 y_ST_isPrime) ∈ lw_tbl := List.mem_append_right _ (List.mem_append_left _ (List.mem_of_getElem? (i := 158) rfl))
theorem wd_147 : (Cond.constantLong "SealTrust" 252 6364136223846793005) ∈ lw_tbl := List.mem_append_right _ (List.mem_append_right _ (List.mem_append_left _ (List.mem_of_getElem? (i := 79) rfl)))
theorem wd_148 : (Cond.constantLong "SealTrust" 254 1442695040888963407) ∈ lw_tbl := List.mem_append_right _ (List.mem_append_right _ (List.mem_append_left _ (List.mem_of_getElem? (i := 80) rfl)))
theorem wd_149 : (Cond.static y_ST_rest) ∈ lw_tbl := List.mem_append_right _ (List.mem_append_right _ (List.mem_append_left _ (List.mem_of_getElem? (i := 2) rfl)))
theorem wd_150 : (Cond.code y_ST_rest prog_1_method_32_code 6 (some .long)) ∈ lw_tbl := List.mem_append_right _ (List.mem_append_right _ (List.mem_append_left _ (List.mem_of_getElem? (i := 3) rfl)))
theorem wd_151 : (Cond.methodLink "SealTrust" 256 y_ST_rest) ∈ lw_tbl := List.mem_append_right _ (List.mem_append_right _ (List.mem_append_left _ (List.mem_of_getElem? (i := 1) rfl)))
theorem wd_152 : (Cond.fieldLink "SealTrustModel" 7 "SealTrustModel" "thrownCode" "I") ∈ lw_tbl := List.mem_append_right _ (List.mem_append_right _ (List.mem_append_right _ (List.mem_append_left _ (List.mem_of_getElem? (i := 100) rfl))))
theorem wd_153 : (Cond.fieldLink "SealTrustModel" 13 "SealTrustModel" "n" "J") ∈ lw_tbl := List.mem_append_right _ (List.mem_append_right _ (List.mem_append_right _ (List.mem_append_left _ (List.mem_of_getElem? (i := 101) rfl))))
theorem wd_154 : (Cond.fieldLink "SealTrustModel" 17 "SealTrustModel" "m" "J") ∈ lw_tbl := List.mem_append_right _ (List.mem_append_right _ (List.mem_append_right _ (List.mem_append_left _ (List.mem_of_getElem? (i := 102) rfl))))
theorem wd_155 : (Cond.fieldLink "SealTrustModel" 20 "SealTrustModel" "d" "J") ∈ lw_tbl := List.mem_append_right _ (List.mem_append_right _ (List.mem_append_right _ (List.mem_append_left _ (List.mem_of_getElem? (i := 103) rfl))))
theorem wd_156 : (Cond.fieldLink "SealTrustModel" 23 "SealTrustModel" "a" "J") ∈ lw_tbl := List.mem_append_right _ (List.mem_append_right _ (List.mem_append_right _ (List.mem_append_left _ (List.mem_of_getElem? (i := 104) rfl))))
theorem wd_157 : (Cond.fieldLink "SealTrustModel" 26 "SealTrustModel" "b" "J") ∈ lw_tbl := List.mem_append_right _ (List.mem_append_right _ (List.mem_append_right _ (List.mem_append_left _ (List.mem_of_getElem? (i := 105) rfl))))
theorem wd_158 : (Cond.fieldLink "SealTrustModel" 29 "SealTrustModel" "v" "J") ∈ lw_tbl := List.mem_append_right _ (List.mem_append_right _ (List.mem_append_right _ (List.mem_append_left _ (List.mem_of_getElem? (i := 106) rfl))))
theorem wd_159 : (Cond.fieldLink "SealTrustModel" 32 "SealTrustModel" "epoch" "I") ∈ lw_tbl := List.mem_append_right _ (List.mem_append_right _ (List.mem_append_right _ (List.mem_append_left _ (List.mem_of_getElem? (i := 107) rfl))))
theorem wd_160 : (Cond.fieldLink "SealTrustModel" 35 "SealTrustModel" "suspended" "I") ∈ lw_tbl := List.mem_append_right _ (List.mem_append_right _ (List.mem_append_right _ (List.mem_append_left _ (List.mem_of_getElem? (i := 108) rfl))))
theorem wd_161 : (Cond.fieldLink "SealTrustModel" 38 "SealTrustModel" "buffer" "[I") ∈ lw_tbl := List.mem_append_right _ (List.mem_append_right _ (List.mem_append_right _ (List.mem_append_left _ (List.mem_of_getElem? (i := 109) rfl))))
theorem wd_162 : (Cond.fieldLink "SealTrustModel" 42 "SealTrustModel" "bytes" "I") ∈ lw_tbl := List.mem_append_right _ (List.mem_append_right _ (List.mem_append_right _ (List.mem_append_left _ (List.mem_of_getElem? (i := 110) rfl))))
theorem wd_163 : (Cond.fieldLink "SealTrustModel" 45 "SealTrustModel" "motions" "I") ∈ lw_tbl := List.mem_append_right _ (List.mem_append_right _ (List.mem_append_right _ (List.mem_append_left _ (List.mem_of_getElem? (i := 111) rfl))))
theorem wd_164 : (Cond.fieldLink "SealTrustModel" 48 "SealTrustModel" "state" "[I") ∈ lw_tbl := List.mem_append_right _ (List.mem_append_right _ (List.mem_append_right _ (List.mem_append_left _ (List.mem_of_getElem? (i := 112) rfl))))
theorem wd_165 : (Cond.fieldLink "SealTrustModel" 51 "SealTrustModel" "block" "[J") ∈ lw_tbl := List.mem_append_right _ (List.mem_append_right _ (List.mem_append_right _ (List.mem_append_left _ (List.mem_of_getElem? (i := 113) rfl))))
theorem wd_166 : (Cond.fieldLink "SealTrustModel" 55 "SealTrustModel" "filed" "[I") ∈ lw_tbl := List.mem_append_right _ (List.mem_append_right _ (List.mem_append_right _ (List.mem_append_left _ (List.mem_of_getElem? (i := 114) rfl))))
theorem wd_167 : (Cond.fieldLink "SealTrustModel" 58 "SealTrustModel" "objected" "[I") ∈ lw_tbl := List.mem_append_right _ (List.mem_append_right _ (List.mem_append_right _ (List.mem_append_left _ (List.mem_of_getElem? (i := 115) rfl))))
theorem wd_168 : (Cond.fieldLink "SealTrustModel" 61 "SealTrustModel" "signature" "[J") ∈ lw_tbl := List.mem_append_right _ (List.mem_append_right _ (List.mem_append_right _ (List.mem_append_left _ (List.mem_of_getElem? (i := 116) rfl))))
theorem wd_169 : (Cond.fieldLink "SealTrustModel" 64 "SealTrustModel" "power" "[J") ∈ lw_tbl := List.mem_append_right _ (List.mem_append_right _ (List.mem_append_right _ (List.mem_append_left _ (List.mem_of_getElem? (i := 117) rfl))))
theorem wd_170 : (Cond.fieldLink "SealTrustModel" 67 "SealTrustModel" "proof" "[I") ∈ lw_tbl := List.mem_append_right _ (List.mem_append_right _ (List.mem_append_right _ (List.mem_append_left _ (List.mem_of_getElem? (i := 118) rfl))))
theorem wd_171 : (Cond.fieldLink "SealTrustModel" 70 "SealTrustModel" "answer" "[J") ∈ lw_tbl := List.mem_append_right _ (List.mem_append_right _ (List.mem_append_right _ (List.mem_append_left _ (List.mem_of_getElem? (i := 119) rfl))))
theorem wd_172 : (Cond.fieldLink "SealTrustModel" 73 "SealTrustModel" "booked" "I") ∈ lw_tbl := List.mem_append_right _ (List.mem_append_right _ (List.mem_append_right _ (List.mem_append_left _ (List.mem_of_getElem? (i := 120) rfl))))
theorem wd_173 : (Cond.fieldLink "SealTrustModel" 76 "SealTrustModel" "book" "[I") ∈ lw_tbl := List.mem_append_right _ (List.mem_append_right _ (List.mem_append_right _ (List.mem_append_left _ (List.mem_of_getElem? (i := 121) rfl))))
theorem wd_174 : (Cond.fieldLink "SealTrustModel" 79 "SealTrustModel" "h" "J") ∈ lw_tbl := List.mem_append_right _ (List.mem_append_right _ (List.mem_append_right _ (List.mem_append_left _ (List.mem_of_getElem? (i := 122) rfl))))
theorem wd_175 : (Cond.static y_MD_prime) ∈ lw_tbl := List.mem_append_right _ (List.mem_append_right _ (List.mem_append_right _ (List.mem_append_left _ (List.mem_of_getElem? (i := 182) rfl))))
theorem wd_176 : (Cond.initialized "SealTrustModel") ∈ lw_tbl := List.mem_append_right _ (List.mem_append_left _ (List.mem_of_getElem? (i := 5) rfl))
theorem wd_177 : (Cond.code y_MD_prime prog_6_method_2_code 2 (some .boolean)) ∈ lw_tbl := List.mem_append_right _ (List.mem_append_right _ (List.mem_append_right _ (List.mem_append_left _ (List.mem_of_getElem? (i := 183) rfl))))
theorem wd_178 : (Cond.methodLink "SealTrustModel" 82 y_MD_prime) ∈ lw_tbl := List.mem_append_right _ (List.mem_append_right _ (List.mem_append_right _ (List.mem_append_left _ (List.mem_of_getElem? (i := 181) rfl))))
theorem wd_179 : (Cond.constantLong "SealTrustModel" 86 7) ∈ lw_tbl := List.mem_append_right _ (List.mem_append_right _ (List.mem_append_right _ (List.mem_append_left _ (List.mem_of_getElem? (i := 204) rfl))))
theorem wd_180 : (Cond.constantLong "SealTrustModel" 88 6364136223846793005) ∈ lw_tbl := List.mem_append_right _ (List.mem_append_right _ (List.mem_append_right _ (List.mem_append_left _ (List.mem_of_getElem? (i := 209) rfl))))
theorem wd_181 : (Cond.constantLong "SealTrustModel" 90 1442695040888963407) ∈ lw_tbl := List.mem_append_right _ (List.mem_append_right _ (List.mem_append_right _ (List.mem_append_left _ (List.mem_of_getElem? (i := 210) rfl))))
theorem wd_182 : (Cond.methodLink "SealTrustModel" 92 y_MD_part) ∈ lw_tbl := List.mem_append_right _ (List.mem_append_right _ (List.mem_append_right _ (List.mem_append_left _ (List.mem_of_getElem? (i := 236) rfl))))
theorem wd_183 : (Cond.instanceMethod y_MD_part) ∈ lw_tbl := List.mem_append_right _ (List.mem_append_right _ (List.mem_append_right _ (List.mem_append_left _ (List.mem_of_getElem? (i := 238) rfl))))
theorem wd_184 : (Cond.selects "SealTrustModel" y_MD_part y_MD_part) ∈ lw_tbl := List.mem_append_left _ (List.mem_map.mpr ⟨(y_MD_part, 23), (List.mem_append_right _ (List.mem_of_getElem? (i := 3) rfl)), rfl⟩)
theorem wd_185 : (Cond.code y_MD_part prog_6_method_10_code 4 (some .long)) ∈ lw_tbl := List.mem_append_right _ (List.mem_append_right _ (List.mem_append_right _ (List.mem_append_left _ (List.mem_of_getElem? (i := 239) rfl))))
theorem wd_186 : (Cond.static y_MD_raised) ∈ lw_tbl := List.mem_append_right _ (List.mem_append_right _ (List.mem_append_right _ (List.mem_append_right _ (List.mem_of_getElem? (i := 2) rfl))))
theorem wd_187 : (Cond.code y_MD_raised prog_6_method_5_code 12 (some .long)) ∈ lw_tbl := List.mem_append_right _ (List.mem_append_right _ (List.mem_append_right _ (List.mem_append_right _ (List.mem_of_getElem? (i := 3) rfl))))
theorem wd_188 : (Cond.methodLink "SealTrustModel" 96 y_MD_raised) ∈ lw_tbl := List.mem_append_right _ (List.mem_append_right _ (List.mem_append_right _ (List.mem_append_right _ (List.mem_of_getElem? (i := 1) rfl))))
theorem wd_189 : (Cond.methodLink "SealTrustModel" 100 y_MD_begin) ∈ lw_tbl := List.mem_append_right _ (List.mem_append_right _ (List.mem_append_right _ (List.mem_append_left _ (List.mem_of_getElem? (i := 200) rfl))))
theorem wd_190 : (Cond.instanceMethod y_MD_begin) ∈ lw_tbl := List.mem_append_right _ (List.mem_append_right _ (List.mem_append_right _ (List.mem_append_left _ (List.mem_of_getElem? (i := 202) rfl))))
theorem wd_191 : (Cond.selects "SealTrustModel" y_MD_begin y_MD_begin) ∈ lw_tbl := List.mem_append_left _ (List.mem_map.mpr ⟨(y_MD_begin, 23), (List.mem_append_left _ (List.mem_of_getElem? (i := 13) rfl)), rfl⟩)
theorem wd_192 : (Cond.code y_MD_begin prog_6_method_7_code 1 none) ∈ lw_tbl := List.mem_append_right _ (List.mem_append_right _ (List.mem_append_right _ (List.mem_append_left _ (List.mem_of_getElem? (i := 203) rfl))))
theorem wd_193 : (Cond.methodLink "SealTrustModel" 103 y_MD_mix) ∈ lw_tbl := List.mem_append_right _ (List.mem_append_right _ (List.mem_append_right _ (List.mem_append_left _ (List.mem_of_getElem? (i := 205) rfl))))
theorem wd_194 : (Cond.instanceMethod y_MD_mix) ∈ lw_tbl := List.mem_append_right _ (List.mem_append_right _ (List.mem_append_right _ (List.mem_append_left _ (List.mem_of_getElem? (i := 207) rfl))))
theorem wd_195 : (Cond.selects "SealTrustModel" y_MD_mix y_MD_mix) ∈ lw_tbl := List.mem_append_left _ (List.mem_map.mpr ⟨(y_MD_mix, 23), (List.mem_append_left _ (List.mem_of_getElem? (i := 14) rfl)), rfl⟩)
theorem wd_196 : (Cond.code y_MD_mix prog_6_method_8_code 3 none) ∈ lw_tbl := List.mem_append_right _ (List.mem_append_right _ (List.mem_append_right _ (List.mem_append_left _ (List.mem_of_getElem? (i := 208) rfl))))
theorem wd_197 : (Cond.constantLong "SealTrustModel" 107 2) ∈ lw_tbl := List.mem_append_right _ (List.mem_append_right _ (List.mem_append_right _ (List.mem_append_left _ (List.mem_of_getElem? (i := 211) rfl))))
theorem wd_198 : (Cond.methodLink "SealTrustModel" 109 y_MD_mixed) ∈ lw_tbl := List.mem_append_right _ (List.mem_append_right _ (List.mem_append_right _ (List.mem_append_left _ (List.mem_of_getElem? (i := 212) rfl))))
theorem wd_199 : (Cond.instanceMethod y_MD_mixed) ∈ lw_tbl := List.mem_append_right _ (List.mem_append_right _ (List.mem_append_right _ (List.mem_append_left _ (List.mem_of_getElem? (i := 214) rfl))))
theorem wd_200 : (Cond.selects "SealTrustModel" y_MD_mixed y_MD_mixed) ∈ lw_tbl := List.mem_append_left _ (List.mem_map.mpr ⟨(y_MD_mixed, 23), (List.mem_append_left _ (List.mem_of_getElem? (i := 15) rfl)), rfl⟩)
theorem wd_201 : (Cond.code y_MD_mixed prog_6_method_9_code 1 (some .long)) ∈ lw_tbl := List.mem_append_right _ (List.mem_append_right _ (List.mem_append_right _ (List.mem_append_left _ (List.mem_of_getElem? (i := 215) rfl))))
theorem wd_202 : (Cond.constantLong "SealTrustModel" 113 3) ∈ lw_tbl := List.mem_append_right _ (List.mem_append_right _ (List.mem_append_right _ (List.mem_append_left _ (List.mem_of_getElem? (i := 216) rfl))))
theorem wd_203 : (Cond.constantLong "SealTrustModel" 115 1440) ∈ lw_tbl := List.mem_append_right _ (List.mem_append_right _ (List.mem_append_right _ (List.mem_append_right _ (List.mem_of_getElem? (i := 0) rfl))))
theorem wd_204 : (Cond.constantLong "SealTrustModel" 117 2880) ∈ lw_tbl := List.mem_append_right _ (List.mem_append_right _ (List.mem_append_right _ (List.mem_append_right _ (List.mem_of_getElem? (i := 4) rfl))))
theorem wd_205 : (Cond.methodLink "SealTrustModel" 119 y_MD_check) ∈ lw_tbl := List.mem_append_right _ (List.mem_append_right _ (List.mem_append_right _ (List.mem_append_right _ (List.mem_of_getElem? (i := 5) rfl))))
theorem wd_206 : (Cond.instanceMethod y_MD_check) ∈ lw_tbl := List.mem_append_right _ (List.mem_append_right _ (List.mem_append_right _ (List.mem_append_right _ (List.mem_of_getElem? (i := 7) rfl))))
theorem wd_207 : (Cond.selects "SealTrustModel" y_MD_check y_MD_check) ∈ lw_tbl := List.mem_append_left _ (List.mem_map.mpr ⟨(y_MD_check, 23), (List.mem_append_right _ (List.mem_of_getElem? (i := 4) rfl)), rfl⟩)
theorem wd_208 : (Cond.code y_MD_check prog_6_method_11_code 2 (some .long)) ∈ lw_tbl := List.mem_append_right _ (List.mem_append_right _ (List.mem_append_right _ (List.mem_append_right _ (List.mem_of_getElem? (i := 8) rfl))))
theorem wd_209 : (Cond.methodLink "SealTrustModel" 122 y_MD_challenge) ∈ lw_tbl := List.mem_append_right _ (List.mem_append_right _ (List.mem_append_right _ (List.mem_append_right _ (List.mem_of_getElem? (i := 9) rfl))))
theorem wd_210 : (Cond.instanceMethod y_MD_challenge) ∈ lw_tbl := List.mem_append_right _ (List.mem_append_right _ (List.mem_append_right _ (List.mem_append_right _ (List.mem_of_getElem? (i := 11) rfl))))
theorem wd_211 : (Cond.selects "SealTrustModel" y_MD_challenge y_MD_challenge) ∈ lw_tbl := List.mem_append_left _ (List.mem_map.mpr ⟨(y_MD_challenge, 23), (List.mem_append_right _ (List.mem_of_getElem? (i := 5) rfl)), rfl⟩)
theorem wd_212 : (Cond.code y_MD_challenge prog_6_method_13_code 11 (some .int)) ∈ lw_tbl := List.mem_append_right _ (List.mem_append_right _ (List.mem_append_right _ (List.mem_append_right _ (List.mem_of_getElem? (i := 12) rfl))))
theorem wd_213 : (Cond.static y_MD_common) ∈ lw_tbl := List.mem_append_right _ (List.mem_append_right _ (List.mem_append_right _ (List.mem_append_right _ (List.mem_of_getElem? (i := 41) rfl))))
theorem wd_214 : (Cond.code y_MD_common prog_6_method_4_code 10 (some .long)) ∈ lw_tbl := List.mem_append_right _ (List.mem_append_right _ (List.mem_append_right _ (List.mem_append_right _ (List.mem_of_getElem? (i := 42) rfl))))
theorem wd_215 : (Cond.methodLink "SealTrustModel" 126 y_MD_common) ∈ lw_tbl := List.mem_append_right _ (List.mem_append_right _ (List.mem_append_right _ (List.mem_append_right _ (List.mem_of_getElem? (i := 40) rfl))))
theorem wd_216 : (Cond.constant "SealTrustModel" 130 65535) ∈ lw_tbl := List.mem_append_right _ (List.mem_append_right _ (List.mem_append_right _ (List.mem_append_right _ (List.mem_of_getElem? (i := 43) rfl))))
theorem wd_217 : (Cond.static y_MD_inverse) ∈ lw_tbl := List.mem_append_right _ (List.mem_append_right _ (List.mem_append_right _ (List.mem_append_left _ (List.mem_of_getElem? (i := 186) rfl))))
theorem wd_218 : (Cond.code y_MD_inverse prog_6_method_6_code 18 (some .long)) ∈ lw_tbl := List.mem_append_right _ (List.mem_append_right _ (List.mem_append_right _ (List.mem_append_left _ (List.mem_of_getElem? (i := 187) rfl))))
theorem wd_219 : (Cond.methodLink "SealTrustModel" 131 y_MD_inverse) ∈ lw_tbl := List.mem_append_right _ (List.mem_append_right _ (List.mem_append_right _ (List.mem_append_left _ (List.mem_of_getElem? (i := 185) rfl))))
theorem wd_220 : (Cond.static y_MD_safe) ∈ lw_tbl := List.mem_append_right _ (List.mem_append_right _ (List.mem_append_right _ (List.mem_append_left _ (List.mem_of_getElem? (i := 179) rfl))))
theorem wd_221 : (Cond.code y_MD_safe prog_6_method_3_code 1 (some .boolean)) ∈ lw_tbl := List.mem_append_right _ (List.mem_append_right _ (List.mem_append_right _ (List.mem_append_left _ (List.mem_of_getElem? (i := 180) rfl))))
theorem wd_222 : (Cond.methodLink "SealTrustModel" 134 y_MD_safe) ∈ lw_tbl := List.mem_append_right _ (List.mem_append_right _ (List.mem_append_right _ (List.mem_append_left _ (List.mem_of_getElem? (i := 178) rfl))))
theorem wd_223 : (Cond.constantLong "SealTrustModel" 137 65537) ∈ lw_tbl := List.mem_append_right _ (List.mem_append_right _ (List.mem_append_right _ (List.mem_append_left _ (List.mem_of_getElem? (i := 184) rfl))))
theorem wd_224 : (Cond.methodLink "SealTrustModel" 139 y_MD_blockOf) ∈ lw_tbl := List.mem_append_right _ (List.mem_append_right _ (List.mem_append_right _ (List.mem_append_left _ (List.mem_of_getElem? (i := 196) rfl))))
theorem wd_225 : (Cond.instanceMethod y_MD_blockOf) ∈ lw_tbl := List.mem_append_right _ (List.mem_append_right _ (List.mem_append_right _ (List.mem_append_left _ (List.mem_of_getElem? (i := 198) rfl))))
theorem wd_226 : (Cond.selects "SealTrustModel" y_MD_blockOf y_MD_blockOf) ∈ lw_tbl := List.mem_append_left _ (List.mem_map.mpr ⟨(y_MD_blockOf, 23), (List.mem_append_left _ (List.mem_of_getElem? (i := 12) rfl)), rfl⟩)
theorem wd_227 : (Cond.code y_MD_blockOf prog_6_method_12_code 2 (some .long)) ∈ lw_tbl := List.mem_append_right _ (List.mem_append_right _ (List.mem_append_right _ (List.mem_append_left _ (List.mem_of_getElem? (i := 199) rfl))))
theorem wd_228 : (Cond.methodLink "SealTrustModel" 142 y_MD_isMotion) ∈ lw_tbl := List.mem_append_right _ (List.mem_append_right _ (List.mem_append_right _ (List.mem_append_left _ (List.mem_of_getElem? (i := 221) rfl))))
theorem wd_229 : (Cond.instanceMethod y_MD_isMotion) ∈ lw_tbl := List.mem_append_right _ (List.mem_append_right _ (List.mem_append_right _ (List.mem_append_left _ (List.mem_of_getElem? (i := 223) rfl))))
theorem wd_230 : (Cond.selects "SealTrustModel" y_MD_isMotion y_MD_isMotion) ∈ lw_tbl := List.mem_append_left _ (List.mem_map.mpr ⟨(y_MD_isMotion, 23), (List.mem_append_right _ (List.mem_of_getElem? (i := 0) rfl)), rfl⟩)
theorem wd_231 : (Cond.code y_MD_isMotion prog_6_method_17_code 2 (some .boolean)) ∈ lw_tbl := List.mem_append_right _ (List.mem_append_right _ (List.mem_append_right _ (List.mem_append_left _ (List.mem_of_getElem? (i := 224) rfl))))
theorem wd_232 : (Cond.static y_MD_isTrustee) ∈ lw_tbl := List.mem_append_right _ (List.mem_append_right _ (List.mem_append_right _ (List.mem_append_left _ (List.mem_of_getElem? (i := 226) rfl))))
theorem wd_233 : (Cond.code y_MD_isTrustee prog_6_method_18_code 1 (some .boolean)) ∈ lw_tbl := List.mem_append_right _ (List.mem_append_right _ (List.mem_append_right _ (List.mem_append_left _ (List.mem_of_getElem? (i := 227) rfl))))
theorem wd_234 : (Cond.methodLink "SealTrustModel" 145 y_MD_isTrustee) ∈ lw_tbl := List.mem_append_right _ (List.mem_append_right _ (List.mem_append_right _ (List.mem_append_left _ (List.mem_of_getElem? (i := 225) rfl))))
theorem wd_235 : (Cond.methodLink "SealTrustModel" 148 y_MD_voice) ∈ lw_tbl := List.mem_append_right _ (List.mem_append_right _ (List.mem_append_right _ (List.mem_append_left _ (List.mem_of_getElem? (i := 228) rfl))))
theorem wd_236 : (Cond.instanceMethod y_MD_voice) ∈ lw_tbl := List.mem_append_right _ (List.mem_append_right _ (List.mem_append_right _ (List.mem_append_left _ (List.mem_of_getElem? (i := 230) rfl))))
theorem wd_237 : (Cond.selects "SealTrustModel" y_MD_voice y_MD_voice) ∈ lw_tbl := List.mem_append_left _ (List.mem_map.mpr ⟨(y_MD_voice, 23), (List.mem_append_right _ (List.mem_of_getElem? (i := 1) rfl)), rfl⟩)
theorem wd_238 : (Cond.code y_MD_voice prog_6_method_23_code 3 (some .boolean)) ∈ lw_tbl := List.mem_append_right _ (List.mem_append_right _ (List.mem_append_right _ (List.mem_append_left _ (List.mem_of_getElem? (i := 231) rfl))))
theorem wd_239 : (Cond.methodLink "SealTrustModel" 152 y_MD_make) ∈ lw_tbl := List.mem_append_right _ (List.mem_append_right _ (List.mem_append_right _ (List.mem_append_left _ (List.mem_of_getElem? (i := 232) rfl))))
theorem wd_240 : (Cond.instanceMethod y_MD_make) ∈ lw_tbl := List.mem_append_right _ (List.mem_append_right _ (List.mem_append_right _ (List.mem_append_left _ (List.mem_of_getElem? (i := 234) rfl))))
theorem wd_241 : (Cond.selects "SealTrustModel" y_MD_make y_MD_make) ∈ lw_tbl := List.mem_append_left _ (List.mem_map.mpr ⟨(y_MD_make, 23), (List.mem_append_right _ (List.mem_of_getElem? (i := 2) rfl)), rfl⟩)
theorem wd_242 : (Cond.code y_MD_make prog_6_method_14_code 14 none) ∈ lw_tbl := List.mem_append_right _ (List.mem_append_right _ (List.mem_append_right _ (List.mem_append_left _ (List.mem_of_getElem? (i := 235) rfl))))
theorem wd_243 : (Cond.static y_MD_bits) ∈ lw_tbl := List.mem_append_right _ (List.mem_append_right _ (List.mem_append_right _ (List.mem_append_right _ (List.mem_of_getElem? (i := 18) rfl))))
theorem wd_244 : (Cond.code y_MD_bits prog_6_method_16_code 3 (some .int)) ∈ lw_tbl := List.mem_append_right _ (List.mem_append_right _ (List.mem_append_right _ (List.mem_append_right _ (List.mem_of_getElem? (i := 19) rfl))))
theorem wd_245 : (Cond.methodLink "SealTrustModel" 156 y_MD_bits) ∈ lw_tbl := List.mem_append_right _ (List.mem_append_right _ (List.mem_append_right _ (List.mem_append_right _ (List.mem_of_getElem? (i := 17) rfl))))
theorem wd_246 : (Cond.methodLink "SealTrustModel" 160 y_MD_good) ∈ lw_tbl := List.mem_append_right _ (List.mem_append_right _ (List.mem_append_right _ (List.mem_append_right _ (List.mem_of_getElem? (i := 36) rfl))))
theorem wd_247 : (Cond.instanceMethod y_MD_good) ∈ lw_tbl := List.mem_append_right _ (List.mem_append_right _ (List.mem_append_right _ (List.mem_append_right _ (List.mem_of_getElem? (i := 38) rfl))))
theorem wd_248 : (Cond.selects "SealTrustModel" y_MD_good y_MD_good) ∈ lw_tbl := List.mem_append_left _ (List.mem_map.mpr ⟨(y_MD_good, 23), (List.mem_append_right _ (List.mem_of_getElem? (i := 7) rfl)), rfl⟩)
theorem wd_249 : (Cond.code y_MD_good prog_6_method_15_code 18 (some .boolean)) ∈ lw_tbl := List.mem_append_right _ (List.mem_append_right _ (List.mem_append_right _ (List.mem_append_right _ (List.mem_of_getElem? (i := 39) rfl))))
theorem wd_250 : (Cond.methodLink "SealTrustModel" 163 y_MD_notGood) ∈ lw_tbl := List.mem_append_right _ (List.mem_append_right _ (List.mem_append_right _ (List.mem_append_right _ (List.mem_of_getElem? (i := 32) rfl))))
theorem wd_251 : (Cond.instanceMethod y_MD_notGood) ∈ lw_tbl := List.mem_append_right _ (List.mem_append_right _ (List.mem_append_right _ (List.mem_append_right _ (List.mem_of_getElem? (i := 34) rfl))))
theorem wd_252 : (Cond.selects "SealTrustModel" y_MD_notGood y_MD_notGood) ∈ lw_tbl := List.mem_append_left _ (List.mem_map.mpr ⟨(y_MD_notGood, 23), (List.mem_append_right _ (List.mem_of_getElem? (i := 6) rfl)), rfl⟩)
theorem wd_253 : (Cond.code y_MD_notGood prog_6_method_28_code 4 (some .int)) ∈ lw_tbl := List.mem_append_right _ (List.mem_append_right _ (List.mem_append_right _ (List.mem_append_right _ (List.mem_of_getElem? (i := 35) rfl))))
theorem wd_254 : (Cond.constantLong "SealTrustModel" 166 720) ∈ lw_tbl := List.mem_append_right _ (List.mem_append_right _ (List.mem_append_right _ (List.mem_append_right _ (List.mem_of_getElem? (i := 64) rfl))))
theorem wd_255 : (Cond.fieldLink "SealTrust$Buffer" 9 "SealTrust$Buffer" "bytes" "[I") ∈ lw_tbl := List.mem_append_right _ (List.mem_append_left _ (List.mem_of_getElem? (i := 73) rfl))
theorem wd_256 : (Cond.fieldLink "SealTrust$Buffer" 15 "SealTrust$Buffer" "size" "I") ∈ lw_tbl := List.mem_append_right _ (List.mem_append_left _ (List.mem_of_getElem? (i := 74) rfl))
theorem wd_257 : (Cond.constantLong "SealTrust$Buffer" 19 7) ∈ lw_tbl := List.mem_append_right _ (List.mem_append_right _ (List.mem_append_left _ (List.mem_of_getElem? (i := 75) rfl)))
theorem wd_258 : (Cond.static y_ST_mixIn) ∈ lw_tbl := List.mem_append_right _ (List.mem_append_right _ (List.mem_append_left _ (List.mem_of_getElem? (i := 77) rfl)))
theorem wd_259 : (Cond.code y_ST_mixIn prog_1_method_30_code 4 (some .long)) ∈ lw_tbl := List.mem_append_right _ (List.mem_append_right _ (List.mem_append_left _ (List.mem_of_getElem? (i := 78) rfl)))
theorem wd_260 : (Cond.methodLinkNest "SealTrust$Buffer" 21 y_ST_mixIn "SealTrust") ∈ lw_tbl := List.mem_append_right _ (List.mem_append_right _ (List.mem_append_left _ (List.mem_of_getElem? (i := 76) rfl)))
theorem wd_261 : (Cond.static y_ST_mixOf) ∈ lw_tbl := List.mem_append_right _ (List.mem_append_right _ (List.mem_append_left _ (List.mem_of_getElem? (i := 82) rfl)))
theorem wd_262 : (Cond.code y_ST_mixOf prog_1_method_31_code 2 (some .long)) ∈ lw_tbl := List.mem_append_right _ (List.mem_append_right _ (List.mem_append_left _ (List.mem_of_getElem? (i := 83) rfl)))
theorem wd_263 : (Cond.methodLinkNest "SealTrust$Buffer" 25 y_ST_mixOf "SealTrust") ∈ lw_tbl := List.mem_append_right _ (List.mem_append_right _ (List.mem_append_left _ (List.mem_of_getElem? (i := 81) rfl)))
theorem wd_264 : (Cond.fieldLink "SealTrust$Key" 9 "SealTrust$Key" "shares" "[J") ∈ lw_tbl := List.mem_append_right _ (List.mem_append_left _ (List.mem_of_getElem? (i := 28) rfl))
theorem wd_265 : (Cond.fieldLink "SealTrust$Key" 15 "SealTrust$Key" "checks" "[J") ∈ lw_tbl := List.mem_append_right _ (List.mem_append_left _ (List.mem_of_getElem? (i := 29) rfl))
theorem wd_266 : (Cond.fieldLink "SealTrust$Key" 18 "SealTrust$Key" "p" "J") ∈ lw_tbl := List.mem_append_right _ (List.mem_append_left _ (List.mem_of_getElem? (i := 38) rfl))
theorem wd_267 : (Cond.fieldLink "SealTrust$Key" 22 "SealTrust$Key" "q" "J") ∈ lw_tbl := List.mem_append_right _ (List.mem_append_left _ (List.mem_of_getElem? (i := 39) rfl))
theorem wd_268 : (Cond.fieldLink "SealTrust$Key" 25 "SealTrust$Key" "modulus" "J") ∈ lw_tbl := List.mem_append_right _ (List.mem_append_left _ (List.mem_of_getElem? (i := 40) rfl))
theorem wd_269 : (Cond.constantLong "SealTrust$Key" 28 2) ∈ lw_tbl := List.mem_append_right _ (List.mem_append_left _ (List.mem_of_getElem? (i := 236) rfl))
theorem wd_270 : (Cond.fieldLink "SealTrust$Key" 30 "SealTrust$Key" "order" "J") ∈ lw_tbl := List.mem_append_right _ (List.mem_append_left _ (List.mem_of_getElem? (i := 42) rfl))
theorem wd_271 : (Cond.constantLong "SealTrust$Key" 33 65537) ∈ lw_tbl := List.mem_append_right _ (List.mem_append_left _ (List.mem_of_getElem? (i := 237) rfl))
theorem wd_272 : (Cond.static y_ST_powerModulo) ∈ lw_tbl := List.mem_append_right _ (List.mem_append_left _ (List.mem_of_getElem? (i := 239) rfl))
theorem wd_273 : (Cond.code y_ST_powerModulo prog_1_method_33_code 13 (some .long)) ∈ lw_tbl := List.mem_append_right _ (List.mem_append_right _ (List.mem_append_left _ (List.mem_of_getElem? (i := 0) rfl)))
theorem wd_274 : (Cond.methodLinkNest "SealTrust$Key" 35 y_ST_powerModulo "SealTrust") ∈ lw_tbl := List.mem_append_right _ (List.mem_append_left _ (List.mem_of_getElem? (i := 238) rfl))
theorem wd_275 : (Cond.fieldLink "SealTrust$Key" 39 "SealTrust$Key" "signing" "J") ∈ lw_tbl := List.mem_append_right _ (List.mem_append_left _ (List.mem_of_getElem? (i := 37) rfl))
theorem wd_276 : (Cond.methodLinkNest "SealTrust$Key" 42 y_ST_rest "SealTrust") ∈ lw_tbl := List.mem_append_right _ (List.mem_append_right _ (List.mem_append_left _ (List.mem_of_getElem? (i := 4) rfl)))
theorem wd_277 : (Cond.fieldLink "SealTrust$Key" 46 "SealTrust$Key" "whole" "J") ∈ lw_tbl := List.mem_append_right _ (List.mem_append_left _ (List.mem_of_getElem? (i := 36) rfl))
theorem wd_278 : (Cond.fieldLink "SealTrust$Key" 49 "SealTrust$Key" "base" "J") ∈ lw_tbl := List.mem_append_right _ (List.mem_append_left _ (List.mem_of_getElem? (i := 35) rfl))
theorem wd_279 : (Cond.fieldLink "SealTrust$Key" 52 "SealTrust$Key" "epoch" "J") ∈ lw_tbl := List.mem_append_right _ (List.mem_append_left _ (List.mem_of_getElem? (i := 33) rfl))
theorem wd_280 : (Cond.fieldLink "SealTrust$Key" 55 "SealTrust$Key" "dealt" "Z") ∈ lw_tbl := List.mem_append_right _ (List.mem_append_left _ (List.mem_of_getElem? (i := 31) rfl))
theorem wd_281 : (Cond.methodLink "SealTrust$Key" 59 y_KE_power) ∈ lw_tbl := List.mem_append_right _ (List.mem_append_right _ (List.mem_append_left _ (List.mem_of_getElem? (i := 9) rfl)))
theorem wd_282 : (Cond.instanceMethod y_KE_power) ∈ lw_tbl := List.mem_append_right _ (List.mem_append_right _ (List.mem_append_left _ (List.mem_of_getElem? (i := 11) rfl)))
theorem wd_283 : (Cond.selects "SealTrust$Key" y_KE_power y_KE_power) ∈ lw_tbl := List.mem_append_left _ (List.mem_map.mpr ⟨(y_KE_power, 11), (List.mem_append_left _ (List.mem_of_getElem? (i := 1) rfl)), rfl⟩)
theorem wd_284 : (Cond.code y_KE_power prog_3_method_15_code 5 (some .long)) ∈ lw_tbl := List.mem_append_right _ (List.mem_append_right _ (List.mem_append_left _ (List.mem_of_getElem? (i := 12) rfl)))
theorem wd_285 : (Cond.methodLink "SealTrust$Key" 62 y_BU_mix) ∈ lw_tbl := List.mem_append_right _ (List.mem_append_right _ (List.mem_append_left _ (List.mem_of_getElem? (i := 71) rfl)))
theorem wd_286 : (Cond.instanceMethod y_BU_mix) ∈ lw_tbl := List.mem_append_right _ (List.mem_append_right _ (List.mem_append_left _ (List.mem_of_getElem? (i := 72) rfl)))
theorem wd_287 : (Cond.selects "SealTrust$Buffer" y_BU_mix y_BU_mix) ∈ lw_tbl := List.mem_append_right _ (List.mem_append_right _ (List.mem_append_left _ (List.mem_of_getElem? (i := 73) rfl)))
theorem wd_288 : (Cond.code y_BU_mix prog_2_method_6_code 4 (some .long)) ∈ lw_tbl := List.mem_append_right _ (List.mem_append_right _ (List.mem_append_left _ (List.mem_of_getElem? (i := 74) rfl)))
theorem wd_289 : (Cond.constantLong "SealTrust$Key" 68 3) ∈ lw_tbl := List.mem_append_right _ (List.mem_append_right _ (List.mem_append_left _ (List.mem_of_getElem? (i := 84) rfl)))
theorem wd_290 : (Cond.methodLink "SealTrust$Key" 70 y_KE_isBelowModulus) ∈ lw_tbl := List.mem_append_right _ (List.mem_append_right _ (List.mem_append_left _ (List.mem_of_getElem? (i := 208) rfl)))
theorem wd_291 : (Cond.instanceMethod y_KE_isBelowModulus) ∈ lw_tbl := List.mem_append_right _ (List.mem_append_right _ (List.mem_append_left _ (List.mem_of_getElem? (i := 210) rfl)))
theorem wd_292 : (Cond.selects "SealTrust$Key" y_KE_isBelowModulus y_KE_isBelowModulus) ∈ lw_tbl := List.mem_append_left _ (List.mem_map.mpr ⟨(y_KE_isBelowModulus, 11), (List.mem_append_left _ (List.mem_of_getElem? (i := 8) rfl)), rfl⟩)
theorem wd_293 : (Cond.code y_KE_isBelowModulus prog_3_method_13_code 3 (some .boolean)) ∈ lw_tbl := List.mem_append_right _ (List.mem_append_right _ (List.mem_append_left _ (List.mem_of_getElem? (i := 211) rfl)))
theorem wd_294 : (Cond.fieldLinkNest "SealTrust$Key" 74 "SealTrust$Motion" "block" "J" "SealTrust") ∈ lw_tbl := List.mem_append_right _ (List.mem_append_left _ (List.mem_of_getElem? (i := 100) rfl))
theorem wd_295 : (Cond.constantLong "SealTrust$Key" 79 7) ∈ lw_tbl := List.mem_append_right _ (List.mem_append_right _ (List.mem_append_left _ (List.mem_of_getElem? (i := 141) rfl)))
theorem wd_296 : (Cond.methodLinkNest "SealTrust$Key" 81 y_ST_mixIn "SealTrust") ∈ lw_tbl := List.mem_append_right _ (List.mem_append_right _ (List.mem_append_left _ (List.mem_of_getElem? (i := 142) rfl)))
theorem wd_297 : (Cond.methodLinkNest "SealTrust$Key" 84 y_ST_mixOf "SealTrust") ∈ lw_tbl := List.mem_append_right _ (List.mem_append_right _ (List.mem_append_left _ (List.mem_of_getElem? (i := 143) rfl)))
theorem wd_298 : (Cond.constantLong "SealTrust$Key" 88 1440) ∈ lw_tbl := List.mem_append_right _ (List.mem_append_right _ (List.mem_append_left _ (List.mem_of_getElem? (i := 144) rfl)))
theorem wd_299 : (Cond.constantLong "SealTrust$Key" 90 2880) ∈ lw_tbl := List.mem_append_right _ (List.mem_append_right _ (List.mem_append_left _ (List.mem_of_getElem? (i := 145) rfl)))
theorem wd_300 : (Cond.methodLink "SealTrust$Key" 92 y_KE_times) ∈ lw_tbl := List.mem_append_right _ (List.mem_append_right _ (List.mem_append_left _ (List.mem_of_getElem? (i := 146) rfl)))
theorem wd_301 : (Cond.instanceMethod y_KE_times) ∈ lw_tbl := List.mem_append_right _ (List.mem_append_right _ (List.mem_append_left _ (List.mem_of_getElem? (i := 148) rfl)))
theorem wd_302 : (Cond.selects "SealTrust$Key" y_KE_times y_KE_times) ∈ lw_tbl := List.mem_append_left _ (List.mem_map.mpr ⟨(y_KE_times, 11), (List.mem_append_left _ (List.mem_of_getElem? (i := 5) rfl)), rfl⟩)
theorem wd_303 : (Cond.code y_KE_times prog_3_method_14_code 5 (some .long)) ∈ lw_tbl := List.mem_append_right _ (List.mem_append_right _ (List.mem_append_left _ (List.mem_of_getElem? (i := 149) rfl)))
theorem wd_304 : (Cond.methodLink "SealTrust$Key" 95 y_KE_challenge) ∈ lw_tbl := List.mem_append_right _ (List.mem_append_right _ (List.mem_append_left _ (List.mem_of_getElem? (i := 150) rfl)))
theorem wd_305 : (Cond.instanceMethod y_KE_challenge) ∈ lw_tbl := List.mem_append_right _ (List.mem_append_right _ (List.mem_append_left _ (List.mem_of_getElem? (i := 152) rfl)))
theorem wd_306 : (Cond.selects "SealTrust$Key" y_KE_challenge y_KE_challenge) ∈ lw_tbl := List.mem_append_left _ (List.mem_map.mpr ⟨(y_KE_challenge, 11), (List.mem_append_left _ (List.mem_of_getElem? (i := 6) rfl)), rfl⟩)
theorem wd_307 : (Cond.code y_KE_challenge prog_3_method_10_code 12 (some .int)) ∈ lw_tbl := List.mem_append_right _ (List.mem_append_right _ (List.mem_append_left _ (List.mem_of_getElem? (i := 153) rfl)))
theorem wd_308 : (Cond.methodLink "SealTrust$Key" 99 y_MO_takePartial) ∈ lw_tbl := List.mem_append_right _ (List.mem_append_right _ (List.mem_append_left _ (List.mem_of_getElem? (i := 154) rfl)))
theorem wd_309 : (Cond.fieldLinkNest "SealTrust$Key" 103 "SealTrust$Motion" "powers" "[J" "SealTrust") ∈ lw_tbl := List.mem_append_right _ (List.mem_append_left _ (List.mem_of_getElem? (i := 90) rfl))
theorem wd_310 : (Cond.fieldLinkNest "SealTrust$Key" 106 "SealTrust$Motion" "challenges" "[I" "SealTrust") ∈ lw_tbl := List.mem_append_right _ (List.mem_append_left _ (List.mem_of_getElem? (i := 93) rfl))
theorem wd_311 : (Cond.fieldLinkNest "SealTrust$Key" 110 "SealTrust$Motion" "answers" "[J" "SealTrust") ∈ lw_tbl := List.mem_append_right _ (List.mem_append_left _ (List.mem_of_getElem? (i := 96) rfl))
theorem wd_312 : (Cond.constant "SealTrust$Key" 113 65535) ∈ lw_tbl := List.mem_append_right _ (List.mem_append_right _ (List.mem_append_left _ (List.mem_of_getElem? (i := 212) rfl)))
theorem wd_313 : (Cond.methodLink "SealTrust$Key" 114 y_KE_isPrimeToModulus) ∈ lw_tbl := List.mem_append_right _ (List.mem_append_right _ (List.mem_append_left _ (List.mem_of_getElem? (i := 213) rfl)))
theorem wd_314 : (Cond.methodLink "SealTrust$Key" 117 y_KE_inversePower) ∈ lw_tbl := List.mem_append_right _ (List.mem_append_right _ (List.mem_append_left _ (List.mem_of_getElem? (i := 217) rfl)))
theorem wd_315 : (Cond.instanceMethod y_KE_inversePower) ∈ lw_tbl := List.mem_append_right _ (List.mem_append_right _ (List.mem_append_left _ (List.mem_of_getElem? (i := 219) rfl)))
theorem wd_316 : (Cond.selects "SealTrust$Key" y_KE_inversePower y_KE_inversePower) ∈ lw_tbl := List.mem_append_left _ (List.mem_map.mpr ⟨(y_KE_inversePower, 11), (List.mem_append_left _ (List.mem_of_getElem? (i := 9) rfl)), rfl⟩)
theorem wd_317 : (Cond.code y_KE_inversePower prog_3_method_16_code 5 (some .long)) ∈ lw_tbl := List.mem_append_right _ (List.mem_append_right _ (List.mem_append_left _ (List.mem_of_getElem? (i := 220) rfl)))
theorem wd_318 : (Cond.methodLinkNest "SealTrust$Key" 120 y_ST_isIn "SealTrust") ∈ lw_tbl := List.mem_append_right _ (List.mem_append_right _ (List.mem_append_right _ (List.mem_append_left _ (List.mem_of_getElem? (i := 65) rfl))))
theorem wd_319 : (Cond.static y_KE_weight) ∈ lw_tbl := List.mem_append_right _ (List.mem_append_right _ (List.mem_append_right _ (List.mem_append_left _ (List.mem_of_getElem? (i := 67) rfl))))
theorem wd_320 : (Cond.code y_KE_weight prog_3_method_12_code 7 (some .long)) ∈ lw_tbl := List.mem_append_right _ (List.mem_append_right _ (List.mem_append_right _ (List.mem_append_left _ (List.mem_of_getElem? (i := 68) rfl))))
theorem wd_321 : (Cond.methodLink "SealTrust$Key" 124 y_KE_weight) ∈ lw_tbl := List.mem_append_right _ (List.mem_append_right _ (List.mem_append_right _ (List.mem_append_left _ (List.mem_of_getElem? (i := 66) rfl))))
theorem wd_322 : (Cond.constantLong "SealTrust$Key" 128 720) ∈ lw_tbl := List.mem_append_right _ (List.mem_append_right _ (List.mem_append_right _ (List.mem_append_left _ (List.mem_of_getElem? (i := 69) rfl))))
theorem wd_323 : (Cond.fieldLink "SealTrust$Motion" 9 "SealTrust$Motion" "powers" "[J") ∈ lw_tbl := List.mem_append_right _ (List.mem_append_left _ (List.mem_of_getElem? (i := 88) rfl))
theorem wd_324 : (Cond.fieldLink "SealTrust$Motion" 15 "SealTrust$Motion" "challenges" "[I") ∈ lw_tbl := List.mem_append_right _ (List.mem_append_left _ (List.mem_of_getElem? (i := 91) rfl))
theorem wd_325 : (Cond.fieldLink "SealTrust$Motion" 19 "SealTrust$Motion" "answers" "[J") ∈ lw_tbl := List.mem_append_right _ (List.mem_append_left _ (List.mem_of_getElem? (i := 94) rfl))
theorem wd_326 : (Cond.fieldLink "SealTrust$Motion" 22 "SealTrust$Motion" "standing" "I") ∈ lw_tbl := List.mem_append_right _ (List.mem_append_left _ (List.mem_of_getElem? (i := 97) rfl))
theorem wd_327 : (Cond.fieldLink "SealTrust$Motion" 26 "SealTrust$Motion" "block" "J") ∈ lw_tbl := List.mem_append_right _ (List.mem_append_left _ (List.mem_of_getElem? (i := 99) rfl))
theorem wd_328 : (Cond.fieldLink "SealTrust$Motion" 30 "SealTrust$Motion" "partials" "I") ∈ lw_tbl := List.mem_append_right _ (List.mem_append_left _ (List.mem_of_getElem? (i := 102) rfl))
theorem wd_329 : (Cond.fieldLink "SealTrust$Motion" 33 "SealTrust$Motion" "objections" "I") ∈ lw_tbl := List.mem_append_right _ (List.mem_append_left _ (List.mem_of_getElem? (i := 104) rfl))
theorem wd_330 : (Cond.fieldLink "SealTrust$Motion" 36 "SealTrust$Motion" "signature" "J") ∈ lw_tbl := List.mem_append_right _ (List.mem_append_left _ (List.mem_of_getElem? (i := 106) rfl))
theorem wd_331 : (Cond.methodLink "SealTrustLaw" 7 y_ST_deal) ∈ lw_tbl := List.mem_append_right _ (List.mem_append_left _ (List.mem_of_getElem? (i := 151) rfl))
theorem wd_332 : (Cond.instanceMethod y_ST_deal) ∈ lw_tbl := List.mem_append_right _ (List.mem_append_left _ (List.mem_of_getElem? (i := 152) rfl))
theorem wd_333 : (Cond.selects "SealTrust" y_ST_deal y_ST_deal) ∈ lw_tbl := List.mem_append_right _ (List.mem_append_left _ (List.mem_of_getElem? (i := 153) rfl))
theorem wd_334 : (Cond.code y_ST_deal prog_1_method_2_code 6 none) ∈ lw_tbl := List.mem_append_right _ (List.mem_append_left _ (List.mem_of_getElem? (i := 154) rfl))
theorem wd_335 : (Cond.methodLink "SealTrustLaw" 15 y_ST_put) ∈ lw_tbl := List.mem_append_right _ (List.mem_append_right _ (List.mem_append_left _ (List.mem_of_getElem? (i := 16) rfl)))
theorem wd_336 : (Cond.instanceMethod y_ST_put) ∈ lw_tbl := List.mem_append_right _ (List.mem_append_right _ (List.mem_append_left _ (List.mem_of_getElem? (i := 17) rfl)))
theorem wd_337 : (Cond.selects "SealTrust" y_ST_put y_ST_put) ∈ lw_tbl := List.mem_append_right _ (List.mem_append_right _ (List.mem_append_left _ (List.mem_of_getElem? (i := 18) rfl)))
theorem wd_338 : (Cond.code y_ST_put prog_1_method_3_code 3 (some .int)) ∈ lw_tbl := List.mem_append_right _ (List.mem_append_right _ (List.mem_append_left _ (List.mem_of_getElem? (i := 19) rfl)))
theorem wd_339 : (Cond.methodLink "SealTrustLaw" 19 y_ST_motion) ∈ lw_tbl := List.mem_append_right _ (List.mem_append_right _ (List.mem_append_left _ (List.mem_of_getElem? (i := 37) rfl)))
theorem wd_340 : (Cond.instanceMethod y_ST_motion) ∈ lw_tbl := List.mem_append_right _ (List.mem_append_right _ (List.mem_append_left _ (List.mem_of_getElem? (i := 38) rfl)))
theorem wd_341 : (Cond.selects "SealTrust" y_ST_motion y_ST_motion) ∈ lw_tbl := List.mem_append_right _ (List.mem_append_right _ (List.mem_append_left _ (List.mem_of_getElem? (i := 39) rfl)))
theorem wd_342 : (Cond.code y_ST_motion prog_1_method_4_code 1 (some .int)) ∈ lw_tbl := List.mem_append_right _ (List.mem_append_right _ (List.mem_append_left _ (List.mem_of_getElem? (i := 40) rfl)))
theorem wd_343 : (Cond.methodLink "SealTrustLaw" 25 y_ST_consent) ∈ lw_tbl := List.mem_append_right _ (List.mem_append_right _ (List.mem_append_left _ (List.mem_of_getElem? (i := 97) rfl)))
theorem wd_344 : (Cond.instanceMethod y_ST_consent) ∈ lw_tbl := List.mem_append_right _ (List.mem_append_right _ (List.mem_append_left _ (List.mem_of_getElem? (i := 98) rfl)))
theorem wd_345 : (Cond.selects "SealTrust" y_ST_consent y_ST_consent) ∈ lw_tbl := List.mem_append_right _ (List.mem_append_right _ (List.mem_append_left _ (List.mem_of_getElem? (i := 99) rfl)))
theorem wd_346 : (Cond.code y_ST_consent prog_1_method_5_code 4 none) ∈ lw_tbl := List.mem_append_right _ (List.mem_append_right _ (List.mem_append_left _ (List.mem_of_getElem? (i := 100) rfl)))
theorem wd_347 : (Cond.methodLink "SealTrustLaw" 31 y_ST_object) ∈ lw_tbl := List.mem_append_right _ (List.mem_append_right _ (List.mem_append_left _ (List.mem_of_getElem? (i := 161) rfl)))
theorem wd_348 : (Cond.instanceMethod y_ST_object) ∈ lw_tbl := List.mem_append_right _ (List.mem_append_right _ (List.mem_append_left _ (List.mem_of_getElem? (i := 162) rfl)))
theorem wd_349 : (Cond.selects "SealTrust" y_ST_object y_ST_object) ∈ lw_tbl := List.mem_append_right _ (List.mem_append_right _ (List.mem_append_left _ (List.mem_of_getElem? (i := 163) rfl)))
theorem wd_350 : (Cond.code y_ST_object prog_1_method_6_code 4 none) ∈ lw_tbl := List.mem_append_right _ (List.mem_append_right _ (List.mem_append_left _ (List.mem_of_getElem? (i := 164) rfl)))
theorem wd_351 : (Cond.methodLink "SealTrustLaw" 34 y_ST_file) ∈ lw_tbl := List.mem_append_right _ (List.mem_append_right _ (List.mem_append_left _ (List.mem_of_getElem? (i := 178) rfl)))
theorem wd_352 : (Cond.instanceMethod y_ST_file) ∈ lw_tbl := List.mem_append_right _ (List.mem_append_right _ (List.mem_append_left _ (List.mem_of_getElem? (i := 179) rfl)))
theorem wd_353 : (Cond.selects "SealTrust" y_ST_file y_ST_file) ∈ lw_tbl := List.mem_append_right _ (List.mem_append_right _ (List.mem_append_left _ (List.mem_of_getElem? (i := 180) rfl)))
theorem wd_354 : (Cond.code y_ST_file prog_1_method_7_code 9 none) ∈ lw_tbl := List.mem_append_right _ (List.mem_append_right _ (List.mem_append_left _ (List.mem_of_getElem? (i := 181) rfl)))
theorem wd_355 : (Cond.methodLink "SealTrustLaw" 38 y_ST_partial) ∈ lw_tbl := List.mem_append_right _ (List.mem_append_right _ (List.mem_append_left _ (List.mem_of_getElem? (i := 187) rfl)))
theorem wd_356 : (Cond.instanceMethod y_ST_partial) ∈ lw_tbl := List.mem_append_right _ (List.mem_append_right _ (List.mem_append_left _ (List.mem_of_getElem? (i := 188) rfl)))
theorem wd_357 : (Cond.selects "SealTrust" y_ST_partial y_ST_partial) ∈ lw_tbl := List.mem_append_right _ (List.mem_append_right _ (List.mem_append_left _ (List.mem_of_getElem? (i := 189) rfl)))
theorem wd_358 : (Cond.code y_ST_partial prog_1_method_8_code 5 (some .long)) ∈ lw_tbl := List.mem_append_right _ (List.mem_append_right _ (List.mem_append_left _ (List.mem_of_getElem? (i := 190) rfl)))
theorem wd_359 : (Cond.methodLink "SealTrustLaw" 42 y_ST_bad) ∈ lw_tbl := List.mem_append_right _ (List.mem_append_right _ (List.mem_append_left _ (List.mem_of_getElem? (i := 196) rfl)))
theorem wd_360 : (Cond.instanceMethod y_ST_bad) ∈ lw_tbl := List.mem_append_right _ (List.mem_append_right _ (List.mem_append_left _ (List.mem_of_getElem? (i := 197) rfl)))
theorem wd_361 : (Cond.selects "SealTrust" y_ST_bad y_ST_bad) ∈ lw_tbl := List.mem_append_right _ (List.mem_append_right _ (List.mem_append_left _ (List.mem_of_getElem? (i := 198) rfl)))
theorem wd_362 : (Cond.code y_ST_bad prog_1_method_9_code 3 (some .int)) ∈ lw_tbl := List.mem_append_right _ (List.mem_append_right _ (List.mem_append_left _ (List.mem_of_getElem? (i := 199) rfl)))
theorem wd_363 : (Cond.methodLink "SealTrustLaw" 46 y_ST_join) ∈ lw_tbl := List.mem_append_right _ (List.mem_append_right _ (List.mem_append_left _ (List.mem_of_getElem? (i := 225) rfl)))
theorem wd_364 : (Cond.instanceMethod y_ST_join) ∈ lw_tbl := List.mem_append_right _ (List.mem_append_right _ (List.mem_append_left _ (List.mem_of_getElem? (i := 226) rfl)))
theorem wd_365 : (Cond.selects "SealTrust" y_ST_join y_ST_join) ∈ lw_tbl := List.mem_append_right _ (List.mem_append_right _ (List.mem_append_left _ (List.mem_of_getElem? (i := 227) rfl)))
theorem wd_366 : (Cond.code y_ST_join prog_1_method_10_code 3 (some .long)) ∈ lw_tbl := List.mem_append_right _ (List.mem_append_right _ (List.mem_append_left _ (List.mem_of_getElem? (i := 228) rfl)))
theorem wd_367 : (Cond.methodLink "SealTrustLaw" 52 y_ST_verify) ∈ lw_tbl := List.mem_append_right _ (List.mem_append_right _ (List.mem_append_right _ (List.mem_append_left _ (List.mem_of_getElem? (i := 23) rfl))))
theorem wd_368 : (Cond.instanceMethod y_ST_verify) ∈ lw_tbl := List.mem_append_right _ (List.mem_append_right _ (List.mem_append_right _ (List.mem_append_left _ (List.mem_of_getElem? (i := 24) rfl))))
theorem wd_369 : (Cond.selects "SealTrust" y_ST_verify y_ST_verify) ∈ lw_tbl := List.mem_append_right _ (List.mem_append_right _ (List.mem_append_right _ (List.mem_append_left _ (List.mem_of_getElem? (i := 25) rfl))))
theorem wd_370 : (Cond.code y_ST_verify prog_1_method_11_code 3 (some .boolean)) ∈ lw_tbl := List.mem_append_right _ (List.mem_append_right _ (List.mem_append_right _ (List.mem_append_left _ (List.mem_of_getElem? (i := 26) rfl))))
theorem wd_371 : (Cond.methodLink "SealTrustLaw" 56 y_ST_refresh) ∈ lw_tbl := List.mem_append_right _ (List.mem_append_right _ (List.mem_append_right _ (List.mem_append_left _ (List.mem_of_getElem? (i := 34) rfl))))
theorem wd_372 : (Cond.instanceMethod y_ST_refresh) ∈ lw_tbl := List.mem_append_right _ (List.mem_append_right _ (List.mem_append_right _ (List.mem_append_left _ (List.mem_of_getElem? (i := 35) rfl))))
theorem wd_373 : (Cond.selects "SealTrust" y_ST_refresh y_ST_refresh) ∈ lw_tbl := List.mem_append_right _ (List.mem_append_right _ (List.mem_append_right _ (List.mem_append_left _ (List.mem_of_getElem? (i := 36) rfl))))
theorem wd_374 : (Cond.code y_ST_refresh prog_1_method_12_code 3 none) ∈ lw_tbl := List.mem_append_right _ (List.mem_append_right _ (List.mem_append_right _ (List.mem_append_left _ (List.mem_of_getElem? (i := 37) rfl))))
theorem wd_375 : (Cond.methodLink "SealTrustLaw" 59 y_ST_suspend) ∈ lw_tbl := List.mem_append_right _ (List.mem_append_right _ (List.mem_append_right _ (List.mem_append_left _ (List.mem_of_getElem? (i := 49) rfl))))
theorem wd_376 : (Cond.instanceMethod y_ST_suspend) ∈ lw_tbl := List.mem_append_right _ (List.mem_append_right _ (List.mem_append_right _ (List.mem_append_left _ (List.mem_of_getElem? (i := 50) rfl))))
theorem wd_377 : (Cond.selects "SealTrust" y_ST_suspend y_ST_suspend) ∈ lw_tbl := List.mem_append_right _ (List.mem_append_right _ (List.mem_append_right _ (List.mem_append_left _ (List.mem_of_getElem? (i := 51) rfl))))
theorem wd_378 : (Cond.code y_ST_suspend prog_1_method_13_code 3 (some .boolean)) ∈ lw_tbl := List.mem_append_right _ (List.mem_append_right _ (List.mem_append_right _ (List.mem_append_left _ (List.mem_of_getElem? (i := 52) rfl))))
theorem wd_379 : (Cond.methodLink "SealTrustLaw" 63 y_ST_parts) ∈ lw_tbl := List.mem_append_right _ (List.mem_append_right _ (List.mem_append_right _ (List.mem_append_left _ (List.mem_of_getElem? (i := 56) rfl))))
theorem wd_380 : (Cond.instanceMethod y_ST_parts) ∈ lw_tbl := List.mem_append_right _ (List.mem_append_right _ (List.mem_append_right _ (List.mem_append_left _ (List.mem_of_getElem? (i := 57) rfl))))
theorem wd_381 : (Cond.selects "SealTrust" y_ST_parts y_ST_parts) ∈ lw_tbl := List.mem_append_right _ (List.mem_append_right _ (List.mem_append_right _ (List.mem_append_left _ (List.mem_of_getElem? (i := 58) rfl))))
theorem wd_382 : (Cond.code y_ST_parts prog_1_method_14_code 2 (some .boolean)) ∈ lw_tbl := List.mem_append_right _ (List.mem_append_right _ (List.mem_append_right _ (List.mem_append_left _ (List.mem_of_getElem? (i := 59) rfl))))
theorem wd_383 : (Cond.methodLink "SealTrustLaw" 67 y_ST_told) ∈ lw_tbl := List.mem_append_right _ (List.mem_append_right _ (List.mem_append_right _ (List.mem_append_left _ (List.mem_of_getElem? (i := 73) rfl))))
theorem wd_384 : (Cond.instanceMethod y_ST_told) ∈ lw_tbl := List.mem_append_right _ (List.mem_append_right _ (List.mem_append_right _ (List.mem_append_left _ (List.mem_of_getElem? (i := 74) rfl))))
theorem wd_385 : (Cond.selects "SealTrust" y_ST_told y_ST_told) ∈ lw_tbl := List.mem_append_right _ (List.mem_append_right _ (List.mem_append_right _ (List.mem_append_left _ (List.mem_of_getElem? (i := 75) rfl))))
theorem wd_386 : (Cond.code y_ST_told prog_1_method_15_code 4 (some .long)) ∈ lw_tbl := List.mem_append_right _ (List.mem_append_right _ (List.mem_append_right _ (List.mem_append_left _ (List.mem_of_getElem? (i := 76) rfl))))
theorem wd_387 : (Cond.methodLink "SealTrustLaw" 71 y_ST_book) ∈ lw_tbl := List.mem_append_right _ (List.mem_append_right _ (List.mem_append_right _ (List.mem_append_left _ (List.mem_of_getElem? (i := 81) rfl))))
theorem wd_388 : (Cond.instanceMethod y_ST_book) ∈ lw_tbl := List.mem_append_right _ (List.mem_append_right _ (List.mem_append_right _ (List.mem_append_left _ (List.mem_of_getElem? (i := 82) rfl))))
theorem wd_389 : (Cond.selects "SealTrust" y_ST_book y_ST_book) ∈ lw_tbl := List.mem_append_right _ (List.mem_append_right _ (List.mem_append_right _ (List.mem_append_left _ (List.mem_of_getElem? (i := 83) rfl))))
theorem wd_390 : (Cond.code y_ST_book prog_1_method_16_code 2 (some .int)) ∈ lw_tbl := List.mem_append_right _ (List.mem_append_right _ (List.mem_append_right _ (List.mem_append_left _ (List.mem_of_getElem? (i := 84) rfl))))
theorem wd_391 : (Cond.methodLink "SealTrustLaw" 74 y_ST_state) ∈ lw_tbl := List.mem_append_right _ (List.mem_append_right _ (List.mem_append_right _ (List.mem_append_left _ (List.mem_of_getElem? (i := 89) rfl))))
theorem wd_392 : (Cond.instanceMethod y_ST_state) ∈ lw_tbl := List.mem_append_right _ (List.mem_append_right _ (List.mem_append_right _ (List.mem_append_left _ (List.mem_of_getElem? (i := 90) rfl))))
theorem wd_393 : (Cond.selects "SealTrust" y_ST_state y_ST_state) ∈ lw_tbl := List.mem_append_right _ (List.mem_append_right _ (List.mem_append_right _ (List.mem_append_left _ (List.mem_of_getElem? (i := 91) rfl))))
theorem wd_394 : (Cond.code y_ST_state prog_1_method_17_code 2 (some .long)) ∈ lw_tbl := List.mem_append_right _ (List.mem_append_right _ (List.mem_append_right _ (List.mem_append_left _ (List.mem_of_getElem? (i := 92) rfl))))
theorem wd_395 : (Cond.methodLink "SealTrustLaw" 77 y_ST_init) ∈ lw_tbl := List.mem_append_right _ (List.mem_append_left _ (List.mem_of_getElem? (i := 16) rfl))
theorem wd_396 : (Cond.instanceMethod y_ST_init) ∈ lw_tbl := List.mem_append_right _ (List.mem_append_left _ (List.mem_of_getElem? (i := 17) rfl))
theorem wd_397 : (Cond.code y_ST_init prog_1_method_1_code 2 none) ∈ lw_tbl := List.mem_append_right _ (List.mem_append_left _ (List.mem_of_getElem? (i := 18) rfl))
theorem wd_398 : (Cond.methodLink "SealTrustLaw" 80 y_MD_init) ∈ lw_tbl := List.mem_append_right _ (List.mem_append_right _ (List.mem_append_right _ (List.mem_append_left _ (List.mem_of_getElem? (i := 96) rfl))))
theorem wd_399 : (Cond.instanceMethod y_MD_init) ∈ lw_tbl := List.mem_append_right _ (List.mem_append_right _ (List.mem_append_right _ (List.mem_append_left _ (List.mem_of_getElem? (i := 97) rfl))))
theorem wd_400 : (Cond.code y_MD_init prog_6_method_1_code 1 none) ∈ lw_tbl := List.mem_append_right _ (List.mem_append_right _ (List.mem_append_right _ (List.mem_append_left _ (List.mem_of_getElem? (i := 98) rfl))))
theorem wd_401 : (Cond.static y_LW_deal) ∈ lw_tbl := List.mem_append_right _ (List.mem_append_left _ (List.mem_of_getElem? (i := 148) rfl))
theorem wd_402 : (Cond.initialized "SealTrustLaw") ∈ lw_tbl := List.mem_append_right _ (List.mem_append_left _ (List.mem_of_getElem? (i := 0) rfl))
theorem wd_403 : (Cond.methodLink "SealTrustLaw" 81 y_LW_deal) ∈ lw_tbl := List.mem_append_right _ (List.mem_append_left _ (List.mem_of_getElem? (i := 147) rfl))
theorem wd_404 : (Cond.codeWith y_LW_deal method_3_code 7 (some .int) [(0, 11, 14, 13)]) ∈ lw_tbl := List.mem_append_right _ (List.mem_append_left _ (List.mem_of_getElem? (i := 149) rfl))
theorem wd_405 : (Cond.methodLink "SealTrustLaw" 86 y_MD_deal) ∈ lw_tbl := List.mem_append_right _ (List.mem_append_right _ (List.mem_append_right _ (List.mem_append_left _ (List.mem_of_getElem? (i := 174) rfl))))
theorem wd_406 : (Cond.instanceMethod y_MD_deal) ∈ lw_tbl := List.mem_append_right _ (List.mem_append_right _ (List.mem_append_right _ (List.mem_append_left _ (List.mem_of_getElem? (i := 175) rfl))))
theorem wd_407 : (Cond.selects "SealTrustModel" y_MD_deal y_MD_deal) ∈ lw_tbl := List.mem_append_right _ (List.mem_append_right _ (List.mem_append_right _ (List.mem_append_left _ (List.mem_of_getElem? (i := 176) rfl))))
theorem wd_408 : (Cond.code y_MD_deal prog_6_method_20_code 7 none) ∈ lw_tbl := List.mem_append_right _ (List.mem_append_right _ (List.mem_append_right _ (List.mem_append_left _ (List.mem_of_getElem? (i := 177) rfl))))
theorem wd_409 : (Cond.methodLink "SealTrustLaw" 87 y_MD_thrown) ∈ lw_tbl := List.mem_append_right _ (List.mem_append_right _ (List.mem_append_right _ (List.mem_append_left _ (List.mem_of_getElem? (i := 170) rfl))))
theorem wd_410 : (Cond.instanceMethod y_MD_thrown) ∈ lw_tbl := List.mem_append_right _ (List.mem_append_right _ (List.mem_append_right _ (List.mem_append_left _ (List.mem_of_getElem? (i := 171) rfl))))
theorem wd_411 : (Cond.selects "SealTrustModel" y_MD_thrown y_MD_thrown) ∈ lw_tbl := List.mem_append_right _ (List.mem_append_right _ (List.mem_append_right _ (List.mem_append_left _ (List.mem_of_getElem? (i := 172) rfl))))
theorem wd_412 : (Cond.code y_MD_thrown prog_6_method_19_code 1 (some .int)) ∈ lw_tbl := List.mem_append_right _ (List.mem_append_right _ (List.mem_append_right _ (List.mem_append_left _ (List.mem_of_getElem? (i := 173) rfl))))
theorem wd_413 : (Cond.static y_LW_put) ∈ lw_tbl := List.mem_append_right _ (List.mem_append_right _ (List.mem_append_left _ (List.mem_of_getElem? (i := 14) rfl)))
theorem wd_414 : (Cond.methodLink "SealTrustLaw" 90 y_LW_put) ∈ lw_tbl := List.mem_append_right _ (List.mem_append_right _ (List.mem_append_left _ (List.mem_of_getElem? (i := 13) rfl)))
theorem wd_415 : (Cond.codeWith y_LW_put method_4_code 5 (some .int) [(0, 10, 13, 13)]) ∈ lw_tbl := List.mem_append_right _ (List.mem_append_right _ (List.mem_append_left _ (List.mem_of_getElem? (i := 15) rfl)))
theorem wd_416 : (Cond.methodLink "SealTrustLaw" 93 y_MD_put) ∈ lw_tbl := List.mem_append_right _ (List.mem_append_right _ (List.mem_append_right _ (List.mem_append_left _ (List.mem_of_getElem? (i := 188) rfl))))
theorem wd_417 : (Cond.instanceMethod y_MD_put) ∈ lw_tbl := List.mem_append_right _ (List.mem_append_right _ (List.mem_append_right _ (List.mem_append_left _ (List.mem_of_getElem? (i := 189) rfl))))
theorem wd_418 : (Cond.selects "SealTrustModel" y_MD_put y_MD_put) ∈ lw_tbl := List.mem_append_right _ (List.mem_append_right _ (List.mem_append_right _ (List.mem_append_left _ (List.mem_of_getElem? (i := 190) rfl))))
theorem wd_419 : (Cond.code y_MD_put prog_6_method_21_code 4 (some .int)) ∈ lw_tbl := List.mem_append_right _ (List.mem_append_right _ (List.mem_append_right _ (List.mem_append_left _ (List.mem_of_getElem? (i := 191) rfl))))
theorem wd_420 : (Cond.static y_LW_motion) ∈ lw_tbl := List.mem_append_right _ (List.mem_append_right _ (List.mem_append_left _ (List.mem_of_getElem? (i := 34) rfl)))
theorem wd_421 : (Cond.methodLink "SealTrustLaw" 94 y_LW_motion) ∈ lw_tbl := List.mem_append_right _ (List.mem_append_right _ (List.mem_append_left _ (List.mem_of_getElem? (i := 33) rfl)))
theorem wd_422 : (Cond.codeWith y_LW_motion method_5_code 3 (some .int) [(0, 8, 11, 23)]) ∈ lw_tbl := List.mem_append_right _ (List.mem_append_right _ (List.mem_append_left _ (List.mem_of_getElem? (i := 35) rfl)))
theorem wd_423 : (Cond.methodLink "SealTrustLaw" 97 y_MD_motion) ∈ lw_tbl := List.mem_append_right _ (List.mem_append_right _ (List.mem_append_right _ (List.mem_append_left _ (List.mem_of_getElem? (i := 192) rfl))))
theorem wd_424 : (Cond.instanceMethod y_MD_motion) ∈ lw_tbl := List.mem_append_right _ (List.mem_append_right _ (List.mem_append_right _ (List.mem_append_left _ (List.mem_of_getElem? (i := 193) rfl))))
theorem wd_425 : (Cond.selects "SealTrustModel" y_MD_motion y_MD_motion) ∈ lw_tbl := List.mem_append_right _ (List.mem_append_right _ (List.mem_append_right _ (List.mem_append_left _ (List.mem_of_getElem? (i := 194) rfl))))
theorem wd_426 : (Cond.code y_MD_motion prog_6_method_22_code 1 (some .int)) ∈ lw_tbl := List.mem_append_right _ (List.mem_append_right _ (List.mem_append_right _ (List.mem_append_left _ (List.mem_of_getElem? (i := 195) rfl))))
theorem wd_427 : (Cond.static y_LW_consent) ∈ lw_tbl := List.mem_append_right _ (List.mem_append_right _ (List.mem_append_left _ (List.mem_of_getElem? (i := 94) rfl)))
theorem wd_428 : (Cond.methodLink "SealTrustLaw" 98 y_LW_consent) ∈ lw_tbl := List.mem_append_right _ (List.mem_append_right _ (List.mem_append_left _ (List.mem_of_getElem? (i := 93) rfl)))
theorem wd_429 : (Cond.codeWith y_LW_consent method_6_code 4 (some .int) [(0, 6, 9, 29), (0, 6, 12, 23)]) ∈ lw_tbl := List.mem_append_right _ (List.mem_append_right _ (List.mem_append_left _ (List.mem_of_getElem? (i := 95) rfl)))
theorem wd_430 : (Cond.methodLink "SealTrustLaw" 101 y_MD_consent) ∈ lw_tbl := List.mem_append_right _ (List.mem_append_right _ (List.mem_append_right _ (List.mem_append_left _ (List.mem_of_getElem? (i := 217) rfl))))
theorem wd_431 : (Cond.instanceMethod y_MD_consent) ∈ lw_tbl := List.mem_append_right _ (List.mem_append_right _ (List.mem_append_right _ (List.mem_append_left _ (List.mem_of_getElem? (i := 218) rfl))))
theorem wd_432 : (Cond.selects "SealTrustModel" y_MD_consent y_MD_consent) ∈ lw_tbl := List.mem_append_right _ (List.mem_append_right _ (List.mem_append_right _ (List.mem_append_left _ (List.mem_of_getElem? (i := 219) rfl))))
theorem wd_433 : (Cond.code y_MD_consent prog_6_method_24_code 3 none) ∈ lw_tbl := List.mem_append_right _ (List.mem_append_right _ (List.mem_append_right _ (List.mem_append_left _ (List.mem_of_getElem? (i := 220) rfl))))
theorem wd_434 : (Cond.static y_LW_object) ∈ lw_tbl := List.mem_append_right _ (List.mem_append_right _ (List.mem_append_left _ (List.mem_of_getElem? (i := 159) rfl)))
theorem wd_435 : (Cond.methodLink "SealTrustLaw" 102 y_LW_object) ∈ lw_tbl := List.mem_append_right _ (List.mem_append_right _ (List.mem_append_left _ (List.mem_of_getElem? (i := 158) rfl)))
theorem wd_436 : (Cond.codeWith y_LW_object method_7_code 4 (some .int) [(0, 6, 9, 29), (0, 6, 12, 23)]) ∈ lw_tbl := List.mem_append_right _ (List.mem_append_right _ (List.mem_append_left _ (List.mem_of_getElem? (i := 160) rfl)))
theorem wd_437 : (Cond.methodLink "SealTrustLaw" 104 y_MD_object) ∈ lw_tbl := List.mem_append_right _ (List.mem_append_right _ (List.mem_append_right _ (List.mem_append_right _ (List.mem_of_getElem? (i := 13) rfl))))
theorem wd_438 : (Cond.instanceMethod y_MD_object) ∈ lw_tbl := List.mem_append_right _ (List.mem_append_right _ (List.mem_append_right _ (List.mem_append_right _ (List.mem_of_getElem? (i := 14) rfl))))
theorem wd_439 : (Cond.selects "SealTrustModel" y_MD_object y_MD_object) ∈ lw_tbl := List.mem_append_right _ (List.mem_append_right _ (List.mem_append_right _ (List.mem_append_right _ (List.mem_of_getElem? (i := 15) rfl))))
theorem wd_440 : (Cond.code y_MD_object prog_6_method_25_code 3 none) ∈ lw_tbl := List.mem_append_right _ (List.mem_append_right _ (List.mem_append_right _ (List.mem_append_right _ (List.mem_of_getElem? (i := 16) rfl))))
theorem wd_441 : (Cond.constantLong "SealTrustLaw" 105 4294967295) ∈ lw_tbl := List.mem_append_right _ (List.mem_append_right _ (List.mem_append_right _ (List.mem_append_right _ (List.mem_of_getElem? (i := 77) rfl))))
theorem wd_442 : (Cond.static y_LW_file) ∈ lw_tbl := List.mem_append_right _ (List.mem_append_right _ (List.mem_append_left _ (List.mem_of_getElem? (i := 176) rfl)))
theorem wd_443 : (Cond.methodLink "SealTrustLaw" 107 y_LW_file) ∈ lw_tbl := List.mem_append_right _ (List.mem_append_right _ (List.mem_append_left _ (List.mem_of_getElem? (i := 175) rfl)))
theorem wd_444 : (Cond.codeWith y_LW_file method_8_code 9 (some .int) [(0, 11, 14, 29), (0, 11, 18, 23)]) ∈ lw_tbl := List.mem_append_right _ (List.mem_append_right _ (List.mem_append_left _ (List.mem_of_getElem? (i := 177) rfl)))
theorem wd_445 : (Cond.methodLink "SealTrustLaw" 110 y_MD_file) ∈ lw_tbl := List.mem_append_right _ (List.mem_append_right _ (List.mem_append_right _ (List.mem_append_right _ (List.mem_of_getElem? (i := 20) rfl))))
theorem wd_446 : (Cond.instanceMethod y_MD_file) ∈ lw_tbl := List.mem_append_right _ (List.mem_append_right _ (List.mem_append_right _ (List.mem_append_right _ (List.mem_of_getElem? (i := 21) rfl))))
theorem wd_447 : (Cond.selects "SealTrustModel" y_MD_file y_MD_file) ∈ lw_tbl := List.mem_append_right _ (List.mem_append_right _ (List.mem_append_right _ (List.mem_append_right _ (List.mem_of_getElem? (i := 22) rfl))))
theorem wd_448 : (Cond.code y_MD_file prog_6_method_26_code 8 none) ∈ lw_tbl := List.mem_append_right _ (List.mem_append_right _ (List.mem_append_right _ (List.mem_append_right _ (List.mem_of_getElem? (i := 23) rfl))))
theorem wd_449 : (Cond.static y_LW_partial) ∈ lw_tbl := List.mem_append_right _ (List.mem_append_right _ (List.mem_append_left _ (List.mem_of_getElem? (i := 185) rfl)))
theorem wd_450 : (Cond.methodLink "SealTrustLaw" 111 y_LW_partial) ∈ lw_tbl := List.mem_append_right _ (List.mem_append_right _ (List.mem_append_left _ (List.mem_of_getElem? (i := 184) rfl)))
theorem wd_451 : (Cond.codeWith y_LW_partial method_9_code 6 (some .int) [(0, 11, 14, 29), (0, 11, 18, 13)]) ∈ lw_tbl := List.mem_append_right _ (List.mem_append_right _ (List.mem_append_left _ (List.mem_of_getElem? (i := 186) rfl)))
theorem wd_452 : (Cond.methodLink "SealTrustLaw" 114 y_MD_partial) ∈ lw_tbl := List.mem_append_right _ (List.mem_append_right _ (List.mem_append_right _ (List.mem_append_right _ (List.mem_of_getElem? (i := 24) rfl))))
theorem wd_453 : (Cond.instanceMethod y_MD_partial) ∈ lw_tbl := List.mem_append_right _ (List.mem_append_right _ (List.mem_append_right _ (List.mem_append_right _ (List.mem_of_getElem? (i := 25) rfl))))
theorem wd_454 : (Cond.selects "SealTrustModel" y_MD_partial y_MD_partial) ∈ lw_tbl := List.mem_append_right _ (List.mem_append_right _ (List.mem_append_right _ (List.mem_append_right _ (List.mem_of_getElem? (i := 26) rfl))))
theorem wd_455 : (Cond.code y_MD_partial prog_6_method_27_code 5 (some .long)) ∈ lw_tbl := List.mem_append_right _ (List.mem_append_right _ (List.mem_append_right _ (List.mem_append_right _ (List.mem_of_getElem? (i := 27) rfl))))
theorem wd_456 : (Cond.static y_LW_bad) ∈ lw_tbl := List.mem_append_right _ (List.mem_append_right _ (List.mem_append_left _ (List.mem_of_getElem? (i := 194) rfl)))
theorem wd_457 : (Cond.methodLink "SealTrustLaw" 115 y_LW_bad) ∈ lw_tbl := List.mem_append_right _ (List.mem_append_right _ (List.mem_append_left _ (List.mem_of_getElem? (i := 193) rfl)))
theorem wd_458 : (Cond.codeWith y_LW_bad method_10_code 4 (some .int) [(0, 9, 12, 29)]) ∈ lw_tbl := List.mem_append_right _ (List.mem_append_right _ (List.mem_append_left _ (List.mem_of_getElem? (i := 195) rfl)))
theorem wd_459 : (Cond.methodLink "SealTrustLaw" 118 y_MD_bad) ∈ lw_tbl := List.mem_append_right _ (List.mem_append_right _ (List.mem_append_right _ (List.mem_append_right _ (List.mem_of_getElem? (i := 28) rfl))))
theorem wd_460 : (Cond.instanceMethod y_MD_bad) ∈ lw_tbl := List.mem_append_right _ (List.mem_append_right _ (List.mem_append_right _ (List.mem_append_right _ (List.mem_of_getElem? (i := 29) rfl))))
theorem wd_461 : (Cond.selects "SealTrustModel" y_MD_bad y_MD_bad) ∈ lw_tbl := List.mem_append_right _ (List.mem_append_right _ (List.mem_append_right _ (List.mem_append_right _ (List.mem_of_getElem? (i := 30) rfl))))
theorem wd_462 : (Cond.code y_MD_bad prog_6_method_29_code 2 (some .int)) ∈ lw_tbl := List.mem_append_right _ (List.mem_append_right _ (List.mem_append_right _ (List.mem_append_right _ (List.mem_of_getElem? (i := 31) rfl))))
theorem wd_463 : (Cond.static y_LW_join) ∈ lw_tbl := List.mem_append_right _ (List.mem_append_right _ (List.mem_append_left _ (List.mem_of_getElem? (i := 222) rfl)))
theorem wd_464 : (Cond.methodLink "SealTrustLaw" 119 y_LW_join) ∈ lw_tbl := List.mem_append_right _ (List.mem_append_right _ (List.mem_append_left _ (List.mem_of_getElem? (i := 221) rfl)))
theorem wd_465 : (Cond.codeWith y_LW_join method_11_code 4 (some .int) [(0, 8, 11, 29), (0, 8, 14, 23), (0, 8, 17, 50)]) ∈ lw_tbl := List.mem_append_right _ (List.mem_append_right _ (List.mem_append_left _ (List.mem_of_getElem? (i := 223) rfl)))
theorem wd_466 : (Cond.methodLink "SealTrustLaw" 121 y_MD_join) ∈ lw_tbl := List.mem_append_right _ (List.mem_append_right _ (List.mem_append_right _ (List.mem_append_right _ (List.mem_of_getElem? (i := 44) rfl))))
theorem wd_467 : (Cond.instanceMethod y_MD_join) ∈ lw_tbl := List.mem_append_right _ (List.mem_append_right _ (List.mem_append_right _ (List.mem_append_right _ (List.mem_of_getElem? (i := 45) rfl))))
theorem wd_468 : (Cond.selects "SealTrustModel" y_MD_join y_MD_join) ∈ lw_tbl := List.mem_append_right _ (List.mem_append_right _ (List.mem_append_right _ (List.mem_append_right _ (List.mem_of_getElem? (i := 46) rfl))))
theorem wd_469 : (Cond.code y_MD_join prog_6_method_30_code 2 (some .long)) ∈ lw_tbl := List.mem_append_right _ (List.mem_append_right _ (List.mem_append_right _ (List.mem_append_right _ (List.mem_of_getElem? (i := 47) rfl))))
theorem wd_470 : (Cond.static y_LW_verify) ∈ lw_tbl := List.mem_append_right _ (List.mem_append_right _ (List.mem_append_right _ (List.mem_append_left _ (List.mem_of_getElem? (i := 21) rfl))))
theorem wd_471 : (Cond.methodLink "SealTrustLaw" 122 y_LW_verify) ∈ lw_tbl := List.mem_append_right _ (List.mem_append_right _ (List.mem_append_right _ (List.mem_append_left _ (List.mem_of_getElem? (i := 20) rfl))))
theorem wd_472 : (Cond.codeWith y_LW_verify method_12_code 5 (some .int) [(0, 16, 19, 23)]) ∈ lw_tbl := List.mem_append_right _ (List.mem_append_right _ (List.mem_append_right _ (List.mem_append_left _ (List.mem_of_getElem? (i := 22) rfl))))
theorem wd_473 : (Cond.methodLink "SealTrustLaw" 125 y_MD_verify) ∈ lw_tbl := List.mem_append_right _ (List.mem_append_right _ (List.mem_append_right _ (List.mem_append_right _ (List.mem_of_getElem? (i := 48) rfl))))
theorem wd_474 : (Cond.instanceMethod y_MD_verify) ∈ lw_tbl := List.mem_append_right _ (List.mem_append_right _ (List.mem_append_right _ (List.mem_append_right _ (List.mem_of_getElem? (i := 49) rfl))))
theorem wd_475 : (Cond.selects "SealTrustModel" y_MD_verify y_MD_verify) ∈ lw_tbl := List.mem_append_right _ (List.mem_append_right _ (List.mem_append_right _ (List.mem_append_right _ (List.mem_of_getElem? (i := 50) rfl))))
theorem wd_476 : (Cond.code y_MD_verify prog_6_method_31_code 3 (some .boolean)) ∈ lw_tbl := List.mem_append_right _ (List.mem_append_right _ (List.mem_append_right _ (List.mem_append_right _ (List.mem_of_getElem? (i := 51) rfl))))
theorem wd_477 : (Cond.static y_LW_refresh) ∈ lw_tbl := List.mem_append_right _ (List.mem_append_right _ (List.mem_append_right _ (List.mem_append_left _ (List.mem_of_getElem? (i := 32) rfl))))
theorem wd_478 : (Cond.methodLink "SealTrustLaw" 126 y_LW_refresh) ∈ lw_tbl := List.mem_append_right _ (List.mem_append_right _ (List.mem_append_right _ (List.mem_append_left _ (List.mem_of_getElem? (i := 31) rfl))))
theorem wd_479 : (Cond.codeWith y_LW_refresh method_13_code 4 (some .int) [(0, 6, 9, 13), (0, 6, 12, 23)]) ∈ lw_tbl := List.mem_append_right _ (List.mem_append_right _ (List.mem_append_right _ (List.mem_append_left _ (List.mem_of_getElem? (i := 33) rfl))))
theorem wd_480 : (Cond.methodLink "SealTrustLaw" 128 y_MD_refresh) ∈ lw_tbl := List.mem_append_right _ (List.mem_append_right _ (List.mem_append_right _ (List.mem_append_right _ (List.mem_of_getElem? (i := 52) rfl))))
theorem wd_481 : (Cond.instanceMethod y_MD_refresh) ∈ lw_tbl := List.mem_append_right _ (List.mem_append_right _ (List.mem_append_right _ (List.mem_append_right _ (List.mem_of_getElem? (i := 53) rfl))))
theorem wd_482 : (Cond.selects "SealTrustModel" y_MD_refresh y_MD_refresh) ∈ lw_tbl := List.mem_append_right _ (List.mem_append_right _ (List.mem_append_right _ (List.mem_append_right _ (List.mem_of_getElem? (i := 54) rfl))))
theorem wd_483 : (Cond.code y_MD_refresh prog_6_method_32_code 4 none) ∈ lw_tbl := List.mem_append_right _ (List.mem_append_right _ (List.mem_append_right _ (List.mem_append_right _ (List.mem_of_getElem? (i := 55) rfl))))
theorem wd_484 : (Cond.static y_LW_suspend) ∈ lw_tbl := List.mem_append_right _ (List.mem_append_right _ (List.mem_append_right _ (List.mem_append_left _ (List.mem_of_getElem? (i := 47) rfl))))
theorem wd_485 : (Cond.methodLink "SealTrustLaw" 129 y_LW_suspend) ∈ lw_tbl := List.mem_append_right _ (List.mem_append_right _ (List.mem_append_right _ (List.mem_append_left _ (List.mem_of_getElem? (i := 46) rfl))))
theorem wd_486 : (Cond.codeWith y_LW_suspend method_14_code 5 (some .int) [(0, 17, 20, 29), (0, 17, 24, 23)]) ∈ lw_tbl := List.mem_append_right _ (List.mem_append_right _ (List.mem_append_right _ (List.mem_append_left _ (List.mem_of_getElem? (i := 48) rfl))))
theorem wd_487 : (Cond.methodLink "SealTrustLaw" 132 y_MD_suspend) ∈ lw_tbl := List.mem_append_right _ (List.mem_append_right _ (List.mem_append_right _ (List.mem_append_right _ (List.mem_of_getElem? (i := 56) rfl))))
theorem wd_488 : (Cond.instanceMethod y_MD_suspend) ∈ lw_tbl := List.mem_append_right _ (List.mem_append_right _ (List.mem_append_right _ (List.mem_append_right _ (List.mem_of_getElem? (i := 57) rfl))))
theorem wd_489 : (Cond.selects "SealTrustModel" y_MD_suspend y_MD_suspend) ∈ lw_tbl := List.mem_append_right _ (List.mem_append_right _ (List.mem_append_right _ (List.mem_append_right _ (List.mem_of_getElem? (i := 58) rfl))))
theorem wd_490 : (Cond.code y_MD_suspend prog_6_method_33_code 4 (some .boolean)) ∈ lw_tbl := List.mem_append_right _ (List.mem_append_right _ (List.mem_append_right _ (List.mem_append_right _ (List.mem_of_getElem? (i := 59) rfl))))
theorem wd_491 : (Cond.static y_LW_parts) ∈ lw_tbl := List.mem_append_right _ (List.mem_append_right _ (List.mem_append_right _ (List.mem_append_left _ (List.mem_of_getElem? (i := 54) rfl))))
theorem wd_492 : (Cond.methodLink "SealTrustLaw" 133 y_LW_parts) ∈ lw_tbl := List.mem_append_right _ (List.mem_append_right _ (List.mem_append_right _ (List.mem_append_left _ (List.mem_of_getElem? (i := 53) rfl))))
theorem wd_493 : (Cond.codeWith y_LW_parts method_15_code 4 (some .int) [(0, 16, 19, 13), (0, 16, 22, 23)]) ∈ lw_tbl := List.mem_append_right _ (List.mem_append_right _ (List.mem_append_right _ (List.mem_append_left _ (List.mem_of_getElem? (i := 55) rfl))))
theorem wd_494 : (Cond.methodLink "SealTrustLaw" 135 y_MD_parts) ∈ lw_tbl := List.mem_append_right _ (List.mem_append_right _ (List.mem_append_right _ (List.mem_append_right _ (List.mem_of_getElem? (i := 60) rfl))))
theorem wd_495 : (Cond.instanceMethod y_MD_parts) ∈ lw_tbl := List.mem_append_right _ (List.mem_append_right _ (List.mem_append_right _ (List.mem_append_right _ (List.mem_of_getElem? (i := 61) rfl))))
theorem wd_496 : (Cond.selects "SealTrustModel" y_MD_parts y_MD_parts) ∈ lw_tbl := List.mem_append_right _ (List.mem_append_right _ (List.mem_append_right _ (List.mem_append_right _ (List.mem_of_getElem? (i := 62) rfl))))
theorem wd_497 : (Cond.code y_MD_parts prog_6_method_34_code 10 (some .boolean)) ∈ lw_tbl := List.mem_append_right _ (List.mem_append_right _ (List.mem_append_right _ (List.mem_append_right _ (List.mem_of_getElem? (i := 63) rfl))))
theorem wd_498 : (Cond.static y_LW_told) ∈ lw_tbl := List.mem_append_right _ (List.mem_append_right _ (List.mem_append_right _ (List.mem_append_left _ (List.mem_of_getElem? (i := 71) rfl))))
theorem wd_499 : (Cond.methodLink "SealTrustLaw" 136 y_LW_told) ∈ lw_tbl := List.mem_append_right _ (List.mem_append_right _ (List.mem_append_right _ (List.mem_append_left _ (List.mem_of_getElem? (i := 70) rfl))))
theorem wd_500 : (Cond.codeWith y_LW_told method_16_code 5 (some .int) [(0, 9, 12, 29), (0, 9, 16, 13)]) ∈ lw_tbl := List.mem_append_right _ (List.mem_append_right _ (List.mem_append_right _ (List.mem_append_left _ (List.mem_of_getElem? (i := 72) rfl))))
theorem wd_501 : (Cond.methodLink "SealTrustLaw" 138 y_MD_told) ∈ lw_tbl := List.mem_append_right _ (List.mem_append_right _ (List.mem_append_right _ (List.mem_append_right _ (List.mem_of_getElem? (i := 65) rfl))))
theorem wd_502 : (Cond.instanceMethod y_MD_told) ∈ lw_tbl := List.mem_append_right _ (List.mem_append_right _ (List.mem_append_right _ (List.mem_append_right _ (List.mem_of_getElem? (i := 66) rfl))))
theorem wd_503 : (Cond.selects "SealTrustModel" y_MD_told y_MD_told) ∈ lw_tbl := List.mem_append_right _ (List.mem_append_right _ (List.mem_append_right _ (List.mem_append_right _ (List.mem_of_getElem? (i := 67) rfl))))
theorem wd_504 : (Cond.code y_MD_told prog_6_method_35_code 3 (some .long)) ∈ lw_tbl := List.mem_append_right _ (List.mem_append_right _ (List.mem_append_right _ (List.mem_append_right _ (List.mem_of_getElem? (i := 68) rfl))))
theorem wd_505 : (Cond.static y_LW_book) ∈ lw_tbl := List.mem_append_right _ (List.mem_append_right _ (List.mem_append_right _ (List.mem_append_left _ (List.mem_of_getElem? (i := 79) rfl))))
theorem wd_506 : (Cond.methodLink "SealTrustLaw" 139 y_LW_book) ∈ lw_tbl := List.mem_append_right _ (List.mem_append_right _ (List.mem_append_right _ (List.mem_append_left _ (List.mem_of_getElem? (i := 78) rfl))))
theorem wd_507 : (Cond.codeWith y_LW_book method_17_code 4 (some .int) [(0, 9, 12, 13)]) ∈ lw_tbl := List.mem_append_right _ (List.mem_append_right _ (List.mem_append_right _ (List.mem_append_left _ (List.mem_of_getElem? (i := 80) rfl))))
theorem wd_508 : (Cond.methodLink "SealTrustLaw" 141 y_MD_book) ∈ lw_tbl := List.mem_append_right _ (List.mem_append_right _ (List.mem_append_right _ (List.mem_append_right _ (List.mem_of_getElem? (i := 69) rfl))))
theorem wd_509 : (Cond.instanceMethod y_MD_book) ∈ lw_tbl := List.mem_append_right _ (List.mem_append_right _ (List.mem_append_right _ (List.mem_append_right _ (List.mem_of_getElem? (i := 70) rfl))))
theorem wd_510 : (Cond.selects "SealTrustModel" y_MD_book y_MD_book) ∈ lw_tbl := List.mem_append_right _ (List.mem_append_right _ (List.mem_append_right _ (List.mem_append_right _ (List.mem_of_getElem? (i := 71) rfl))))
theorem wd_511 : (Cond.code y_MD_book prog_6_method_36_code 2 (some .int)) ∈ lw_tbl := List.mem_append_right _ (List.mem_append_right _ (List.mem_append_right _ (List.mem_append_right _ (List.mem_of_getElem? (i := 72) rfl))))
theorem wd_512 : (Cond.static y_LW_state) ∈ lw_tbl := List.mem_append_right _ (List.mem_append_right _ (List.mem_append_right _ (List.mem_append_left _ (List.mem_of_getElem? (i := 87) rfl))))
theorem wd_513 : (Cond.methodLink "SealTrustLaw" 142 y_LW_state) ∈ lw_tbl := List.mem_append_right _ (List.mem_append_right _ (List.mem_append_right _ (List.mem_append_left _ (List.mem_of_getElem? (i := 86) rfl))))
theorem wd_514 : (Cond.codeWith y_LW_state method_18_code 4 (some .int) [(0, 8, 11, 13)]) ∈ lw_tbl := List.mem_append_right _ (List.mem_append_right _ (List.mem_append_right _ (List.mem_append_left _ (List.mem_of_getElem? (i := 88) rfl))))
theorem wd_515 : (Cond.methodLink "SealTrustLaw" 144 y_MD_state) ∈ lw_tbl := List.mem_append_right _ (List.mem_append_right _ (List.mem_append_right _ (List.mem_append_right _ (List.mem_of_getElem? (i := 73) rfl))))
theorem wd_516 : (Cond.instanceMethod y_MD_state) ∈ lw_tbl := List.mem_append_right _ (List.mem_append_right _ (List.mem_append_right _ (List.mem_append_right _ (List.mem_of_getElem? (i := 74) rfl))))
theorem wd_517 : (Cond.selects "SealTrustModel" y_MD_state y_MD_state) ∈ lw_tbl := List.mem_append_right _ (List.mem_append_right _ (List.mem_append_right _ (List.mem_append_right _ (List.mem_of_getElem? (i := 75) rfl))))
theorem wd_518 : (Cond.code y_MD_state prog_6_method_37_code 2 (some .long)) ∈ lw_tbl := List.mem_append_right _ (List.mem_append_right _ (List.mem_append_right _ (List.mem_append_right _ (List.mem_of_getElem? (i := 76) rfl))))
variable {p : Program} {l : Launch} {e : Env} {R : Room} {s : State} {m : MethodId} {args : Array Value} {below : List Frame} {meth : Method} {c : Code} {H H0 : Heap} {locs : List Loc} {cells slots : Nat} {Q : State → Prop} {G : xg_G} {cc : ByteArray} {nL pc : Nat} {ls : Array Slot} {rest : List Value} {ws : va_W} {A : Nat → Prop} {a : Nat} {fs : List Value} {v : Value}
theorem si_ST_9 : xg_siteIN "SealTrust" 9 y_KE_init "SealTrust" b_KE_init 1 0 := ⟨wd_1, wd_2, wd_3, wd_4, ⟨by decide +kernel, by decide +kernel⟩, by decide +kernel, rfl⟩
theorem pf_ST_10 (hg : xg_F G) (hw : G.1.WarmedH s.vm) (S : xc_Fix p m c cc nL s "SealTrust") (hP : va_P G.2.1 cl_all ws H) (hD : va_D A ws) (hS : va_S A H0 H locs) (q0 : Nat) (he : ws[q0]? = some (a, .inr (3, fs))) (hin : meth.name = "<init>") (hn : narrow (.object "SealTrust$Key") v = v) (hfit : fits (.object "SealTrust$Key") v = true) (hl : 0 < fs.length) (hdg : decode cc pc = .ok (.putfield 10, 3)) (k : ∀ (H1 : Heap) (locs1 : List Loc), va_P G.2.1 cl_all (ws.set q0 (a, .inr (3, fs.set 0 v))) H1 → va_D A (ws.set q0 (a, .inr (3, fs.set 0 v))) → va_S A H0 H1 locs1 → W p l e R s m args below meth c H1 locs1 cells slots Q (F0 m (pc + 3) ls rest)) : W p l e R s m args below meth c H locs cells slots Q (F0 m pc ls (v :: .ref a :: rest)) :=
  va_putF (D := G.2.1) (C := "SealTrust") (T := T_ST) (N := 7) (ty := .object "SealTrust$Key") S.1 S.2.1 (xg_t hg hw args) in_ST t_ST o_ST n_ST S.2.2.2 (xg_k hg hw) hP hD hS q0 he rfl 0 (by decide) (xg_w hg hw wd_5 rfl args) (fun _ h => h) rfl hin rfl (by decide +kernel) hn hfit hl hdg k
theorem si_ST_18 : xg_siteIN "SealTrust" 18 y_BU_init "SealTrust" b_BU_init 1 0 := ⟨wd_6, wd_7, wd_8, wd_9, ⟨by decide +kernel, by decide +kernel⟩, by decide +kernel, rfl⟩
theorem pf_ST_19 (hg : xg_F G) (hw : G.1.WarmedH s.vm) (S : xc_Fix p m c cc nL s "SealTrust") (hP : va_P G.2.1 cl_all ws H) (hD : va_D A ws) (hS : va_S A H0 H locs) (q0 : Nat) (he : ws[q0]? = some (a, .inr (3, fs))) (hin : meth.name = "<init>") (hn : narrow (.object "SealTrust$Buffer") v = v) (hfit : fits (.object "SealTrust$Buffer") v = true) (hl : 1 < fs.length) (hdg : decode cc pc = .ok (.putfield 19, 3)) (k : ∀ (H1 : Heap) (locs1 : List Loc), va_P G.2.1 cl_all (ws.set q0 (a, .inr (3, fs.set 1 v))) H1 → va_D A (ws.set q0 (a, .inr (3, fs.set 1 v))) → va_S A H0 H1 locs1 → W p l e R s m args below meth c H1 locs1 cells slots Q (F0 m (pc + 3) ls rest)) : W p l e R s m args below meth c H locs cells slots Q (F0 m pc ls (v :: .ref a :: rest)) :=
  va_putF (D := G.2.1) (C := "SealTrust") (T := T_ST) (N := 7) (ty := .object "SealTrust$Buffer") S.1 S.2.1 (xg_t hg hw args) in_ST t_ST o_ST n_ST S.2.2.2 (xg_k hg hw) hP hD hS q0 he rfl 1 (by decide) (xg_w hg hw wd_10 rfl args) (fun _ h => h) rfl hin rfl (by decide +kernel) hn hfit hl hdg k
theorem pf_ST_25 (hg : xg_F G) (hw : G.1.WarmedH s.vm) (S : xc_Fix p m c cc nL s "SealTrust") (hP : va_P G.2.1 cl_all ws H) (hD : va_D A ws) (hS : va_S A H0 H locs) (q0 : Nat) (he : ws[q0]? = some (a, .inr (3, fs))) (hin : meth.name = "<init>") (hn : narrow (.array (.object "SealTrust$Motion")) v = v) (hfit : fits (.array (.object "SealTrust$Motion")) v = true) (hl : 2 < fs.length) (hdg : decode cc pc = .ok (.putfield 25, 3)) (k : ∀ (H1 : Heap) (locs1 : List Loc), va_P G.2.1 cl_all (ws.set q0 (a, .inr (3, fs.set 2 v))) H1 → va_D A (ws.set q0 (a, .inr (3, fs.set 2 v))) → va_S A H0 H1 locs1 → W p l e R s m args below meth c H1 locs1 cells slots Q (F0 m (pc + 3) ls rest)) : W p l e R s m args below meth c H locs cells slots Q (F0 m pc ls (v :: .ref a :: rest)) :=
  va_putF (D := G.2.1) (C := "SealTrust") (T := T_ST) (N := 7) (ty := .array (.object "SealTrust$Motion")) S.1 S.2.1 (xg_t hg hw args) in_ST t_ST o_ST n_ST S.2.2.2 (xg_k hg hw) hP hD hS q0 he rfl 2 (by decide) (xg_w hg hw wd_11 rfl args) (fun _ h => h) rfl hin rfl (by decide +kernel) hn hfit hl hdg k
theorem gf_ST_25 (hg : xg_F G) (hw : G.1.WarmedH s.vm) (S : xc_Fix p m c cc nL s "SealTrust") (hP : va_P G.2.1 cl_all ws H) (q0 : Nat) (he : ws[q0]? = some (a, .inr (3, fs))) (hv : fs[2]? = some v) (hdg : decode cc pc = .ok (.getfield 25, 3)) (k : W p l e R s m args below meth c H locs cells slots Q (F0 m (pc + 3) ls (v :: rest))) : W p l e R s m args below meth c H locs cells slots Q (F0 m pc ls (.ref a :: rest)) :=
  va_get (D := G.2.1) (C := "SealTrust") (T := T_ST) (N := 7) S.1 S.2.1 (xg_t hg hw args) in_ST S.2.2.2 (xg_k hg hw) hP q0 he rfl 2 (by decide) (xg_w hg hw wd_11 rfl args) (fun _ h => h) hv hdg k
theorem si_ST_29 : xg_siteIN "SealTrust" 29 y_MO_init "SealTrust" b_MO_init 1 0 := ⟨wd_12, wd_13, wd_14, wd_15, ⟨by decide +kernel, by decide +kernel⟩, by decide +kernel, rfl⟩
theorem pf_ST_30 (hg : xg_F G) (hw : G.1.WarmedH s.vm) (S : xc_Fix p m c cc nL s "SealTrust") (hP : va_P G.2.1 cl_all ws H) (hD : va_D A ws) (hS : va_S A H0 H locs) (q0 : Nat) (he : ws[q0]? = some (a, .inr (3, fs))) (hin : meth.name = "<init>") (hn : narrow (.array .int) v = v) (hfit : fits (.array .int) v = true) (hl : 3 < fs.length) (hdg : decode cc pc = .ok (.putfield 30, 3)) (k : ∀ (H1 : Heap) (locs1 : List Loc), va_P G.2.1 cl_all (ws.set q0 (a, .inr (3, fs.set 3 v))) H1 → va_D A (ws.set q0 (a, .inr (3, fs.set 3 v))) → va_S A H0 H1 locs1 → W p l e R s m args below meth c H1 locs1 cells slots Q (F0 m (pc + 3) ls rest)) : W p l e R s m args below meth c H locs cells slots Q (F0 m pc ls (v :: .ref a :: rest)) :=
  va_putF (D := G.2.1) (C := "SealTrust") (T := T_ST) (N := 7) (ty := .array .int) S.1 S.2.1 (xg_t hg hw args) in_ST t_ST o_ST n_ST S.2.2.2 (xg_k hg hw) hP hD hS q0 he rfl 3 (by decide) (xg_w hg hw wd_16 rfl args) (fun _ h => h) rfl hin rfl (by decide +kernel) hn hfit hl hdg k
theorem si_ST_34 : xg_siteS "SealTrust" 34 y_ST_isSafePrime b_ST_isSafePrime 1 (some .boolean) 1 := ⟨wd_20, wd_17, wd_18, wd_19, ⟨by decide +kernel, by decide +kernel⟩, by decide +kernel⟩
theorem gf_ST_10 (hg : xg_F G) (hw : G.1.WarmedH s.vm) (S : xc_Fix p m c cc nL s "SealTrust") (hP : va_P G.2.1 cl_all ws H) (q0 : Nat) (he : ws[q0]? = some (a, .inr (3, fs))) (hv : fs[0]? = some v) (hdg : decode cc pc = .ok (.getfield 10, 3)) (k : W p l e R s m args below meth c H locs cells slots Q (F0 m (pc + 3) ls (v :: rest))) : W p l e R s m args below meth c H locs cells slots Q (F0 m pc ls (.ref a :: rest)) :=
  va_get (D := G.2.1) (C := "SealTrust") (T := T_ST) (N := 7) S.1 S.2.1 (xg_t hg hw args) in_ST S.2.2.2 (xg_k hg hw) hP q0 he rfl 0 (by decide) (xg_w hg hw wd_5 rfl args) (fun _ h => h) hv hdg k
theorem si_ST_49 : xg_siteV "SealTrust" 49 y_KE_begin b_KE_begin 12 none 3 := ⟨wd_21, wd_22, wd_23, wd_3, wd_24, ⟨by decide +kernel, by decide +kernel⟩, by decide +kernel⟩
theorem si_ST_53 : xg_siteV "SealTrust" 53 y_KE_addPolynomial b_KE_addPolynomial 8 none 2 := ⟨wd_25, wd_26, wd_27, wd_3, wd_28, ⟨by decide +kernel, by decide +kernel⟩, by decide +kernel⟩
theorem pf_ST_57 (hg : xg_F G) (hw : G.1.WarmedH s.vm) (S : xc_Fix p m c cc nL s "SealTrust") (hP : va_P G.2.1 cl_all ws H) (hD : va_D A ws) (hS : va_S A H0 H locs) (q0 : Nat) (he : ws[q0]? = some (a, .inr (3, fs))) (hn : narrow (.int) v = v) (hfit : fits (.int) v = true) (hl : 4 < fs.length) (hdg : decode cc pc = .ok (.putfield 57, 3)) (k : ∀ (H1 : Heap) (locs1 : List Loc), va_P G.2.1 cl_all (ws.set q0 (a, .inr (3, fs.set 4 v))) H1 → va_D A (ws.set q0 (a, .inr (3, fs.set 4 v))) → va_S A H0 H1 locs1 → W p l e R s m args below meth c H1 locs1 cells slots Q (F0 m (pc + 3) ls rest)) : W p l e R s m args below meth c H locs cells slots Q (F0 m pc ls (v :: .ref a :: rest)) :=
  va_put (D := G.2.1) (C := "SealTrust") (T := T_ST) (N := 7) (ty := .int) S.1 S.2.1 (xg_t hg hw args) in_ST t_ST o_ST n_ST S.2.2.2 (xg_k hg hw) hP hD hS q0 he rfl 4 (by decide) (xg_w hg hw wd_29 rfl args) (fun _ h => h) rfl (by decide +kernel) hn hfit hl hdg k
theorem pf_ST_61 (hg : xg_F G) (hw : G.1.WarmedH s.vm) (S : xc_Fix p m c cc nL s "SealTrust") (hP : va_P G.2.1 cl_all ws H) (hD : va_D A ws) (hS : va_S A H0 H locs) (q0 : Nat) (he : ws[q0]? = some (a, .inr (3, fs))) (hn : narrow (.int) v = v) (hfit : fits (.int) v = true) (hl : 5 < fs.length) (hdg : decode cc pc = .ok (.putfield 61, 3)) (k : ∀ (H1 : Heap) (locs1 : List Loc), va_P G.2.1 cl_all (ws.set q0 (a, .inr (3, fs.set 5 v))) H1 → va_D A (ws.set q0 (a, .inr (3, fs.set 5 v))) → va_S A H0 H1 locs1 → W p l e R s m args below meth c H1 locs1 cells slots Q (F0 m (pc + 3) ls rest)) : W p l e R s m args below meth c H locs cells slots Q (F0 m pc ls (v :: .ref a :: rest)) :=
  va_put (D := G.2.1) (C := "SealTrust") (T := T_ST) (N := 7) (ty := .int) S.1 S.2.1 (xg_t hg hw args) in_ST t_ST o_ST n_ST S.2.2.2 (xg_k hg hw) hP hD hS q0 he rfl 5 (by decide) (xg_w hg hw wd_30 rfl args) (fun _ h => h) rfl (by decide +kernel) hn hfit hl hdg k
theorem pf_ST_64 (hg : xg_F G) (hw : G.1.WarmedH s.vm) (S : xc_Fix p m c cc nL s "SealTrust") (hP : va_P G.2.1 cl_all ws H) (hD : va_D A ws) (hS : va_S A H0 H locs) (q0 : Nat) (he : ws[q0]? = some (a, .inr (3, fs))) (hn : narrow (.int) v = v) (hfit : fits (.int) v = true) (hl : 6 < fs.length) (hdg : decode cc pc = .ok (.putfield 64, 3)) (k : ∀ (H1 : Heap) (locs1 : List Loc), va_P G.2.1 cl_all (ws.set q0 (a, .inr (3, fs.set 6 v))) H1 → va_D A (ws.set q0 (a, .inr (3, fs.set 6 v))) → va_S A H0 H1 locs1 → W p l e R s m args below meth c H1 locs1 cells slots Q (F0 m (pc + 3) ls rest)) : W p l e R s m args below meth c H locs cells slots Q (F0 m pc ls (v :: .ref a :: rest)) :=
  va_put (D := G.2.1) (C := "SealTrust") (T := T_ST) (N := 7) (ty := .int) S.1 S.2.1 (xg_t hg hw args) in_ST t_ST o_ST n_ST S.2.2.2 (xg_k hg hw) hP hD hS q0 he rfl 6 (by decide) (xg_w hg hw wd_31 rfl args) (fun _ h => h) rfl (by decide +kernel) hn hfit hl hdg k
theorem gf_ST_19 (hg : xg_F G) (hw : G.1.WarmedH s.vm) (S : xc_Fix p m c cc nL s "SealTrust") (hP : va_P G.2.1 cl_all ws H) (q0 : Nat) (he : ws[q0]? = some (a, .inr (3, fs))) (hv : fs[1]? = some v) (hdg : decode cc pc = .ok (.getfield 19, 3)) (k : W p l e R s m args below meth c H locs cells slots Q (F0 m (pc + 3) ls (v :: rest))) : W p l e R s m args below meth c H locs cells slots Q (F0 m pc ls (.ref a :: rest)) :=
  va_get (D := G.2.1) (C := "SealTrust") (T := T_ST) (N := 7) S.1 S.2.1 (xg_t hg hw args) in_ST S.2.2.2 (xg_k hg hw) hP q0 he rfl 1 (by decide) (xg_w hg hw wd_10 rfl args) (fun _ h => h) hv hdg k
theorem si_ST_67 : xg_siteV "SealTrust" 67 y_BU_room b_BU_room 1 (some .int) 0 := ⟨wd_32, wd_33, wd_34, wd_8, wd_35, ⟨by decide +kernel, by decide +kernel⟩, by decide +kernel⟩
theorem si_ST_73 : xg_siteV "SealTrust" 73 y_BU_append b_BU_append 4 none 2 := ⟨wd_36, wd_37, wd_38, wd_8, wd_39, ⟨by decide +kernel, by decide +kernel⟩, by decide +kernel⟩
theorem si_ST_77 : xg_siteV "SealTrust" 77 y_BU_count b_BU_count 1 (some .int) 0 := ⟨wd_40, wd_41, wd_42, wd_8, wd_43, ⟨by decide +kernel, by decide +kernel⟩, by decide +kernel⟩
theorem si_ST_80 : xg_siteV "SealTrust" 80 y_ST_requireDocument b_ST_requireDocument 1 none 0 := ⟨wd_44, wd_45, wd_46, wd_18, wd_47, ⟨by decide +kernel, by decide +kernel⟩, by decide +kernel⟩
theorem gf_ST_57 (hg : xg_F G) (hw : G.1.WarmedH s.vm) (S : xc_Fix p m c cc nL s "SealTrust") (hP : va_P G.2.1 cl_all ws H) (q0 : Nat) (he : ws[q0]? = some (a, .inr (3, fs))) (hv : fs[4]? = some v) (hdg : decode cc pc = .ok (.getfield 57, 3)) (k : W p l e R s m args below meth c H locs cells slots Q (F0 m (pc + 3) ls (v :: rest))) : W p l e R s m args below meth c H locs cells slots Q (F0 m pc ls (.ref a :: rest)) :=
  va_get (D := G.2.1) (C := "SealTrust") (T := T_ST) (N := 7) S.1 S.2.1 (xg_t hg hw args) in_ST S.2.2.2 (xg_k hg hw) hP q0 he rfl 4 (by decide) (xg_w hg hw wd_29 rfl args) (fun _ h => h) hv hdg k
theorem si_ST_88 : xg_siteV "SealTrust" 88 y_KE_blockOf b_KE_blockOf 2 (some .long) 1 := ⟨wd_48, wd_49, wd_50, wd_3, wd_51, ⟨by decide +kernel, by decide +kernel⟩, by decide +kernel⟩
theorem si_ST_92 : xg_siteV "SealTrust" 92 y_MO_begin b_MO_begin 3 none 1 := ⟨wd_52, wd_53, wd_54, wd_14, wd_55, ⟨by decide +kernel, by decide +kernel⟩, by decide +kernel⟩
theorem si_ST_95 : xg_siteV "SealTrust" 95 y_BU_clear b_BU_clear 1 none 0 := ⟨wd_56, wd_57, wd_58, wd_8, wd_59, ⟨by decide +kernel, by decide +kernel⟩, by decide +kernel⟩
theorem si_ST_98 : xg_siteV "SealTrust" 98 y_ST_motionAt b_ST_motionAt 2 (some (.object "SealTrust$Motion")) 1 := ⟨wd_60, wd_61, wd_62, wd_18, wd_63, ⟨by decide +kernel, by decide +kernel⟩, by decide +kernel⟩
theorem si_ST_102 : xg_siteS "SealTrust" 102 y_ST_requireTrustee b_ST_requireTrustee 1 none 1 := ⟨wd_66, wd_64, wd_18, wd_65, ⟨by decide +kernel, by decide +kernel⟩, by decide +kernel⟩
theorem si_ST_106 : xg_siteS "SealTrust" 106 y_ST_requireOpen b_ST_requireOpen 1 none 1 := ⟨wd_69, wd_67, wd_18, wd_68, ⟨by decide +kernel, by decide +kernel⟩, by decide +kernel⟩
theorem si_ST_110 : xg_siteS "SealTrust" 110 y_ST_requireNoVoice b_ST_requireNoVoice 2 none 2 := ⟨wd_72, wd_70, wd_18, wd_71, ⟨by decide +kernel, by decide +kernel⟩, by decide +kernel⟩
theorem gf_ST_64 (hg : xg_F G) (hw : G.1.WarmedH s.vm) (S : xc_Fix p m c cc nL s "SealTrust") (hP : va_P G.2.1 cl_all ws H) (q0 : Nat) (he : ws[q0]? = some (a, .inr (3, fs))) (hv : fs[6]? = some v) (hdg : decode cc pc = .ok (.getfield 64, 3)) (k : W p l e R s m args below meth c H locs cells slots Q (F0 m (pc + 3) ls (v :: rest))) : W p l e R s m args below meth c H locs cells slots Q (F0 m pc ls (.ref a :: rest)) :=
  va_get (D := G.2.1) (C := "SealTrust") (T := T_ST) (N := 7) S.1 S.2.1 (xg_t hg hw args) in_ST S.2.2.2 (xg_k hg hw) hP q0 he rfl 6 (by decide) (xg_w hg hw wd_31 rfl args) (fun _ h => h) hv hdg k
theorem si_ST_114 : xg_siteS "SealTrust" 114 y_ST_isIn b_ST_isIn 2 (some .boolean) 2 := ⟨wd_75, wd_73, wd_18, wd_74, ⟨by decide +kernel, by decide +kernel⟩, by decide +kernel⟩
theorem si_ST_120 : xg_siteV "SealTrust" 120 y_KE_makePartial b_KE_makePartial 14 none 2 := ⟨wd_76, wd_77, wd_78, wd_3, wd_79, ⟨by decide +kernel, by decide +kernel⟩, by decide +kernel⟩
theorem si_ST_123 : xg_siteV "SealTrust" 123 y_MO_takeObjection b_MO_takeObjection 2 none 1 := ⟨wd_80, wd_81, wd_82, wd_14, wd_83, ⟨by decide +kernel, by decide +kernel⟩, by decide +kernel⟩
theorem gf_ST_126 (hg : xg_F G) (hw : G.1.WarmedH s.vm) (S : xc_Fix p m c cc nL s "SealTrust") (hP : va_P G.2.1 cl_all ws H) (q0 : Nat) (he : ws[q0]? = some (a, .inr (2, fs))) (hv : fs[6]? = some v) (hdg : decode cc pc = .ok (.getfield 126, 3)) (k : W p l e R s m args below meth c H locs cells slots Q (F0 m (pc + 3) ls (v :: rest))) : W p l e R s m args below meth c H locs cells slots Q (F0 m pc ls (.ref a :: rest)) :=
  va_getN (D := G.2.1) (C := "SealTrust$Motion") (T := T_MO) (N := 8) S.1 S.2.1 (xg_t hg hw args) in_MO S.2.2.2 (xg_k hg hw) hP q0 he rfl 6 (by decide) (xg_w hg hw wd_84 rfl args) (fun _ h => h) hv hdg k
theorem si_ST_131 : xg_siteV "SealTrust" 131 y_MO_takePartial b_MO_takePartial 7 none 4 := ⟨wd_85, wd_86, wd_87, wd_14, wd_88, ⟨by decide +kernel, by decide +kernel⟩, by decide +kernel⟩
theorem gf_ST_135 (hg : xg_F G) (hw : G.1.WarmedH s.vm) (S : xc_Fix p m c cc nL s "SealTrust") (hP : va_P G.2.1 cl_all ws H) (q0 : Nat) (he : ws[q0]? = some (a, .inr (2, fs))) (hv : fs[5]? = some v) (hdg : decode cc pc = .ok (.getfield 135, 3)) (k : W p l e R s m args below meth c H locs cells slots Q (F0 m (pc + 3) ls (v :: rest))) : W p l e R s m args below meth c H locs cells slots Q (F0 m pc ls (.ref a :: rest)) :=
  va_getN (D := G.2.1) (C := "SealTrust$Motion") (T := T_MO) (N := 8) S.1 S.2.1 (xg_t hg hw args) in_MO S.2.2.2 (xg_k hg hw) hP q0 he rfl 5 (by decide) (xg_w hg hw wd_89 rfl args) (fun _ h => h) hv hdg k
theorem gf_ST_143 (hg : xg_F G) (hw : G.1.WarmedH s.vm) (S : xc_Fix p m c cc nL s "SealTrust") (hP : va_P G.2.1 cl_all ws H) (q0 : Nat) (he : ws[q0]? = some (a, .inr (2, fs))) (hv : fs[0]? = some v) (hdg : decode cc pc = .ok (.getfield 143, 3)) (k : W p l e R s m args below meth c H locs cells slots Q (F0 m (pc + 3) ls (v :: rest))) : W p l e R s m args below meth c H locs cells slots Q (F0 m pc ls (.ref a :: rest)) :=
  va_getN (D := G.2.1) (C := "SealTrust$Motion") (T := T_MO) (N := 8) S.1 S.2.1 (xg_t hg hw args) in_MO S.2.2.2 (xg_k hg hw) hP q0 he rfl 0 (by decide) (xg_w hg hw wd_90 rfl args) (fun _ h => h) hv hdg k
theorem gf_ST_147 (hg : xg_F G) (hw : G.1.WarmedH s.vm) (S : xc_Fix p m c cc nL s "SealTrust") (hP : va_P G.2.1 cl_all ws H) (q0 : Nat) (he : ws[q0]? = some (a, .inr (2, fs))) (hv : fs[1]? = some v) (hdg : decode cc pc = .ok (.getfield 147, 3)) (k : W p l e R s m args below meth c H locs cells slots Q (F0 m (pc + 3) ls (v :: rest))) : W p l e R s m args below meth c H locs cells slots Q (F0 m pc ls (.ref a :: rest)) :=
  va_getN (D := G.2.1) (C := "SealTrust$Motion") (T := T_MO) (N := 8) S.1 S.2.1 (xg_t hg hw args) in_MO S.2.2.2 (xg_k hg hw) hP q0 he rfl 1 (by decide) (xg_w hg hw wd_91 rfl args) (fun _ h => h) hv hdg k
theorem gf_ST_150 (hg : xg_F G) (hw : G.1.WarmedH s.vm) (S : xc_Fix p m c cc nL s "SealTrust") (hP : va_P G.2.1 cl_all ws H) (q0 : Nat) (he : ws[q0]? = some (a, .inr (2, fs))) (hv : fs[2]? = some v) (hdg : decode cc pc = .ok (.getfield 150, 3)) (k : W p l e R s m args below meth c H locs cells slots Q (F0 m (pc + 3) ls (v :: rest))) : W p l e R s m args below meth c H locs cells slots Q (F0 m pc ls (.ref a :: rest)) :=
  va_getN (D := G.2.1) (C := "SealTrust$Motion") (T := T_MO) (N := 8) S.1 S.2.1 (xg_t hg hw args) in_MO S.2.2.2 (xg_k hg hw) hP q0 he rfl 2 (by decide) (xg_w hg hw wd_92 rfl args) (fun _ h => h) hv hdg k
theorem si_ST_155 : xg_siteV "SealTrust" 155 y_ST_goodPartials b_ST_goodPartials 4 (some .int) 1 := ⟨wd_93, wd_94, wd_95, wd_18, wd_96, ⟨by decide +kernel, by decide +kernel⟩, by decide +kernel⟩
theorem gf_ST_159 (hg : xg_F G) (hw : G.1.WarmedH s.vm) (S : xc_Fix p m c cc nL s "SealTrust") (hP : va_P G.2.1 cl_all ws H) (q0 : Nat) (he : ws[q0]? = some (a, .inr (2, fs))) (hv : fs[4]? = some v) (hdg : decode cc pc = .ok (.getfield 159, 3)) (k : W p l e R s m args below meth c H locs cells slots Q (F0 m (pc + 3) ls (v :: rest))) : W p l e R s m args below meth c H locs cells slots Q (F0 m pc ls (.ref a :: rest)) :=
  va_getN (D := G.2.1) (C := "SealTrust$Motion") (T := T_MO) (N := 8) S.1 S.2.1 (xg_t hg hw args) in_MO S.2.2.2 (xg_k hg hw) hP q0 he rfl 4 (by decide) (xg_w hg hw wd_97 rfl args) (fun _ h => h) hv hdg k
theorem si_ST_163 : xg_siteV "SealTrust" 163 y_KE_isPrimeToModulus b_KE_isPrimeToModulus 3 (some .boolean) 1 := ⟨wd_98, wd_99, wd_100, wd_3, wd_101, ⟨by decide +kernel, by decide +kernel⟩, by decide +kernel⟩
theorem si_ST_180 : xg_siteV "SealTrust" 180 y_KE_signatureOf b_KE_signatureOf 3 (some .long) 1 := ⟨wd_102, wd_103, wd_104, wd_3, wd_105, ⟨by decide +kernel, by decide +kernel⟩, by decide +kernel⟩
theorem si_ST_184 : xg_siteV "SealTrust" 184 y_MO_seal b_MO_seal 3 none 1 := ⟨wd_106, wd_107, wd_108, wd_14, wd_109, ⟨by decide +kernel, by decide +kernel⟩, by decide +kernel⟩
theorem si_ST_187 : xg_siteV "SealTrust" 187 y_ST_enter b_ST_enter 2 none 1 := ⟨wd_110, wd_111, wd_112, wd_18, wd_113, ⟨by decide +kernel, by decide +kernel⟩, by decide +kernel⟩
theorem gf_ST_190 (hg : xg_F G) (hw : G.1.WarmedH s.vm) (S : xc_Fix p m c cc nL s "SealTrust") (hP : va_P G.2.1 cl_all ws H) (q0 : Nat) (he : ws[q0]? = some (a, .inr (2, fs))) (hv : fs[7]? = some v) (hdg : decode cc pc = .ok (.getfield 190, 3)) (k : W p l e R s m args below meth c H locs cells slots Q (F0 m (pc + 3) ls (v :: rest))) : W p l e R s m args below meth c H locs cells slots Q (F0 m pc ls (.ref a :: rest)) :=
  va_getN (D := G.2.1) (C := "SealTrust$Motion") (T := T_MO) (N := 8) S.1 S.2.1 (xg_t hg hw args) in_MO S.2.2.2 (xg_k hg hw) hP q0 he rfl 7 (by decide) (xg_w hg hw wd_114 rfl args) (fun _ h => h) hv hdg k
theorem si_ST_193 : xg_siteV "SealTrust" 193 y_KE_isSignature b_KE_isSignature 5 (some .boolean) 2 := ⟨wd_115, wd_116, wd_117, wd_3, wd_118, ⟨by decide +kernel, by decide +kernel⟩, by decide +kernel⟩
theorem si_ST_197 : xg_siteV "SealTrust" 197 y_ST_requireKey b_ST_requireKey 1 none 0 := ⟨wd_119, wd_120, wd_121, wd_18, wd_122, ⟨by decide +kernel, by decide +kernel⟩, by decide +kernel⟩
theorem gf_ST_200 (hg : xg_F G) (hw : G.1.WarmedH s.vm) (S : xc_Fix p m c cc nL s "SealTrust") (hP : va_P G.2.1 cl_all ws H) (q0 : Nat) (he : ws[q0]? = some (a, .inr (1, fs))) (hv : fs[3]? = some v) (hdg : decode cc pc = .ok (.getfield 200, 3)) (k : W p l e R s m args below meth c H locs cells slots Q (F0 m (pc + 3) ls (v :: rest))) : W p l e R s m args below meth c H locs cells slots Q (F0 m pc ls (.ref a :: rest)) :=
  va_getN (D := G.2.1) (C := "SealTrust$Key") (T := T_KE) (N := 11) S.1 S.2.1 (xg_t hg hw args) in_KE S.2.2.2 (xg_k hg hw) hP q0 he rfl 3 (by decide) (xg_w hg hw wd_123 rfl args) (fun _ h => h) hv hdg k
theorem pf_ST_200 (hg : xg_F G) (hw : G.1.WarmedH s.vm) (S : xc_Fix p m c cc nL s "SealTrust") (hP : va_P G.2.1 cl_all ws H) (hD : va_D A ws) (hS : va_S A H0 H locs) (q0 : Nat) (he : ws[q0]? = some (a, .inr (1, fs))) (hn : narrow (.long) v = v) (hfit : fits (.long) v = true) (hl : 3 < fs.length) (hdg : decode cc pc = .ok (.putfield 200, 3)) (k : ∀ (H1 : Heap) (locs1 : List Loc), va_P G.2.1 cl_all (ws.set q0 (a, .inr (1, fs.set 3 v))) H1 → va_D A (ws.set q0 (a, .inr (1, fs.set 3 v))) → va_S A H0 H1 locs1 → W p l e R s m args below meth c H1 locs1 cells slots Q (F0 m (pc + 3) ls rest)) : W p l e R s m args below meth c H locs cells slots Q (F0 m pc ls (v :: .ref a :: rest)) :=
  va_putN (D := G.2.1) (C := "SealTrust$Key") (T := T_KE) (N := 11) (ty := .long) S.1 S.2.1 (xg_t hg hw args) in_KE t_KE o_KE n_KE S.2.2.2 (xg_k hg hw) hP hD hS q0 he rfl 3 (by decide) (xg_w hg hw wd_123 rfl args) (fun _ h => h) rfl (by decide +kernel) hn hfit hl hdg k
theorem si_ST_203 : xg_siteV "SealTrust" 203 y_ST_dropOpenPartials b_ST_dropOpenPartials 2 none 0 := ⟨wd_124, wd_125, wd_126, wd_18, wd_127, ⟨by decide +kernel, by decide +kernel⟩, by decide +kernel⟩
theorem si_ST_208 : xg_siteV "SealTrust" 208 y_KE_isWholeBy b_KE_isWholeBy 5 (some .boolean) 1 := ⟨wd_128, wd_129, wd_130, wd_3, wd_131, ⟨by decide +kernel, by decide +kernel⟩, by decide +kernel⟩
theorem gf_ST_211 (hg : xg_F G) (hw : G.1.WarmedH s.vm) (S : xc_Fix p m c cc nL s "SealTrust") (hP : va_P G.2.1 cl_all ws H) (q0 : Nat) (he : ws[q0]? = some (a, .inr (2, fs))) (hv : fs[3]? = some v) (hdg : decode cc pc = .ok (.getfield 211, 3)) (k : W p l e R s m args below meth c H locs cells slots Q (F0 m (pc + 3) ls (v :: rest))) : W p l e R s m args below meth c H locs cells slots Q (F0 m pc ls (.ref a :: rest)) :=
  va_getN (D := G.2.1) (C := "SealTrust$Motion") (T := T_MO) (N := 8) S.1 S.2.1 (xg_t hg hw args) in_MO S.2.2.2 (xg_k hg hw) hP q0 he rfl 3 (by decide) (xg_w hg hw wd_132 rfl args) (fun _ h => h) hv hdg k
theorem gf_ST_61 (hg : xg_F G) (hw : G.1.WarmedH s.vm) (S : xc_Fix p m c cc nL s "SealTrust") (hP : va_P G.2.1 cl_all ws H) (q0 : Nat) (he : ws[q0]? = some (a, .inr (3, fs))) (hv : fs[5]? = some v) (hdg : decode cc pc = .ok (.getfield 61, 3)) (k : W p l e R s m args below meth c H locs cells slots Q (F0 m (pc + 3) ls (v :: rest))) : W p l e R s m args below meth c H locs cells slots Q (F0 m pc ls (.ref a :: rest)) :=
  va_get (D := G.2.1) (C := "SealTrust") (T := T_ST) (N := 7) S.1 S.2.1 (xg_t hg hw args) in_ST S.2.2.2 (xg_k hg hw) hP q0 he rfl 5 (by decide) (xg_w hg hw wd_30 rfl args) (fun _ h => h) hv hdg k
theorem gf_ST_30 (hg : xg_F G) (hw : G.1.WarmedH s.vm) (S : xc_Fix p m c cc nL s "SealTrust") (hP : va_P G.2.1 cl_all ws H) (q0 : Nat) (he : ws[q0]? = some (a, .inr (3, fs))) (hv : fs[3]? = some v) (hdg : decode cc pc = .ok (.getfield 30, 3)) (k : W p l e R s m args below meth c H locs cells slots Q (F0 m (pc + 3) ls (v :: rest))) : W p l e R s m args below meth c H locs cells slots Q (F0 m pc ls (.ref a :: rest)) :=
  va_get (D := G.2.1) (C := "SealTrust") (T := T_ST) (N := 7) S.1 S.2.1 (xg_t hg hw args) in_ST S.2.2.2 (xg_k hg hw) hP q0 he rfl 3 (by decide) (xg_w hg hw wd_16 rfl args) (fun _ h => h) hv hdg k
theorem gf_ST_220 (hg : xg_F G) (hw : G.1.WarmedH s.vm) (S : xc_Fix p m c cc nL s "SealTrust") (hP : va_P G.2.1 cl_all ws H) (q0 : Nat) (he : ws[q0]? = some (a, .inr (1, fs))) (hv : fs[2]? = some v) (hdg : decode cc pc = .ok (.getfield 220, 3)) (k : W p l e R s m args below meth c H locs cells slots Q (F0 m (pc + 3) ls (v :: rest))) : W p l e R s m args below meth c H locs cells slots Q (F0 m pc ls (.ref a :: rest)) :=
  va_getN (D := G.2.1) (C := "SealTrust$Key") (T := T_KE) (N := 11) S.1 S.2.1 (xg_t hg hw args) in_KE S.2.2.2 (xg_k hg hw) hP q0 he rfl 2 (by decide) (xg_w hg hw wd_133 rfl args) (fun _ h => h) hv hdg k
theorem gf_ST_224 (hg : xg_F G) (hw : G.1.WarmedH s.vm) (S : xc_Fix p m c cc nL s "SealTrust") (hP : va_P G.2.1 cl_all ws H) (q0 : Nat) (he : ws[q0]? = some (a, .inr (1, fs))) (hv : fs[9]? = some v) (hdg : decode cc pc = .ok (.getfield 224, 3)) (k : W p l e R s m args below meth c H locs cells slots Q (F0 m (pc + 3) ls (v :: rest))) : W p l e R s m args below meth c H locs cells slots Q (F0 m pc ls (.ref a :: rest)) :=
  va_getN (D := G.2.1) (C := "SealTrust$Key") (T := T_KE) (N := 11) S.1 S.2.1 (xg_t hg hw args) in_KE S.2.2.2 (xg_k hg hw) hP q0 he rfl 9 (by decide) (xg_w hg hw wd_134 rfl args) (fun _ h => h) hv hdg k
theorem gf_ST_227 (hg : xg_F G) (hw : G.1.WarmedH s.vm) (S : xc_Fix p m c cc nL s "SealTrust") (hP : va_P G.2.1 cl_all ws H) (q0 : Nat) (he : ws[q0]? = some (a, .inr (1, fs))) (hv : fs[1]? = some v) (hdg : decode cc pc = .ok (.getfield 227, 3)) (k : W p l e R s m args below meth c H locs cells slots Q (F0 m (pc + 3) ls (v :: rest))) : W p l e R s m args below meth c H locs cells slots Q (F0 m pc ls (.ref a :: rest)) :=
  va_getN (D := G.2.1) (C := "SealTrust$Key") (T := T_KE) (N := 11) S.1 S.2.1 (xg_t hg hw args) in_KE S.2.2.2 (xg_k hg hw) hP q0 he rfl 1 (by decide) (xg_w hg hw wd_135 rfl args) (fun _ h => h) hv hdg k
theorem si_ST_242 : xg_siteV "SealTrust" 242 y_KE_isGood b_KE_isGood 16 (some .boolean) 2 := ⟨wd_136, wd_137, wd_138, wd_3, wd_139, ⟨by decide +kernel, by decide +kernel⟩, by decide +kernel⟩
theorem si_ST_246 : xg_siteV "SealTrust" 246 y_MO_dropPartials b_MO_dropPartials 1 none 0 := ⟨wd_140, wd_141, wd_142, wd_14, wd_143, ⟨by decide +kernel, by decide +kernel⟩, by decide +kernel⟩
theorem si_ST_249 : xg_siteS "SealTrust" 249 y_ST_isPrime b_ST_isPrime 2 (some .boolean) 1 := ⟨wd_146, wd_144, wd_18, wd_145, ⟨by decide +kernel, by decide +kernel⟩, by decide +kernel⟩
theorem kc_ST_252 (hg : xg_F G) (hw : G.1.WarmedH s.vm) (S : xc_Fix p m c cc nL s "SealTrust") (hdg : decode cc pc = .ok (.ldc2_w 252, 3)) (k : W p l e R s m args below meth c H locs cells slots Q (F0 m (pc + 3) ls (.long 6364136223846793005 :: rest))) : W p l e R s m args below meth c H locs cells slots Q (F0 m pc ls rest) :=
  lv_ldc2 S.1 S.2.1 S.2.2.2 (xg_w hg hw wd_147 rfl args) hdg k
theorem kc_ST_254 (hg : xg_F G) (hw : G.1.WarmedH s.vm) (S : xc_Fix p m c cc nL s "SealTrust") (hdg : decode cc pc = .ok (.ldc2_w 254, 3)) (k : W p l e R s m args below meth c H locs cells slots Q (F0 m (pc + 3) ls (.long 1442695040888963407 :: rest))) : W p l e R s m args below meth c H locs cells slots Q (F0 m pc ls rest) :=
  lv_ldc2 S.1 S.2.1 S.2.2.2 (xg_w hg hw wd_148 rfl args) hdg k
theorem si_ST_256 : xg_siteS "SealTrust" 256 y_ST_rest b_ST_rest 6 (some .long) 2 := ⟨wd_151, wd_149, wd_18, wd_150, ⟨by decide +kernel, by decide +kernel⟩, by decide +kernel⟩
theorem pf_MD_7 (hg : xg_F G) (hw : G.1.WarmedH s.vm) (S : xc_Fix p m c cc nL s "SealTrustModel") (hP : va_P G.2.1 cl_all ws H) (hD : va_D A ws) (hS : va_S A H0 H locs) (q0 : Nat) (he : ws[q0]? = some (a, .inr (4, fs))) (hn : narrow (.int) v = v) (hfit : fits (.int) v = true) (hl : 0 < fs.length) (hdg : decode cc pc = .ok (.putfield 7, 3)) (k : ∀ (H1 : Heap) (locs1 : List Loc), va_P G.2.1 cl_all (ws.set q0 (a, .inr (4, fs.set 0 v))) H1 → va_D A (ws.set q0 (a, .inr (4, fs.set 0 v))) → va_S A H0 H1 locs1 → W p l e R s m args below meth c H1 locs1 cells slots Q (F0 m (pc + 3) ls rest)) : W p l e R s m args below meth c H locs cells slots Q (F0 m pc ls (v :: .ref a :: rest)) :=
  va_put (D := G.2.1) (C := "SealTrustModel") (T := T_MD) (N := 23) (ty := .int) S.1 S.2.1 (xg_t hg hw args) in_MD t_MD o_MD n_MD S.2.2.2 (xg_k hg hw) hP hD hS q0 he rfl 0 (by decide) (xg_w hg hw wd_152 rfl args) (fun _ h => h) rfl (by decide +kernel) hn hfit hl hdg k
theorem pf_MD_13 (hg : xg_F G) (hw : G.1.WarmedH s.vm) (S : xc_Fix p m c cc nL s "SealTrustModel") (hP : va_P G.2.1 cl_all ws H) (hD : va_D A ws) (hS : va_S A H0 H locs) (q0 : Nat) (he : ws[q0]? = some (a, .inr (4, fs))) (hn : narrow (.long) v = v) (hfit : fits (.long) v = true) (hl : 1 < fs.length) (hdg : decode cc pc = .ok (.putfield 13, 3)) (k : ∀ (H1 : Heap) (locs1 : List Loc), va_P G.2.1 cl_all (ws.set q0 (a, .inr (4, fs.set 1 v))) H1 → va_D A (ws.set q0 (a, .inr (4, fs.set 1 v))) → va_S A H0 H1 locs1 → W p l e R s m args below meth c H1 locs1 cells slots Q (F0 m (pc + 3) ls rest)) : W p l e R s m args below meth c H locs cells slots Q (F0 m pc ls (v :: .ref a :: rest)) :=
  va_put (D := G.2.1) (C := "SealTrustModel") (T := T_MD) (N := 23) (ty := .long) S.1 S.2.1 (xg_t hg hw args) in_MD t_MD o_MD n_MD S.2.2.2 (xg_k hg hw) hP hD hS q0 he rfl 1 (by decide) (xg_w hg hw wd_153 rfl args) (fun _ h => h) rfl (by decide +kernel) hn hfit hl hdg k
theorem pf_MD_17 (hg : xg_F G) (hw : G.1.WarmedH s.vm) (S : xc_Fix p m c cc nL s "SealTrustModel") (hP : va_P G.2.1 cl_all ws H) (hD : va_D A ws) (hS : va_S A H0 H locs) (q0 : Nat) (he : ws[q0]? = some (a, .inr (4, fs))) (hn : narrow (.long) v = v) (hfit : fits (.long) v = true) (hl : 2 < fs.length) (hdg : decode cc pc = .ok (.putfield 17, 3)) (k : ∀ (H1 : Heap) (locs1 : List Loc), va_P G.2.1 cl_all (ws.set q0 (a, .inr (4, fs.set 2 v))) H1 → va_D A (ws.set q0 (a, .inr (4, fs.set 2 v))) → va_S A H0 H1 locs1 → W p l e R s m args below meth c H1 locs1 cells slots Q (F0 m (pc + 3) ls rest)) : W p l e R s m args below meth c H locs cells slots Q (F0 m pc ls (v :: .ref a :: rest)) :=
  va_put (D := G.2.1) (C := "SealTrustModel") (T := T_MD) (N := 23) (ty := .long) S.1 S.2.1 (xg_t hg hw args) in_MD t_MD o_MD n_MD S.2.2.2 (xg_k hg hw) hP hD hS q0 he rfl 2 (by decide) (xg_w hg hw wd_154 rfl args) (fun _ h => h) rfl (by decide +kernel) hn hfit hl hdg k
theorem pf_MD_20 (hg : xg_F G) (hw : G.1.WarmedH s.vm) (S : xc_Fix p m c cc nL s "SealTrustModel") (hP : va_P G.2.1 cl_all ws H) (hD : va_D A ws) (hS : va_S A H0 H locs) (q0 : Nat) (he : ws[q0]? = some (a, .inr (4, fs))) (hn : narrow (.long) v = v) (hfit : fits (.long) v = true) (hl : 3 < fs.length) (hdg : decode cc pc = .ok (.putfield 20, 3)) (k : ∀ (H1 : Heap) (locs1 : List Loc), va_P G.2.1 cl_all (ws.set q0 (a, .inr (4, fs.set 3 v))) H1 → va_D A (ws.set q0 (a, .inr (4, fs.set 3 v))) → va_S A H0 H1 locs1 → W p l e R s m args below meth c H1 locs1 cells slots Q (F0 m (pc + 3) ls rest)) : W p l e R s m args below meth c H locs cells slots Q (F0 m pc ls (v :: .ref a :: rest)) :=
  va_put (D := G.2.1) (C := "SealTrustModel") (T := T_MD) (N := 23) (ty := .long) S.1 S.2.1 (xg_t hg hw args) in_MD t_MD o_MD n_MD S.2.2.2 (xg_k hg hw) hP hD hS q0 he rfl 3 (by decide) (xg_w hg hw wd_155 rfl args) (fun _ h => h) rfl (by decide +kernel) hn hfit hl hdg k
theorem pf_MD_23 (hg : xg_F G) (hw : G.1.WarmedH s.vm) (S : xc_Fix p m c cc nL s "SealTrustModel") (hP : va_P G.2.1 cl_all ws H) (hD : va_D A ws) (hS : va_S A H0 H locs) (q0 : Nat) (he : ws[q0]? = some (a, .inr (4, fs))) (hn : narrow (.long) v = v) (hfit : fits (.long) v = true) (hl : 4 < fs.length) (hdg : decode cc pc = .ok (.putfield 23, 3)) (k : ∀ (H1 : Heap) (locs1 : List Loc), va_P G.2.1 cl_all (ws.set q0 (a, .inr (4, fs.set 4 v))) H1 → va_D A (ws.set q0 (a, .inr (4, fs.set 4 v))) → va_S A H0 H1 locs1 → W p l e R s m args below meth c H1 locs1 cells slots Q (F0 m (pc + 3) ls rest)) : W p l e R s m args below meth c H locs cells slots Q (F0 m pc ls (v :: .ref a :: rest)) :=
  va_put (D := G.2.1) (C := "SealTrustModel") (T := T_MD) (N := 23) (ty := .long) S.1 S.2.1 (xg_t hg hw args) in_MD t_MD o_MD n_MD S.2.2.2 (xg_k hg hw) hP hD hS q0 he rfl 4 (by decide) (xg_w hg hw wd_156 rfl args) (fun _ h => h) rfl (by decide +kernel) hn hfit hl hdg k
theorem pf_MD_26 (hg : xg_F G) (hw : G.1.WarmedH s.vm) (S : xc_Fix p m c cc nL s "SealTrustModel") (hP : va_P G.2.1 cl_all ws H) (hD : va_D A ws) (hS : va_S A H0 H locs) (q0 : Nat) (he : ws[q0]? = some (a, .inr (4, fs))) (hn : narrow (.long) v = v) (hfit : fits (.long) v = true) (hl : 5 < fs.length) (hdg : decode cc pc = .ok (.putfield 26, 3)) (k : ∀ (H1 : Heap) (locs1 : List Loc), va_P G.2.1 cl_all (ws.set q0 (a, .inr (4, fs.set 5 v))) H1 → va_D A (ws.set q0 (a, .inr (4, fs.set 5 v))) → va_S A H0 H1 locs1 → W p l e R s m args below meth c H1 locs1 cells slots Q (F0 m (pc + 3) ls rest)) : W p l e R s m args below meth c H locs cells slots Q (F0 m pc ls (v :: .ref a :: rest)) :=
  va_put (D := G.2.1) (C := "SealTrustModel") (T := T_MD) (N := 23) (ty := .long) S.1 S.2.1 (xg_t hg hw args) in_MD t_MD o_MD n_MD S.2.2.2 (xg_k hg hw) hP hD hS q0 he rfl 5 (by decide) (xg_w hg hw wd_157 rfl args) (fun _ h => h) rfl (by decide +kernel) hn hfit hl hdg k
theorem pf_MD_29 (hg : xg_F G) (hw : G.1.WarmedH s.vm) (S : xc_Fix p m c cc nL s "SealTrustModel") (hP : va_P G.2.1 cl_all ws H) (hD : va_D A ws) (hS : va_S A H0 H locs) (q0 : Nat) (he : ws[q0]? = some (a, .inr (4, fs))) (hn : narrow (.long) v = v) (hfit : fits (.long) v = true) (hl : 6 < fs.length) (hdg : decode cc pc = .ok (.putfield 29, 3)) (k : ∀ (H1 : Heap) (locs1 : List Loc), va_P G.2.1 cl_all (ws.set q0 (a, .inr (4, fs.set 6 v))) H1 → va_D A (ws.set q0 (a, .inr (4, fs.set 6 v))) → va_S A H0 H1 locs1 → W p l e R s m args below meth c H1 locs1 cells slots Q (F0 m (pc + 3) ls rest)) : W p l e R s m args below meth c H locs cells slots Q (F0 m pc ls (v :: .ref a :: rest)) :=
  va_put (D := G.2.1) (C := "SealTrustModel") (T := T_MD) (N := 23) (ty := .long) S.1 S.2.1 (xg_t hg hw args) in_MD t_MD o_MD n_MD S.2.2.2 (xg_k hg hw) hP hD hS q0 he rfl 6 (by decide) (xg_w hg hw wd_158 rfl args) (fun _ h => h) rfl (by decide +kernel) hn hfit hl hdg k
theorem pf_MD_32 (hg : xg_F G) (hw : G.1.WarmedH s.vm) (S : xc_Fix p m c cc nL s "SealTrustModel") (hP : va_P G.2.1 cl_all ws H) (hD : va_D A ws) (hS : va_S A H0 H locs) (q0 : Nat) (he : ws[q0]? = some (a, .inr (4, fs))) (hn : narrow (.int) v = v) (hfit : fits (.int) v = true) (hl : 7 < fs.length) (hdg : decode cc pc = .ok (.putfield 32, 3)) (k : ∀ (H1 : Heap) (locs1 : List Loc), va_P G.2.1 cl_all (ws.set q0 (a, .inr (4, fs.set 7 v))) H1 → va_D A (ws.set q0 (a, .inr (4, fs.set 7 v))) → va_S A H0 H1 locs1 → W p l e R s m args below meth c H1 locs1 cells slots Q (F0 m (pc + 3) ls rest)) : W p l e R s m args below meth c H locs cells slots Q (F0 m pc ls (v :: .ref a :: rest)) :=
  va_put (D := G.2.1) (C := "SealTrustModel") (T := T_MD) (N := 23) (ty := .int) S.1 S.2.1 (xg_t hg hw args) in_MD t_MD o_MD n_MD S.2.2.2 (xg_k hg hw) hP hD hS q0 he rfl 7 (by decide) (xg_w hg hw wd_159 rfl args) (fun _ h => h) rfl (by decide +kernel) hn hfit hl hdg k
theorem pf_MD_35 (hg : xg_F G) (hw : G.1.WarmedH s.vm) (S : xc_Fix p m c cc nL s "SealTrustModel") (hP : va_P G.2.1 cl_all ws H) (hD : va_D A ws) (hS : va_S A H0 H locs) (q0 : Nat) (he : ws[q0]? = some (a, .inr (4, fs))) (hn : narrow (.int) v = v) (hfit : fits (.int) v = true) (hl : 8 < fs.length) (hdg : decode cc pc = .ok (.putfield 35, 3)) (k : ∀ (H1 : Heap) (locs1 : List Loc), va_P G.2.1 cl_all (ws.set q0 (a, .inr (4, fs.set 8 v))) H1 → va_D A (ws.set q0 (a, .inr (4, fs.set 8 v))) → va_S A H0 H1 locs1 → W p l e R s m args below meth c H1 locs1 cells slots Q (F0 m (pc + 3) ls rest)) : W p l e R s m args below meth c H locs cells slots Q (F0 m pc ls (v :: .ref a :: rest)) :=
  va_put (D := G.2.1) (C := "SealTrustModel") (T := T_MD) (N := 23) (ty := .int) S.1 S.2.1 (xg_t hg hw args) in_MD t_MD o_MD n_MD S.2.2.2 (xg_k hg hw) hP hD hS q0 he rfl 8 (by decide) (xg_w hg hw wd_160 rfl args) (fun _ h => h) rfl (by decide +kernel) hn hfit hl hdg k
theorem pf_MD_38 (hg : xg_F G) (hw : G.1.WarmedH s.vm) (S : xc_Fix p m c cc nL s "SealTrustModel") (hP : va_P G.2.1 cl_all ws H) (hD : va_D A ws) (hS : va_S A H0 H locs) (q0 : Nat) (he : ws[q0]? = some (a, .inr (4, fs))) (hin : meth.name = "<init>") (hn : narrow (.array .int) v = v) (hfit : fits (.array .int) v = true) (hl : 9 < fs.length) (hdg : decode cc pc = .ok (.putfield 38, 3)) (k : ∀ (H1 : Heap) (locs1 : List Loc), va_P G.2.1 cl_all (ws.set q0 (a, .inr (4, fs.set 9 v))) H1 → va_D A (ws.set q0 (a, .inr (4, fs.set 9 v))) → va_S A H0 H1 locs1 → W p l e R s m args below meth c H1 locs1 cells slots Q (F0 m (pc + 3) ls rest)) : W p l e R s m args below meth c H locs cells slots Q (F0 m pc ls (v :: .ref a :: rest)) :=
  va_putF (D := G.2.1) (C := "SealTrustModel") (T := T_MD) (N := 23) (ty := .array .int) S.1 S.2.1 (xg_t hg hw args) in_MD t_MD o_MD n_MD S.2.2.2 (xg_k hg hw) hP hD hS q0 he rfl 9 (by decide) (xg_w hg hw wd_161 rfl args) (fun _ h => h) rfl hin rfl (by decide +kernel) hn hfit hl hdg k
theorem pf_MD_42 (hg : xg_F G) (hw : G.1.WarmedH s.vm) (S : xc_Fix p m c cc nL s "SealTrustModel") (hP : va_P G.2.1 cl_all ws H) (hD : va_D A ws) (hS : va_S A H0 H locs) (q0 : Nat) (he : ws[q0]? = some (a, .inr (4, fs))) (hn : narrow (.int) v = v) (hfit : fits (.int) v = true) (hl : 10 < fs.length) (hdg : decode cc pc = .ok (.putfield 42, 3)) (k : ∀ (H1 : Heap) (locs1 : List Loc), va_P G.2.1 cl_all (ws.set q0 (a, .inr (4, fs.set 10 v))) H1 → va_D A (ws.set q0 (a, .inr (4, fs.set 10 v))) → va_S A H0 H1 locs1 → W p l e R s m args below meth c H1 locs1 cells slots Q (F0 m (pc + 3) ls rest)) : W p l e R s m args below meth c H locs cells slots Q (F0 m pc ls (v :: .ref a :: rest)) :=
  va_put (D := G.2.1) (C := "SealTrustModel") (T := T_MD) (N := 23) (ty := .int) S.1 S.2.1 (xg_t hg hw args) in_MD t_MD o_MD n_MD S.2.2.2 (xg_k hg hw) hP hD hS q0 he rfl 10 (by decide) (xg_w hg hw wd_162 rfl args) (fun _ h => h) rfl (by decide +kernel) hn hfit hl hdg k
theorem pf_MD_45 (hg : xg_F G) (hw : G.1.WarmedH s.vm) (S : xc_Fix p m c cc nL s "SealTrustModel") (hP : va_P G.2.1 cl_all ws H) (hD : va_D A ws) (hS : va_S A H0 H locs) (q0 : Nat) (he : ws[q0]? = some (a, .inr (4, fs))) (hn : narrow (.int) v = v) (hfit : fits (.int) v = true) (hl : 11 < fs.length) (hdg : decode cc pc = .ok (.putfield 45, 3)) (k : ∀ (H1 : Heap) (locs1 : List Loc), va_P G.2.1 cl_all (ws.set q0 (a, .inr (4, fs.set 11 v))) H1 → va_D A (ws.set q0 (a, .inr (4, fs.set 11 v))) → va_S A H0 H1 locs1 → W p l e R s m args below meth c H1 locs1 cells slots Q (F0 m (pc + 3) ls rest)) : W p l e R s m args below meth c H locs cells slots Q (F0 m pc ls (v :: .ref a :: rest)) :=
  va_put (D := G.2.1) (C := "SealTrustModel") (T := T_MD) (N := 23) (ty := .int) S.1 S.2.1 (xg_t hg hw args) in_MD t_MD o_MD n_MD S.2.2.2 (xg_k hg hw) hP hD hS q0 he rfl 11 (by decide) (xg_w hg hw wd_163 rfl args) (fun _ h => h) rfl (by decide +kernel) hn hfit hl hdg k
theorem pf_MD_48 (hg : xg_F G) (hw : G.1.WarmedH s.vm) (S : xc_Fix p m c cc nL s "SealTrustModel") (hP : va_P G.2.1 cl_all ws H) (hD : va_D A ws) (hS : va_S A H0 H locs) (q0 : Nat) (he : ws[q0]? = some (a, .inr (4, fs))) (hin : meth.name = "<init>") (hn : narrow (.array .int) v = v) (hfit : fits (.array .int) v = true) (hl : 12 < fs.length) (hdg : decode cc pc = .ok (.putfield 48, 3)) (k : ∀ (H1 : Heap) (locs1 : List Loc), va_P G.2.1 cl_all (ws.set q0 (a, .inr (4, fs.set 12 v))) H1 → va_D A (ws.set q0 (a, .inr (4, fs.set 12 v))) → va_S A H0 H1 locs1 → W p l e R s m args below meth c H1 locs1 cells slots Q (F0 m (pc + 3) ls rest)) : W p l e R s m args below meth c H locs cells slots Q (F0 m pc ls (v :: .ref a :: rest)) :=
  va_putF (D := G.2.1) (C := "SealTrustModel") (T := T_MD) (N := 23) (ty := .array .int) S.1 S.2.1 (xg_t hg hw args) in_MD t_MD o_MD n_MD S.2.2.2 (xg_k hg hw) hP hD hS q0 he rfl 12 (by decide) (xg_w hg hw wd_164 rfl args) (fun _ h => h) rfl hin rfl (by decide +kernel) hn hfit hl hdg k
theorem pf_MD_51 (hg : xg_F G) (hw : G.1.WarmedH s.vm) (S : xc_Fix p m c cc nL s "SealTrustModel") (hP : va_P G.2.1 cl_all ws H) (hD : va_D A ws) (hS : va_S A H0 H locs) (q0 : Nat) (he : ws[q0]? = some (a, .inr (4, fs))) (hin : meth.name = "<init>") (hn : narrow (.array .long) v = v) (hfit : fits (.array .long) v = true) (hl : 13 < fs.length) (hdg : decode cc pc = .ok (.putfield 51, 3)) (k : ∀ (H1 : Heap) (locs1 : List Loc), va_P G.2.1 cl_all (ws.set q0 (a, .inr (4, fs.set 13 v))) H1 → va_D A (ws.set q0 (a, .inr (4, fs.set 13 v))) → va_S A H0 H1 locs1 → W p l e R s m args below meth c H1 locs1 cells slots Q (F0 m (pc + 3) ls rest)) : W p l e R s m args below meth c H locs cells slots Q (F0 m pc ls (v :: .ref a :: rest)) :=
  va_putF (D := G.2.1) (C := "SealTrustModel") (T := T_MD) (N := 23) (ty := .array .long) S.1 S.2.1 (xg_t hg hw args) in_MD t_MD o_MD n_MD S.2.2.2 (xg_k hg hw) hP hD hS q0 he rfl 13 (by decide) (xg_w hg hw wd_165 rfl args) (fun _ h => h) rfl hin rfl (by decide +kernel) hn hfit hl hdg k
theorem pf_MD_55 (hg : xg_F G) (hw : G.1.WarmedH s.vm) (S : xc_Fix p m c cc nL s "SealTrustModel") (hP : va_P G.2.1 cl_all ws H) (hD : va_D A ws) (hS : va_S A H0 H locs) (q0 : Nat) (he : ws[q0]? = some (a, .inr (4, fs))) (hin : meth.name = "<init>") (hn : narrow (.array .int) v = v) (hfit : fits (.array .int) v = true) (hl : 14 < fs.length) (hdg : decode cc pc = .ok (.putfield 55, 3)) (k : ∀ (H1 : Heap) (locs1 : List Loc), va_P G.2.1 cl_all (ws.set q0 (a, .inr (4, fs.set 14 v))) H1 → va_D A (ws.set q0 (a, .inr (4, fs.set 14 v))) → va_S A H0 H1 locs1 → W p l e R s m args below meth c H1 locs1 cells slots Q (F0 m (pc + 3) ls rest)) : W p l e R s m args below meth c H locs cells slots Q (F0 m pc ls (v :: .ref a :: rest)) :=
  va_putF (D := G.2.1) (C := "SealTrustModel") (T := T_MD) (N := 23) (ty := .array .int) S.1 S.2.1 (xg_t hg hw args) in_MD t_MD o_MD n_MD S.2.2.2 (xg_k hg hw) hP hD hS q0 he rfl 14 (by decide) (xg_w hg hw wd_166 rfl args) (fun _ h => h) rfl hin rfl (by decide +kernel) hn hfit hl hdg k
theorem pf_MD_58 (hg : xg_F G) (hw : G.1.WarmedH s.vm) (S : xc_Fix p m c cc nL s "SealTrustModel") (hP : va_P G.2.1 cl_all ws H) (hD : va_D A ws) (hS : va_S A H0 H locs) (q0 : Nat) (he : ws[q0]? = some (a, .inr (4, fs))) (hin : meth.name = "<init>") (hn : narrow (.array .int) v = v) (hfit : fits (.array .int) v = true) (hl : 15 < fs.length) (hdg : decode cc pc = .ok (.putfield 58, 3)) (k : ∀ (H1 : Heap) (locs1 : List Loc), va_P G.2.1 cl_all (ws.set q0 (a, .inr (4, fs.set 15 v))) H1 → va_D A (ws.set q0 (a, .inr (4, fs.set 15 v))) → va_S A H0 H1 locs1 → W p l e R s m args below meth c H1 locs1 cells slots Q (F0 m (pc + 3) ls rest)) : W p l e R s m args below meth c H locs cells slots Q (F0 m pc ls (v :: .ref a :: rest)) :=
  va_putF (D := G.2.1) (C := "SealTrustModel") (T := T_MD) (N := 23) (ty := .array .int) S.1 S.2.1 (xg_t hg hw args) in_MD t_MD o_MD n_MD S.2.2.2 (xg_k hg hw) hP hD hS q0 he rfl 15 (by decide) (xg_w hg hw wd_167 rfl args) (fun _ h => h) rfl hin rfl (by decide +kernel) hn hfit hl hdg k
theorem pf_MD_61 (hg : xg_F G) (hw : G.1.WarmedH s.vm) (S : xc_Fix p m c cc nL s "SealTrustModel") (hP : va_P G.2.1 cl_all ws H) (hD : va_D A ws) (hS : va_S A H0 H locs) (q0 : Nat) (he : ws[q0]? = some (a, .inr (4, fs))) (hin : meth.name = "<init>") (hn : narrow (.array .long) v = v) (hfit : fits (.array .long) v = true) (hl : 16 < fs.length) (hdg : decode cc pc = .ok (.putfield 61, 3)) (k : ∀ (H1 : Heap) (locs1 : List Loc), va_P G.2.1 cl_all (ws.set q0 (a, .inr (4, fs.set 16 v))) H1 → va_D A (ws.set q0 (a, .inr (4, fs.set 16 v))) → va_S A H0 H1 locs1 → W p l e R s m args below meth c H1 locs1 cells slots Q (F0 m (pc + 3) ls rest)) : W p l e R s m args below meth c H locs cells slots Q (F0 m pc ls (v :: .ref a :: rest)) :=
  va_putF (D := G.2.1) (C := "SealTrustModel") (T := T_MD) (N := 23) (ty := .array .long) S.1 S.2.1 (xg_t hg hw args) in_MD t_MD o_MD n_MD S.2.2.2 (xg_k hg hw) hP hD hS q0 he rfl 16 (by decide) (xg_w hg hw wd_168 rfl args) (fun _ h => h) rfl hin rfl (by decide +kernel) hn hfit hl hdg k
theorem pf_MD_64 (hg : xg_F G) (hw : G.1.WarmedH s.vm) (S : xc_Fix p m c cc nL s "SealTrustModel") (hP : va_P G.2.1 cl_all ws H) (hD : va_D A ws) (hS : va_S A H0 H locs) (q0 : Nat) (he : ws[q0]? = some (a, .inr (4, fs))) (hin : meth.name = "<init>") (hn : narrow (.array .long) v = v) (hfit : fits (.array .long) v = true) (hl : 17 < fs.length) (hdg : decode cc pc = .ok (.putfield 64, 3)) (k : ∀ (H1 : Heap) (locs1 : List Loc), va_P G.2.1 cl_all (ws.set q0 (a, .inr (4, fs.set 17 v))) H1 → va_D A (ws.set q0 (a, .inr (4, fs.set 17 v))) → va_S A H0 H1 locs1 → W p l e R s m args below meth c H1 locs1 cells slots Q (F0 m (pc + 3) ls rest)) : W p l e R s m args below meth c H locs cells slots Q (F0 m pc ls (v :: .ref a :: rest)) :=
  va_putF (D := G.2.1) (C := "SealTrustModel") (T := T_MD) (N := 23) (ty := .array .long) S.1 S.2.1 (xg_t hg hw args) in_MD t_MD o_MD n_MD S.2.2.2 (xg_k hg hw) hP hD hS q0 he rfl 17 (by decide) (xg_w hg hw wd_169 rfl args) (fun _ h => h) rfl hin rfl (by decide +kernel) hn hfit hl hdg k
theorem pf_MD_67 (hg : xg_F G) (hw : G.1.WarmedH s.vm) (S : xc_Fix p m c cc nL s "SealTrustModel") (hP : va_P G.2.1 cl_all ws H) (hD : va_D A ws) (hS : va_S A H0 H locs) (q0 : Nat) (he : ws[q0]? = some (a, .inr (4, fs))) (hin : meth.name = "<init>") (hn : narrow (.array .int) v = v) (hfit : fits (.array .int) v = true) (hl : 18 < fs.length) (hdg : decode cc pc = .ok (.putfield 67, 3)) (k : ∀ (H1 : Heap) (locs1 : List Loc), va_P G.2.1 cl_all (ws.set q0 (a, .inr (4, fs.set 18 v))) H1 → va_D A (ws.set q0 (a, .inr (4, fs.set 18 v))) → va_S A H0 H1 locs1 → W p l e R s m args below meth c H1 locs1 cells slots Q (F0 m (pc + 3) ls rest)) : W p l e R s m args below meth c H locs cells slots Q (F0 m pc ls (v :: .ref a :: rest)) :=
  va_putF (D := G.2.1) (C := "SealTrustModel") (T := T_MD) (N := 23) (ty := .array .int) S.1 S.2.1 (xg_t hg hw args) in_MD t_MD o_MD n_MD S.2.2.2 (xg_k hg hw) hP hD hS q0 he rfl 18 (by decide) (xg_w hg hw wd_170 rfl args) (fun _ h => h) rfl hin rfl (by decide +kernel) hn hfit hl hdg k
theorem pf_MD_70 (hg : xg_F G) (hw : G.1.WarmedH s.vm) (S : xc_Fix p m c cc nL s "SealTrustModel") (hP : va_P G.2.1 cl_all ws H) (hD : va_D A ws) (hS : va_S A H0 H locs) (q0 : Nat) (he : ws[q0]? = some (a, .inr (4, fs))) (hin : meth.name = "<init>") (hn : narrow (.array .long) v = v) (hfit : fits (.array .long) v = true) (hl : 19 < fs.length) (hdg : decode cc pc = .ok (.putfield 70, 3)) (k : ∀ (H1 : Heap) (locs1 : List Loc), va_P G.2.1 cl_all (ws.set q0 (a, .inr (4, fs.set 19 v))) H1 → va_D A (ws.set q0 (a, .inr (4, fs.set 19 v))) → va_S A H0 H1 locs1 → W p l e R s m args below meth c H1 locs1 cells slots Q (F0 m (pc + 3) ls rest)) : W p l e R s m args below meth c H locs cells slots Q (F0 m pc ls (v :: .ref a :: rest)) :=
  va_putF (D := G.2.1) (C := "SealTrustModel") (T := T_MD) (N := 23) (ty := .array .long) S.1 S.2.1 (xg_t hg hw args) in_MD t_MD o_MD n_MD S.2.2.2 (xg_k hg hw) hP hD hS q0 he rfl 19 (by decide) (xg_w hg hw wd_171 rfl args) (fun _ h => h) rfl hin rfl (by decide +kernel) hn hfit hl hdg k
theorem pf_MD_73 (hg : xg_F G) (hw : G.1.WarmedH s.vm) (S : xc_Fix p m c cc nL s "SealTrustModel") (hP : va_P G.2.1 cl_all ws H) (hD : va_D A ws) (hS : va_S A H0 H locs) (q0 : Nat) (he : ws[q0]? = some (a, .inr (4, fs))) (hn : narrow (.int) v = v) (hfit : fits (.int) v = true) (hl : 20 < fs.length) (hdg : decode cc pc = .ok (.putfield 73, 3)) (k : ∀ (H1 : Heap) (locs1 : List Loc), va_P G.2.1 cl_all (ws.set q0 (a, .inr (4, fs.set 20 v))) H1 → va_D A (ws.set q0 (a, .inr (4, fs.set 20 v))) → va_S A H0 H1 locs1 → W p l e R s m args below meth c H1 locs1 cells slots Q (F0 m (pc + 3) ls rest)) : W p l e R s m args below meth c H locs cells slots Q (F0 m pc ls (v :: .ref a :: rest)) :=
  va_put (D := G.2.1) (C := "SealTrustModel") (T := T_MD) (N := 23) (ty := .int) S.1 S.2.1 (xg_t hg hw args) in_MD t_MD o_MD n_MD S.2.2.2 (xg_k hg hw) hP hD hS q0 he rfl 20 (by decide) (xg_w hg hw wd_172 rfl args) (fun _ h => h) rfl (by decide +kernel) hn hfit hl hdg k
theorem pf_MD_76 (hg : xg_F G) (hw : G.1.WarmedH s.vm) (S : xc_Fix p m c cc nL s "SealTrustModel") (hP : va_P G.2.1 cl_all ws H) (hD : va_D A ws) (hS : va_S A H0 H locs) (q0 : Nat) (he : ws[q0]? = some (a, .inr (4, fs))) (hin : meth.name = "<init>") (hn : narrow (.array .int) v = v) (hfit : fits (.array .int) v = true) (hl : 21 < fs.length) (hdg : decode cc pc = .ok (.putfield 76, 3)) (k : ∀ (H1 : Heap) (locs1 : List Loc), va_P G.2.1 cl_all (ws.set q0 (a, .inr (4, fs.set 21 v))) H1 → va_D A (ws.set q0 (a, .inr (4, fs.set 21 v))) → va_S A H0 H1 locs1 → W p l e R s m args below meth c H1 locs1 cells slots Q (F0 m (pc + 3) ls rest)) : W p l e R s m args below meth c H locs cells slots Q (F0 m pc ls (v :: .ref a :: rest)) :=
  va_putF (D := G.2.1) (C := "SealTrustModel") (T := T_MD) (N := 23) (ty := .array .int) S.1 S.2.1 (xg_t hg hw args) in_MD t_MD o_MD n_MD S.2.2.2 (xg_k hg hw) hP hD hS q0 he rfl 21 (by decide) (xg_w hg hw wd_173 rfl args) (fun _ h => h) rfl hin rfl (by decide +kernel) hn hfit hl hdg k
theorem pf_MD_79 (hg : xg_F G) (hw : G.1.WarmedH s.vm) (S : xc_Fix p m c cc nL s "SealTrustModel") (hP : va_P G.2.1 cl_all ws H) (hD : va_D A ws) (hS : va_S A H0 H locs) (q0 : Nat) (he : ws[q0]? = some (a, .inr (4, fs))) (hn : narrow (.long) v = v) (hfit : fits (.long) v = true) (hl : 22 < fs.length) (hdg : decode cc pc = .ok (.putfield 79, 3)) (k : ∀ (H1 : Heap) (locs1 : List Loc), va_P G.2.1 cl_all (ws.set q0 (a, .inr (4, fs.set 22 v))) H1 → va_D A (ws.set q0 (a, .inr (4, fs.set 22 v))) → va_S A H0 H1 locs1 → W p l e R s m args below meth c H1 locs1 cells slots Q (F0 m (pc + 3) ls rest)) : W p l e R s m args below meth c H locs cells slots Q (F0 m pc ls (v :: .ref a :: rest)) :=
  va_put (D := G.2.1) (C := "SealTrustModel") (T := T_MD) (N := 23) (ty := .long) S.1 S.2.1 (xg_t hg hw args) in_MD t_MD o_MD n_MD S.2.2.2 (xg_k hg hw) hP hD hS q0 he rfl 22 (by decide) (xg_w hg hw wd_174 rfl args) (fun _ h => h) rfl (by decide +kernel) hn hfit hl hdg k
theorem si_MD_82 : xg_siteS "SealTrustModel" 82 y_MD_prime b_MD_prime 2 (some .boolean) 1 := ⟨wd_178, wd_175, wd_176, wd_177, ⟨by decide +kernel, by decide +kernel⟩, by decide +kernel⟩
theorem kc_MD_86 (hg : xg_F G) (hw : G.1.WarmedH s.vm) (S : xc_Fix p m c cc nL s "SealTrustModel") (hdg : decode cc pc = .ok (.ldc2_w 86, 3)) (k : W p l e R s m args below meth c H locs cells slots Q (F0 m (pc + 3) ls (.long 7 :: rest))) : W p l e R s m args below meth c H locs cells slots Q (F0 m pc ls rest) :=
  lv_ldc2 S.1 S.2.1 S.2.2.2 (xg_w hg hw wd_179 rfl args) hdg k
theorem gf_MD_79 (hg : xg_F G) (hw : G.1.WarmedH s.vm) (S : xc_Fix p m c cc nL s "SealTrustModel") (hP : va_P G.2.1 cl_all ws H) (q0 : Nat) (he : ws[q0]? = some (a, .inr (4, fs))) (hv : fs[22]? = some v) (hdg : decode cc pc = .ok (.getfield 79, 3)) (k : W p l e R s m args below meth c H locs cells slots Q (F0 m (pc + 3) ls (v :: rest))) : W p l e R s m args below meth c H locs cells slots Q (F0 m pc ls (.ref a :: rest)) :=
  va_get (D := G.2.1) (C := "SealTrustModel") (T := T_MD) (N := 23) S.1 S.2.1 (xg_t hg hw args) in_MD S.2.2.2 (xg_k hg hw) hP q0 he rfl 22 (by decide) (xg_w hg hw wd_174 rfl args) (fun _ h => h) hv hdg k
theorem kc_MD_88 (hg : xg_F G) (hw : G.1.WarmedH s.vm) (S : xc_Fix p m c cc nL s "SealTrustModel") (hdg : decode cc pc = .ok (.ldc2_w 88, 3)) (k : W p l e R s m args below meth c H locs cells slots Q (F0 m (pc + 3) ls (.long 6364136223846793005 :: rest))) : W p l e R s m args below meth c H locs cells slots Q (F0 m pc ls rest) :=
  lv_ldc2 S.1 S.2.1 S.2.2.2 (xg_w hg hw wd_180 rfl args) hdg k
theorem kc_MD_90 (hg : xg_F G) (hw : G.1.WarmedH s.vm) (S : xc_Fix p m c cc nL s "SealTrustModel") (hdg : decode cc pc = .ok (.ldc2_w 90, 3)) (k : W p l e R s m args below meth c H locs cells slots Q (F0 m (pc + 3) ls (.long 1442695040888963407 :: rest))) : W p l e R s m args below meth c H locs cells slots Q (F0 m pc ls rest) :=
  lv_ldc2 S.1 S.2.1 S.2.2.2 (xg_w hg hw wd_181 rfl args) hdg k
theorem gf_MD_20 (hg : xg_F G) (hw : G.1.WarmedH s.vm) (S : xc_Fix p m c cc nL s "SealTrustModel") (hP : va_P G.2.1 cl_all ws H) (q0 : Nat) (he : ws[q0]? = some (a, .inr (4, fs))) (hv : fs[3]? = some v) (hdg : decode cc pc = .ok (.getfield 20, 3)) (k : W p l e R s m args below meth c H locs cells slots Q (F0 m (pc + 3) ls (v :: rest))) : W p l e R s m args below meth c H locs cells slots Q (F0 m pc ls (.ref a :: rest)) :=
  va_get (D := G.2.1) (C := "SealTrustModel") (T := T_MD) (N := 23) S.1 S.2.1 (xg_t hg hw args) in_MD S.2.2.2 (xg_k hg hw) hP q0 he rfl 3 (by decide) (xg_w hg hw wd_155 rfl args) (fun _ h => h) hv hdg k
theorem gf_MD_23 (hg : xg_F G) (hw : G.1.WarmedH s.vm) (S : xc_Fix p m c cc nL s "SealTrustModel") (hP : va_P G.2.1 cl_all ws H) (q0 : Nat) (he : ws[q0]? = some (a, .inr (4, fs))) (hv : fs[4]? = some v) (hdg : decode cc pc = .ok (.getfield 23, 3)) (k : W p l e R s m args below meth c H locs cells slots Q (F0 m (pc + 3) ls (v :: rest))) : W p l e R s m args below meth c H locs cells slots Q (F0 m pc ls (.ref a :: rest)) :=
  va_get (D := G.2.1) (C := "SealTrustModel") (T := T_MD) (N := 23) S.1 S.2.1 (xg_t hg hw args) in_MD S.2.2.2 (xg_k hg hw) hP q0 he rfl 4 (by decide) (xg_w hg hw wd_156 rfl args) (fun _ h => h) hv hdg k
theorem gf_MD_26 (hg : xg_F G) (hw : G.1.WarmedH s.vm) (S : xc_Fix p m c cc nL s "SealTrustModel") (hP : va_P G.2.1 cl_all ws H) (q0 : Nat) (he : ws[q0]? = some (a, .inr (4, fs))) (hv : fs[5]? = some v) (hdg : decode cc pc = .ok (.getfield 26, 3)) (k : W p l e R s m args below meth c H locs cells slots Q (F0 m (pc + 3) ls (v :: rest))) : W p l e R s m args below meth c H locs cells slots Q (F0 m pc ls (.ref a :: rest)) :=
  va_get (D := G.2.1) (C := "SealTrustModel") (T := T_MD) (N := 23) S.1 S.2.1 (xg_t hg hw args) in_MD S.2.2.2 (xg_k hg hw) hP q0 he rfl 5 (by decide) (xg_w hg hw wd_157 rfl args) (fun _ h => h) hv hdg k
theorem gf_MD_17 (hg : xg_F G) (hw : G.1.WarmedH s.vm) (S : xc_Fix p m c cc nL s "SealTrustModel") (hP : va_P G.2.1 cl_all ws H) (q0 : Nat) (he : ws[q0]? = some (a, .inr (4, fs))) (hv : fs[2]? = some v) (hdg : decode cc pc = .ok (.getfield 17, 3)) (k : W p l e R s m args below meth c H locs cells slots Q (F0 m (pc + 3) ls (v :: rest))) : W p l e R s m args below meth c H locs cells slots Q (F0 m pc ls (.ref a :: rest)) :=
  va_get (D := G.2.1) (C := "SealTrustModel") (T := T_MD) (N := 23) S.1 S.2.1 (xg_t hg hw args) in_MD S.2.2.2 (xg_k hg hw) hP q0 he rfl 2 (by decide) (xg_w hg hw wd_154 rfl args) (fun _ h => h) hv hdg k
theorem gf_MD_29 (hg : xg_F G) (hw : G.1.WarmedH s.vm) (S : xc_Fix p m c cc nL s "SealTrustModel") (hP : va_P G.2.1 cl_all ws H) (q0 : Nat) (he : ws[q0]? = some (a, .inr (4, fs))) (hv : fs[6]? = some v) (hdg : decode cc pc = .ok (.getfield 29, 3)) (k : W p l e R s m args below meth c H locs cells slots Q (F0 m (pc + 3) ls (v :: rest))) : W p l e R s m args below meth c H locs cells slots Q (F0 m pc ls (.ref a :: rest)) :=
  va_get (D := G.2.1) (C := "SealTrustModel") (T := T_MD) (N := 23) S.1 S.2.1 (xg_t hg hw args) in_MD S.2.2.2 (xg_k hg hw) hP q0 he rfl 6 (by decide) (xg_w hg hw wd_158 rfl args) (fun _ h => h) hv hdg k
theorem si_MD_92 : xg_siteV "SealTrustModel" 92 y_MD_part b_MD_part 4 (some .long) 1 := ⟨wd_182, wd_183, wd_184, wd_176, wd_185, ⟨by decide +kernel, by decide +kernel⟩, by decide +kernel⟩
theorem gf_MD_13 (hg : xg_F G) (hw : G.1.WarmedH s.vm) (S : xc_Fix p m c cc nL s "SealTrustModel") (hP : va_P G.2.1 cl_all ws H) (q0 : Nat) (he : ws[q0]? = some (a, .inr (4, fs))) (hv : fs[1]? = some v) (hdg : decode cc pc = .ok (.getfield 13, 3)) (k : W p l e R s m args below meth c H locs cells slots Q (F0 m (pc + 3) ls (v :: rest))) : W p l e R s m args below meth c H locs cells slots Q (F0 m pc ls (.ref a :: rest)) :=
  va_get (D := G.2.1) (C := "SealTrustModel") (T := T_MD) (N := 23) S.1 S.2.1 (xg_t hg hw args) in_MD S.2.2.2 (xg_k hg hw) hP q0 he rfl 1 (by decide) (xg_w hg hw wd_153 rfl args) (fun _ h => h) hv hdg k
theorem si_MD_96 : xg_siteS "SealTrustModel" 96 y_MD_raised b_MD_raised 12 (some .long) 3 := ⟨wd_188, wd_186, wd_176, wd_187, ⟨by decide +kernel, by decide +kernel⟩, by decide +kernel⟩
theorem si_MD_100 : xg_siteV "SealTrustModel" 100 y_MD_begin b_MD_begin 1 none 0 := ⟨wd_189, wd_190, wd_191, wd_176, wd_192, ⟨by decide +kernel, by decide +kernel⟩, by decide +kernel⟩
theorem gf_MD_42 (hg : xg_F G) (hw : G.1.WarmedH s.vm) (S : xc_Fix p m c cc nL s "SealTrustModel") (hP : va_P G.2.1 cl_all ws H) (q0 : Nat) (he : ws[q0]? = some (a, .inr (4, fs))) (hv : fs[10]? = some v) (hdg : decode cc pc = .ok (.getfield 42, 3)) (k : W p l e R s m args below meth c H locs cells slots Q (F0 m (pc + 3) ls (v :: rest))) : W p l e R s m args below meth c H locs cells slots Q (F0 m pc ls (.ref a :: rest)) :=
  va_get (D := G.2.1) (C := "SealTrustModel") (T := T_MD) (N := 23) S.1 S.2.1 (xg_t hg hw args) in_MD S.2.2.2 (xg_k hg hw) hP q0 he rfl 10 (by decide) (xg_w hg hw wd_162 rfl args) (fun _ h => h) hv hdg k
theorem gf_MD_38 (hg : xg_F G) (hw : G.1.WarmedH s.vm) (S : xc_Fix p m c cc nL s "SealTrustModel") (hP : va_P G.2.1 cl_all ws H) (q0 : Nat) (he : ws[q0]? = some (a, .inr (4, fs))) (hv : fs[9]? = some v) (hdg : decode cc pc = .ok (.getfield 38, 3)) (k : W p l e R s m args below meth c H locs cells slots Q (F0 m (pc + 3) ls (v :: rest))) : W p l e R s m args below meth c H locs cells slots Q (F0 m pc ls (.ref a :: rest)) :=
  va_get (D := G.2.1) (C := "SealTrustModel") (T := T_MD) (N := 23) S.1 S.2.1 (xg_t hg hw args) in_MD S.2.2.2 (xg_k hg hw) hP q0 he rfl 9 (by decide) (xg_w hg hw wd_161 rfl args) (fun _ h => h) hv hdg k
theorem si_MD_103 : xg_siteV "SealTrustModel" 103 y_MD_mix b_MD_mix 3 none 1 := ⟨wd_193, wd_194, wd_195, wd_176, wd_196, ⟨by decide +kernel, by decide +kernel⟩, by decide +kernel⟩
theorem kc_MD_107 (hg : xg_F G) (hw : G.1.WarmedH s.vm) (S : xc_Fix p m c cc nL s "SealTrustModel") (hdg : decode cc pc = .ok (.ldc2_w 107, 3)) (k : W p l e R s m args below meth c H locs cells slots Q (F0 m (pc + 3) ls (.long 2 :: rest))) : W p l e R s m args below meth c H locs cells slots Q (F0 m pc ls rest) :=
  lv_ldc2 S.1 S.2.1 S.2.2.2 (xg_w hg hw wd_197 rfl args) hdg k
theorem si_MD_109 : xg_siteV "SealTrustModel" 109 y_MD_mixed b_MD_mixed 1 (some .long) 0 := ⟨wd_198, wd_199, wd_200, wd_176, wd_201, ⟨by decide +kernel, by decide +kernel⟩, by decide +kernel⟩
theorem kc_MD_113 (hg : xg_F G) (hw : G.1.WarmedH s.vm) (S : xc_Fix p m c cc nL s "SealTrustModel") (hdg : decode cc pc = .ok (.ldc2_w 113, 3)) (k : W p l e R s m args below meth c H locs cells slots Q (F0 m (pc + 3) ls (.long 3 :: rest))) : W p l e R s m args below meth c H locs cells slots Q (F0 m pc ls rest) :=
  lv_ldc2 S.1 S.2.1 S.2.2.2 (xg_w hg hw wd_202 rfl args) hdg k
theorem gf_MD_51 (hg : xg_F G) (hw : G.1.WarmedH s.vm) (S : xc_Fix p m c cc nL s "SealTrustModel") (hP : va_P G.2.1 cl_all ws H) (q0 : Nat) (he : ws[q0]? = some (a, .inr (4, fs))) (hv : fs[13]? = some v) (hdg : decode cc pc = .ok (.getfield 51, 3)) (k : W p l e R s m args below meth c H locs cells slots Q (F0 m (pc + 3) ls (v :: rest))) : W p l e R s m args below meth c H locs cells slots Q (F0 m pc ls (.ref a :: rest)) :=
  va_get (D := G.2.1) (C := "SealTrustModel") (T := T_MD) (N := 23) S.1 S.2.1 (xg_t hg hw args) in_MD S.2.2.2 (xg_k hg hw) hP q0 he rfl 13 (by decide) (xg_w hg hw wd_165 rfl args) (fun _ h => h) hv hdg k
theorem kc_MD_115 (hg : xg_F G) (hw : G.1.WarmedH s.vm) (S : xc_Fix p m c cc nL s "SealTrustModel") (hdg : decode cc pc = .ok (.ldc2_w 115, 3)) (k : W p l e R s m args below meth c H locs cells slots Q (F0 m (pc + 3) ls (.long 1440 :: rest))) : W p l e R s m args below meth c H locs cells slots Q (F0 m pc ls rest) :=
  lv_ldc2 S.1 S.2.1 S.2.2.2 (xg_w hg hw wd_203 rfl args) hdg k
theorem gf_MD_32 (hg : xg_F G) (hw : G.1.WarmedH s.vm) (S : xc_Fix p m c cc nL s "SealTrustModel") (hP : va_P G.2.1 cl_all ws H) (q0 : Nat) (he : ws[q0]? = some (a, .inr (4, fs))) (hv : fs[7]? = some v) (hdg : decode cc pc = .ok (.getfield 32, 3)) (k : W p l e R s m args below meth c H locs cells slots Q (F0 m (pc + 3) ls (v :: rest))) : W p l e R s m args below meth c H locs cells slots Q (F0 m pc ls (.ref a :: rest)) :=
  va_get (D := G.2.1) (C := "SealTrustModel") (T := T_MD) (N := 23) S.1 S.2.1 (xg_t hg hw args) in_MD S.2.2.2 (xg_k hg hw) hP q0 he rfl 7 (by decide) (xg_w hg hw wd_159 rfl args) (fun _ h => h) hv hdg k
theorem kc_MD_117 (hg : xg_F G) (hw : G.1.WarmedH s.vm) (S : xc_Fix p m c cc nL s "SealTrustModel") (hdg : decode cc pc = .ok (.ldc2_w 117, 3)) (k : W p l e R s m args below meth c H locs cells slots Q (F0 m (pc + 3) ls (.long 2880 :: rest))) : W p l e R s m args below meth c H locs cells slots Q (F0 m pc ls rest) :=
  lv_ldc2 S.1 S.2.1 S.2.2.2 (xg_w hg hw wd_204 rfl args) hdg k
theorem si_MD_119 : xg_siteV "SealTrustModel" 119 y_MD_check b_MD_check 2 (some .long) 1 := ⟨wd_205, wd_206, wd_207, wd_176, wd_208, ⟨by decide +kernel, by decide +kernel⟩, by decide +kernel⟩
theorem si_MD_122 : xg_siteV "SealTrustModel" 122 y_MD_challenge b_MD_challenge 11 (some .int) 5 := ⟨wd_209, wd_210, wd_211, wd_176, wd_212, ⟨by decide +kernel, by decide +kernel⟩, by decide +kernel⟩
theorem gf_MD_64 (hg : xg_F G) (hw : G.1.WarmedH s.vm) (S : xc_Fix p m c cc nL s "SealTrustModel") (hP : va_P G.2.1 cl_all ws H) (q0 : Nat) (he : ws[q0]? = some (a, .inr (4, fs))) (hv : fs[17]? = some v) (hdg : decode cc pc = .ok (.getfield 64, 3)) (k : W p l e R s m args below meth c H locs cells slots Q (F0 m (pc + 3) ls (v :: rest))) : W p l e R s m args below meth c H locs cells slots Q (F0 m pc ls (.ref a :: rest)) :=
  va_get (D := G.2.1) (C := "SealTrustModel") (T := T_MD) (N := 23) S.1 S.2.1 (xg_t hg hw args) in_MD S.2.2.2 (xg_k hg hw) hP q0 he rfl 17 (by decide) (xg_w hg hw wd_169 rfl args) (fun _ h => h) hv hdg k
theorem gf_MD_67 (hg : xg_F G) (hw : G.1.WarmedH s.vm) (S : xc_Fix p m c cc nL s "SealTrustModel") (hP : va_P G.2.1 cl_all ws H) (q0 : Nat) (he : ws[q0]? = some (a, .inr (4, fs))) (hv : fs[18]? = some v) (hdg : decode cc pc = .ok (.getfield 67, 3)) (k : W p l e R s m args below meth c H locs cells slots Q (F0 m (pc + 3) ls (v :: rest))) : W p l e R s m args below meth c H locs cells slots Q (F0 m pc ls (.ref a :: rest)) :=
  va_get (D := G.2.1) (C := "SealTrustModel") (T := T_MD) (N := 23) S.1 S.2.1 (xg_t hg hw args) in_MD S.2.2.2 (xg_k hg hw) hP q0 he rfl 18 (by decide) (xg_w hg hw wd_170 rfl args) (fun _ h => h) hv hdg k
theorem gf_MD_70 (hg : xg_F G) (hw : G.1.WarmedH s.vm) (S : xc_Fix p m c cc nL s "SealTrustModel") (hP : va_P G.2.1 cl_all ws H) (q0 : Nat) (he : ws[q0]? = some (a, .inr (4, fs))) (hv : fs[19]? = some v) (hdg : decode cc pc = .ok (.getfield 70, 3)) (k : W p l e R s m args below meth c H locs cells slots Q (F0 m (pc + 3) ls (v :: rest))) : W p l e R s m args below meth c H locs cells slots Q (F0 m pc ls (.ref a :: rest)) :=
  va_get (D := G.2.1) (C := "SealTrustModel") (T := T_MD) (N := 23) S.1 S.2.1 (xg_t hg hw args) in_MD S.2.2.2 (xg_k hg hw) hP q0 he rfl 19 (by decide) (xg_w hg hw wd_171 rfl args) (fun _ h => h) hv hdg k
theorem si_MD_126 : xg_siteS "SealTrustModel" 126 y_MD_common b_MD_common 10 (some .long) 2 := ⟨wd_215, wd_213, wd_176, wd_214, ⟨by decide +kernel, by decide +kernel⟩, by decide +kernel⟩
theorem kc_MD_130 (hg : xg_F G) (hw : G.1.WarmedH s.vm) (S : xc_Fix p m c cc nL s "SealTrustModel") (hdg : decode cc pc = .ok (.ldc 130, 2)) (k : W p l e R s m args below meth c H locs cells slots Q (F0 m (pc + 2) ls (.int 65535 :: rest))) : W p l e R s m args below meth c H locs cells slots Q (F0 m pc ls rest) :=
  lv_ldc S.1 S.2.1 S.2.2.2 (xg_w hg hw wd_216 rfl args) hdg k
theorem si_MD_131 : xg_siteS "SealTrustModel" 131 y_MD_inverse b_MD_inverse 18 (some .long) 2 := ⟨wd_219, wd_217, wd_176, wd_218, ⟨by decide +kernel, by decide +kernel⟩, by decide +kernel⟩
theorem gf_MD_45 (hg : xg_F G) (hw : G.1.WarmedH s.vm) (S : xc_Fix p m c cc nL s "SealTrustModel") (hP : va_P G.2.1 cl_all ws H) (q0 : Nat) (he : ws[q0]? = some (a, .inr (4, fs))) (hv : fs[11]? = some v) (hdg : decode cc pc = .ok (.getfield 45, 3)) (k : W p l e R s m args below meth c H locs cells slots Q (F0 m (pc + 3) ls (v :: rest))) : W p l e R s m args below meth c H locs cells slots Q (F0 m pc ls (.ref a :: rest)) :=
  va_get (D := G.2.1) (C := "SealTrustModel") (T := T_MD) (N := 23) S.1 S.2.1 (xg_t hg hw args) in_MD S.2.2.2 (xg_k hg hw) hP q0 he rfl 11 (by decide) (xg_w hg hw wd_163 rfl args) (fun _ h => h) hv hdg k
theorem gf_MD_7 (hg : xg_F G) (hw : G.1.WarmedH s.vm) (S : xc_Fix p m c cc nL s "SealTrustModel") (hP : va_P G.2.1 cl_all ws H) (q0 : Nat) (he : ws[q0]? = some (a, .inr (4, fs))) (hv : fs[0]? = some v) (hdg : decode cc pc = .ok (.getfield 7, 3)) (k : W p l e R s m args below meth c H locs cells slots Q (F0 m (pc + 3) ls (v :: rest))) : W p l e R s m args below meth c H locs cells slots Q (F0 m pc ls (.ref a :: rest)) :=
  va_get (D := G.2.1) (C := "SealTrustModel") (T := T_MD) (N := 23) S.1 S.2.1 (xg_t hg hw args) in_MD S.2.2.2 (xg_k hg hw) hP q0 he rfl 0 (by decide) (xg_w hg hw wd_152 rfl args) (fun _ h => h) hv hdg k
theorem si_MD_134 : xg_siteS "SealTrustModel" 134 y_MD_safe b_MD_safe 1 (some .boolean) 1 := ⟨wd_222, wd_220, wd_176, wd_221, ⟨by decide +kernel, by decide +kernel⟩, by decide +kernel⟩
theorem kc_MD_137 (hg : xg_F G) (hw : G.1.WarmedH s.vm) (S : xc_Fix p m c cc nL s "SealTrustModel") (hdg : decode cc pc = .ok (.ldc2_w 137, 3)) (k : W p l e R s m args below meth c H locs cells slots Q (F0 m (pc + 3) ls (.long 65537 :: rest))) : W p l e R s m args below meth c H locs cells slots Q (F0 m pc ls rest) :=
  lv_ldc2 S.1 S.2.1 S.2.2.2 (xg_w hg hw wd_223 rfl args) hdg k
theorem si_MD_139 : xg_siteV "SealTrustModel" 139 y_MD_blockOf b_MD_blockOf 2 (some .long) 0 := ⟨wd_224, wd_225, wd_226, wd_176, wd_227, ⟨by decide +kernel, by decide +kernel⟩, by decide +kernel⟩
theorem gf_MD_48 (hg : xg_F G) (hw : G.1.WarmedH s.vm) (S : xc_Fix p m c cc nL s "SealTrustModel") (hP : va_P G.2.1 cl_all ws H) (q0 : Nat) (he : ws[q0]? = some (a, .inr (4, fs))) (hv : fs[12]? = some v) (hdg : decode cc pc = .ok (.getfield 48, 3)) (k : W p l e R s m args below meth c H locs cells slots Q (F0 m (pc + 3) ls (v :: rest))) : W p l e R s m args below meth c H locs cells slots Q (F0 m pc ls (.ref a :: rest)) :=
  va_get (D := G.2.1) (C := "SealTrustModel") (T := T_MD) (N := 23) S.1 S.2.1 (xg_t hg hw args) in_MD S.2.2.2 (xg_k hg hw) hP q0 he rfl 12 (by decide) (xg_w hg hw wd_164 rfl args) (fun _ h => h) hv hdg k
theorem gf_MD_55 (hg : xg_F G) (hw : G.1.WarmedH s.vm) (S : xc_Fix p m c cc nL s "SealTrustModel") (hP : va_P G.2.1 cl_all ws H) (q0 : Nat) (he : ws[q0]? = some (a, .inr (4, fs))) (hv : fs[14]? = some v) (hdg : decode cc pc = .ok (.getfield 55, 3)) (k : W p l e R s m args below meth c H locs cells slots Q (F0 m (pc + 3) ls (v :: rest))) : W p l e R s m args below meth c H locs cells slots Q (F0 m pc ls (.ref a :: rest)) :=
  va_get (D := G.2.1) (C := "SealTrustModel") (T := T_MD) (N := 23) S.1 S.2.1 (xg_t hg hw args) in_MD S.2.2.2 (xg_k hg hw) hP q0 he rfl 14 (by decide) (xg_w hg hw wd_166 rfl args) (fun _ h => h) hv hdg k
theorem gf_MD_58 (hg : xg_F G) (hw : G.1.WarmedH s.vm) (S : xc_Fix p m c cc nL s "SealTrustModel") (hP : va_P G.2.1 cl_all ws H) (q0 : Nat) (he : ws[q0]? = some (a, .inr (4, fs))) (hv : fs[15]? = some v) (hdg : decode cc pc = .ok (.getfield 58, 3)) (k : W p l e R s m args below meth c H locs cells slots Q (F0 m (pc + 3) ls (v :: rest))) : W p l e R s m args below meth c H locs cells slots Q (F0 m pc ls (.ref a :: rest)) :=
  va_get (D := G.2.1) (C := "SealTrustModel") (T := T_MD) (N := 23) S.1 S.2.1 (xg_t hg hw args) in_MD S.2.2.2 (xg_k hg hw) hP q0 he rfl 15 (by decide) (xg_w hg hw wd_167 rfl args) (fun _ h => h) hv hdg k
theorem gf_MD_61 (hg : xg_F G) (hw : G.1.WarmedH s.vm) (S : xc_Fix p m c cc nL s "SealTrustModel") (hP : va_P G.2.1 cl_all ws H) (q0 : Nat) (he : ws[q0]? = some (a, .inr (4, fs))) (hv : fs[16]? = some v) (hdg : decode cc pc = .ok (.getfield 61, 3)) (k : W p l e R s m args below meth c H locs cells slots Q (F0 m (pc + 3) ls (v :: rest))) : W p l e R s m args below meth c H locs cells slots Q (F0 m pc ls (.ref a :: rest)) :=
  va_get (D := G.2.1) (C := "SealTrustModel") (T := T_MD) (N := 23) S.1 S.2.1 (xg_t hg hw args) in_MD S.2.2.2 (xg_k hg hw) hP q0 he rfl 16 (by decide) (xg_w hg hw wd_168 rfl args) (fun _ h => h) hv hdg k
theorem si_MD_142 : xg_siteV "SealTrustModel" 142 y_MD_isMotion b_MD_isMotion 2 (some .boolean) 1 := ⟨wd_228, wd_229, wd_230, wd_176, wd_231, ⟨by decide +kernel, by decide +kernel⟩, by decide +kernel⟩
theorem si_MD_145 : xg_siteS "SealTrustModel" 145 y_MD_isTrustee b_MD_isTrustee 1 (some .boolean) 1 := ⟨wd_234, wd_232, wd_176, wd_233, ⟨by decide +kernel, by decide +kernel⟩, by decide +kernel⟩
theorem gf_MD_35 (hg : xg_F G) (hw : G.1.WarmedH s.vm) (S : xc_Fix p m c cc nL s "SealTrustModel") (hP : va_P G.2.1 cl_all ws H) (q0 : Nat) (he : ws[q0]? = some (a, .inr (4, fs))) (hv : fs[8]? = some v) (hdg : decode cc pc = .ok (.getfield 35, 3)) (k : W p l e R s m args below meth c H locs cells slots Q (F0 m (pc + 3) ls (v :: rest))) : W p l e R s m args below meth c H locs cells slots Q (F0 m pc ls (.ref a :: rest)) :=
  va_get (D := G.2.1) (C := "SealTrustModel") (T := T_MD) (N := 23) S.1 S.2.1 (xg_t hg hw args) in_MD S.2.2.2 (xg_k hg hw) hP q0 he rfl 8 (by decide) (xg_w hg hw wd_160 rfl args) (fun _ h => h) hv hdg k
theorem si_MD_148 : xg_siteV "SealTrustModel" 148 y_MD_voice b_MD_voice 3 (some .boolean) 2 := ⟨wd_235, wd_236, wd_237, wd_176, wd_238, ⟨by decide +kernel, by decide +kernel⟩, by decide +kernel⟩
theorem si_MD_152 : xg_siteV "SealTrustModel" 152 y_MD_make b_MD_make 14 none 2 := ⟨wd_239, wd_240, wd_241, wd_176, wd_242, ⟨by decide +kernel, by decide +kernel⟩, by decide +kernel⟩
theorem si_MD_156 : xg_siteS "SealTrustModel" 156 y_MD_bits b_MD_bits 3 (some .int) 1 := ⟨wd_245, wd_243, wd_176, wd_244, ⟨by decide +kernel, by decide +kernel⟩, by decide +kernel⟩
theorem si_MD_160 : xg_siteV "SealTrustModel" 160 y_MD_good b_MD_good 18 (some .boolean) 2 := ⟨wd_246, wd_247, wd_248, wd_176, wd_249, ⟨by decide +kernel, by decide +kernel⟩, by decide +kernel⟩
theorem si_MD_163 : xg_siteV "SealTrustModel" 163 y_MD_notGood b_MD_notGood 4 (some .int) 1 := ⟨wd_250, wd_251, wd_252, wd_176, wd_253, ⟨by decide +kernel, by decide +kernel⟩, by decide +kernel⟩
theorem gf_MD_76 (hg : xg_F G) (hw : G.1.WarmedH s.vm) (S : xc_Fix p m c cc nL s "SealTrustModel") (hP : va_P G.2.1 cl_all ws H) (q0 : Nat) (he : ws[q0]? = some (a, .inr (4, fs))) (hv : fs[21]? = some v) (hdg : decode cc pc = .ok (.getfield 76, 3)) (k : W p l e R s m args below meth c H locs cells slots Q (F0 m (pc + 3) ls (v :: rest))) : W p l e R s m args below meth c H locs cells slots Q (F0 m pc ls (.ref a :: rest)) :=
  va_get (D := G.2.1) (C := "SealTrustModel") (T := T_MD) (N := 23) S.1 S.2.1 (xg_t hg hw args) in_MD S.2.2.2 (xg_k hg hw) hP q0 he rfl 21 (by decide) (xg_w hg hw wd_173 rfl args) (fun _ h => h) hv hdg k
theorem gf_MD_73 (hg : xg_F G) (hw : G.1.WarmedH s.vm) (S : xc_Fix p m c cc nL s "SealTrustModel") (hP : va_P G.2.1 cl_all ws H) (q0 : Nat) (he : ws[q0]? = some (a, .inr (4, fs))) (hv : fs[20]? = some v) (hdg : decode cc pc = .ok (.getfield 73, 3)) (k : W p l e R s m args below meth c H locs cells slots Q (F0 m (pc + 3) ls (v :: rest))) : W p l e R s m args below meth c H locs cells slots Q (F0 m pc ls (.ref a :: rest)) :=
  va_get (D := G.2.1) (C := "SealTrustModel") (T := T_MD) (N := 23) S.1 S.2.1 (xg_t hg hw args) in_MD S.2.2.2 (xg_k hg hw) hP q0 he rfl 20 (by decide) (xg_w hg hw wd_172 rfl args) (fun _ h => h) hv hdg k
theorem kc_MD_166 (hg : xg_F G) (hw : G.1.WarmedH s.vm) (S : xc_Fix p m c cc nL s "SealTrustModel") (hdg : decode cc pc = .ok (.ldc2_w 166, 3)) (k : W p l e R s m args below meth c H locs cells slots Q (F0 m (pc + 3) ls (.long 720 :: rest))) : W p l e R s m args below meth c H locs cells slots Q (F0 m pc ls rest) :=
  lv_ldc2 S.1 S.2.1 S.2.2.2 (xg_w hg hw wd_254 rfl args) hdg k
theorem pf_BU_9 (hg : xg_F G) (hw : G.1.WarmedH s.vm) (S : xc_Fix p m c cc nL s "SealTrust$Buffer") (hP : va_P G.2.1 cl_all ws H) (hD : va_D A ws) (hS : va_S A H0 H locs) (q0 : Nat) (he : ws[q0]? = some (a, .inr (0, fs))) (hin : meth.name = "<init>") (hn : narrow (.array .int) v = v) (hfit : fits (.array .int) v = true) (hl : 0 < fs.length) (hdg : decode cc pc = .ok (.putfield 9, 3)) (k : ∀ (H1 : Heap) (locs1 : List Loc), va_P G.2.1 cl_all (ws.set q0 (a, .inr (0, fs.set 0 v))) H1 → va_D A (ws.set q0 (a, .inr (0, fs.set 0 v))) → va_S A H0 H1 locs1 → W p l e R s m args below meth c H1 locs1 cells slots Q (F0 m (pc + 3) ls rest)) : W p l e R s m args below meth c H locs cells slots Q (F0 m pc ls (v :: .ref a :: rest)) :=
  va_putF (D := G.2.1) (C := "SealTrust$Buffer") (T := T_BU) (N := 2) (ty := .array .int) S.1 S.2.1 (xg_t hg hw args) in_BU t_BU o_BU n_BU S.2.2.2 (xg_k hg hw) hP hD hS q0 he rfl 0 (by decide) (xg_w hg hw wd_255 rfl args) (fun _ h => h) rfl hin rfl (by decide +kernel) hn hfit hl hdg k
theorem gf_BU_15 (hg : xg_F G) (hw : G.1.WarmedH s.vm) (S : xc_Fix p m c cc nL s "SealTrust$Buffer") (hP : va_P G.2.1 cl_all ws H) (q0 : Nat) (he : ws[q0]? = some (a, .inr (0, fs))) (hv : fs[1]? = some v) (hdg : decode cc pc = .ok (.getfield 15, 3)) (k : W p l e R s m args below meth c H locs cells slots Q (F0 m (pc + 3) ls (v :: rest))) : W p l e R s m args below meth c H locs cells slots Q (F0 m pc ls (.ref a :: rest)) :=
  va_get (D := G.2.1) (C := "SealTrust$Buffer") (T := T_BU) (N := 2) S.1 S.2.1 (xg_t hg hw args) in_BU S.2.2.2 (xg_k hg hw) hP q0 he rfl 1 (by decide) (xg_w hg hw wd_256 rfl args) (fun _ h => h) hv hdg k
theorem gf_BU_9 (hg : xg_F G) (hw : G.1.WarmedH s.vm) (S : xc_Fix p m c cc nL s "SealTrust$Buffer") (hP : va_P G.2.1 cl_all ws H) (q0 : Nat) (he : ws[q0]? = some (a, .inr (0, fs))) (hv : fs[0]? = some v) (hdg : decode cc pc = .ok (.getfield 9, 3)) (k : W p l e R s m args below meth c H locs cells slots Q (F0 m (pc + 3) ls (v :: rest))) : W p l e R s m args below meth c H locs cells slots Q (F0 m pc ls (.ref a :: rest)) :=
  va_get (D := G.2.1) (C := "SealTrust$Buffer") (T := T_BU) (N := 2) S.1 S.2.1 (xg_t hg hw args) in_BU S.2.2.2 (xg_k hg hw) hP q0 he rfl 0 (by decide) (xg_w hg hw wd_255 rfl args) (fun _ h => h) hv hdg k
theorem pf_BU_15 (hg : xg_F G) (hw : G.1.WarmedH s.vm) (S : xc_Fix p m c cc nL s "SealTrust$Buffer") (hP : va_P G.2.1 cl_all ws H) (hD : va_D A ws) (hS : va_S A H0 H locs) (q0 : Nat) (he : ws[q0]? = some (a, .inr (0, fs))) (hn : narrow (.int) v = v) (hfit : fits (.int) v = true) (hl : 1 < fs.length) (hdg : decode cc pc = .ok (.putfield 15, 3)) (k : ∀ (H1 : Heap) (locs1 : List Loc), va_P G.2.1 cl_all (ws.set q0 (a, .inr (0, fs.set 1 v))) H1 → va_D A (ws.set q0 (a, .inr (0, fs.set 1 v))) → va_S A H0 H1 locs1 → W p l e R s m args below meth c H1 locs1 cells slots Q (F0 m (pc + 3) ls rest)) : W p l e R s m args below meth c H locs cells slots Q (F0 m pc ls (v :: .ref a :: rest)) :=
  va_put (D := G.2.1) (C := "SealTrust$Buffer") (T := T_BU) (N := 2) (ty := .int) S.1 S.2.1 (xg_t hg hw args) in_BU t_BU o_BU n_BU S.2.2.2 (xg_k hg hw) hP hD hS q0 he rfl 1 (by decide) (xg_w hg hw wd_256 rfl args) (fun _ h => h) rfl (by decide +kernel) hn hfit hl hdg k
theorem kc_BU_19 (hg : xg_F G) (hw : G.1.WarmedH s.vm) (S : xc_Fix p m c cc nL s "SealTrust$Buffer") (hdg : decode cc pc = .ok (.ldc2_w 19, 3)) (k : W p l e R s m args below meth c H locs cells slots Q (F0 m (pc + 3) ls (.long 7 :: rest))) : W p l e R s m args below meth c H locs cells slots Q (F0 m pc ls rest) :=
  lv_ldc2 S.1 S.2.1 S.2.2.2 (xg_w hg hw wd_257 rfl args) hdg k
theorem si_BU_21 : xg_siteSN "SealTrust$Buffer" 21 y_ST_mixIn "SealTrust" b_ST_mixIn 4 (some .long) 2 := ⟨wd_260, wd_258, wd_18, wd_259, ⟨by decide +kernel, by decide +kernel⟩, by decide +kernel⟩
theorem si_BU_25 : xg_siteSN "SealTrust$Buffer" 25 y_ST_mixOf "SealTrust" b_ST_mixOf 2 (some .long) 1 := ⟨wd_263, wd_261, wd_18, wd_262, ⟨by decide +kernel, by decide +kernel⟩, by decide +kernel⟩
theorem pf_KE_9 (hg : xg_F G) (hw : G.1.WarmedH s.vm) (S : xc_Fix p m c cc nL s "SealTrust$Key") (hP : va_P G.2.1 cl_all ws H) (hD : va_D A ws) (hS : va_S A H0 H locs) (q0 : Nat) (he : ws[q0]? = some (a, .inr (1, fs))) (hin : meth.name = "<init>") (hn : narrow (.array .long) v = v) (hfit : fits (.array .long) v = true) (hl : 0 < fs.length) (hdg : decode cc pc = .ok (.putfield 9, 3)) (k : ∀ (H1 : Heap) (locs1 : List Loc), va_P G.2.1 cl_all (ws.set q0 (a, .inr (1, fs.set 0 v))) H1 → va_D A (ws.set q0 (a, .inr (1, fs.set 0 v))) → va_S A H0 H1 locs1 → W p l e R s m args below meth c H1 locs1 cells slots Q (F0 m (pc + 3) ls rest)) : W p l e R s m args below meth c H locs cells slots Q (F0 m pc ls (v :: .ref a :: rest)) :=
  va_putF (D := G.2.1) (C := "SealTrust$Key") (T := T_KE) (N := 11) (ty := .array .long) S.1 S.2.1 (xg_t hg hw args) in_KE t_KE o_KE n_KE S.2.2.2 (xg_k hg hw) hP hD hS q0 he rfl 0 (by decide) (xg_w hg hw wd_264 rfl args) (fun _ h => h) rfl hin rfl (by decide +kernel) hn hfit hl hdg k
theorem pf_KE_15 (hg : xg_F G) (hw : G.1.WarmedH s.vm) (S : xc_Fix p m c cc nL s "SealTrust$Key") (hP : va_P G.2.1 cl_all ws H) (hD : va_D A ws) (hS : va_S A H0 H locs) (q0 : Nat) (he : ws[q0]? = some (a, .inr (1, fs))) (hin : meth.name = "<init>") (hn : narrow (.array .long) v = v) (hfit : fits (.array .long) v = true) (hl : 1 < fs.length) (hdg : decode cc pc = .ok (.putfield 15, 3)) (k : ∀ (H1 : Heap) (locs1 : List Loc), va_P G.2.1 cl_all (ws.set q0 (a, .inr (1, fs.set 1 v))) H1 → va_D A (ws.set q0 (a, .inr (1, fs.set 1 v))) → va_S A H0 H1 locs1 → W p l e R s m args below meth c H1 locs1 cells slots Q (F0 m (pc + 3) ls rest)) : W p l e R s m args below meth c H locs cells slots Q (F0 m pc ls (v :: .ref a :: rest)) :=
  va_putF (D := G.2.1) (C := "SealTrust$Key") (T := T_KE) (N := 11) (ty := .array .long) S.1 S.2.1 (xg_t hg hw args) in_KE t_KE o_KE n_KE S.2.2.2 (xg_k hg hw) hP hD hS q0 he rfl 1 (by decide) (xg_w hg hw wd_265 rfl args) (fun _ h => h) rfl hin rfl (by decide +kernel) hn hfit hl hdg k
theorem pf_KE_18 (hg : xg_F G) (hw : G.1.WarmedH s.vm) (S : xc_Fix p m c cc nL s "SealTrust$Key") (hP : va_P G.2.1 cl_all ws H) (hD : va_D A ws) (hS : va_S A H0 H locs) (q0 : Nat) (he : ws[q0]? = some (a, .inr (1, fs))) (hn : narrow (.long) v = v) (hfit : fits (.long) v = true) (hl : 7 < fs.length) (hdg : decode cc pc = .ok (.putfield 18, 3)) (k : ∀ (H1 : Heap) (locs1 : List Loc), va_P G.2.1 cl_all (ws.set q0 (a, .inr (1, fs.set 7 v))) H1 → va_D A (ws.set q0 (a, .inr (1, fs.set 7 v))) → va_S A H0 H1 locs1 → W p l e R s m args below meth c H1 locs1 cells slots Q (F0 m (pc + 3) ls rest)) : W p l e R s m args below meth c H locs cells slots Q (F0 m pc ls (v :: .ref a :: rest)) :=
  va_put (D := G.2.1) (C := "SealTrust$Key") (T := T_KE) (N := 11) (ty := .long) S.1 S.2.1 (xg_t hg hw args) in_KE t_KE o_KE n_KE S.2.2.2 (xg_k hg hw) hP hD hS q0 he rfl 7 (by decide) (xg_w hg hw wd_266 rfl args) (fun _ h => h) rfl (by decide +kernel) hn hfit hl hdg k
theorem pf_KE_22 (hg : xg_F G) (hw : G.1.WarmedH s.vm) (S : xc_Fix p m c cc nL s "SealTrust$Key") (hP : va_P G.2.1 cl_all ws H) (hD : va_D A ws) (hS : va_S A H0 H locs) (q0 : Nat) (he : ws[q0]? = some (a, .inr (1, fs))) (hn : narrow (.long) v = v) (hfit : fits (.long) v = true) (hl : 8 < fs.length) (hdg : decode cc pc = .ok (.putfield 22, 3)) (k : ∀ (H1 : Heap) (locs1 : List Loc), va_P G.2.1 cl_all (ws.set q0 (a, .inr (1, fs.set 8 v))) H1 → va_D A (ws.set q0 (a, .inr (1, fs.set 8 v))) → va_S A H0 H1 locs1 → W p l e R s m args below meth c H1 locs1 cells slots Q (F0 m (pc + 3) ls rest)) : W p l e R s m args below meth c H locs cells slots Q (F0 m pc ls (v :: .ref a :: rest)) :=
  va_put (D := G.2.1) (C := "SealTrust$Key") (T := T_KE) (N := 11) (ty := .long) S.1 S.2.1 (xg_t hg hw args) in_KE t_KE o_KE n_KE S.2.2.2 (xg_k hg hw) hP hD hS q0 he rfl 8 (by decide) (xg_w hg hw wd_267 rfl args) (fun _ h => h) rfl (by decide +kernel) hn hfit hl hdg k
theorem gf_KE_18 (hg : xg_F G) (hw : G.1.WarmedH s.vm) (S : xc_Fix p m c cc nL s "SealTrust$Key") (hP : va_P G.2.1 cl_all ws H) (q0 : Nat) (he : ws[q0]? = some (a, .inr (1, fs))) (hv : fs[7]? = some v) (hdg : decode cc pc = .ok (.getfield 18, 3)) (k : W p l e R s m args below meth c H locs cells slots Q (F0 m (pc + 3) ls (v :: rest))) : W p l e R s m args below meth c H locs cells slots Q (F0 m pc ls (.ref a :: rest)) :=
  va_get (D := G.2.1) (C := "SealTrust$Key") (T := T_KE) (N := 11) S.1 S.2.1 (xg_t hg hw args) in_KE S.2.2.2 (xg_k hg hw) hP q0 he rfl 7 (by decide) (xg_w hg hw wd_266 rfl args) (fun _ h => h) hv hdg k
theorem gf_KE_22 (hg : xg_F G) (hw : G.1.WarmedH s.vm) (S : xc_Fix p m c cc nL s "SealTrust$Key") (hP : va_P G.2.1 cl_all ws H) (q0 : Nat) (he : ws[q0]? = some (a, .inr (1, fs))) (hv : fs[8]? = some v) (hdg : decode cc pc = .ok (.getfield 22, 3)) (k : W p l e R s m args below meth c H locs cells slots Q (F0 m (pc + 3) ls (v :: rest))) : W p l e R s m args below meth c H locs cells slots Q (F0 m pc ls (.ref a :: rest)) :=
  va_get (D := G.2.1) (C := "SealTrust$Key") (T := T_KE) (N := 11) S.1 S.2.1 (xg_t hg hw args) in_KE S.2.2.2 (xg_k hg hw) hP q0 he rfl 8 (by decide) (xg_w hg hw wd_267 rfl args) (fun _ h => h) hv hdg k
theorem pf_KE_25 (hg : xg_F G) (hw : G.1.WarmedH s.vm) (S : xc_Fix p m c cc nL s "SealTrust$Key") (hP : va_P G.2.1 cl_all ws H) (hD : va_D A ws) (hS : va_S A H0 H locs) (q0 : Nat) (he : ws[q0]? = some (a, .inr (1, fs))) (hn : narrow (.long) v = v) (hfit : fits (.long) v = true) (hl : 9 < fs.length) (hdg : decode cc pc = .ok (.putfield 25, 3)) (k : ∀ (H1 : Heap) (locs1 : List Loc), va_P G.2.1 cl_all (ws.set q0 (a, .inr (1, fs.set 9 v))) H1 → va_D A (ws.set q0 (a, .inr (1, fs.set 9 v))) → va_S A H0 H1 locs1 → W p l e R s m args below meth c H1 locs1 cells slots Q (F0 m (pc + 3) ls rest)) : W p l e R s m args below meth c H locs cells slots Q (F0 m pc ls (v :: .ref a :: rest)) :=
  va_put (D := G.2.1) (C := "SealTrust$Key") (T := T_KE) (N := 11) (ty := .long) S.1 S.2.1 (xg_t hg hw args) in_KE t_KE o_KE n_KE S.2.2.2 (xg_k hg hw) hP hD hS q0 he rfl 9 (by decide) (xg_w hg hw wd_268 rfl args) (fun _ h => h) rfl (by decide +kernel) hn hfit hl hdg k
theorem kc_KE_28 (hg : xg_F G) (hw : G.1.WarmedH s.vm) (S : xc_Fix p m c cc nL s "SealTrust$Key") (hdg : decode cc pc = .ok (.ldc2_w 28, 3)) (k : W p l e R s m args below meth c H locs cells slots Q (F0 m (pc + 3) ls (.long 2 :: rest))) : W p l e R s m args below meth c H locs cells slots Q (F0 m pc ls rest) :=
  lv_ldc2 S.1 S.2.1 S.2.2.2 (xg_w hg hw wd_269 rfl args) hdg k
theorem pf_KE_30 (hg : xg_F G) (hw : G.1.WarmedH s.vm) (S : xc_Fix p m c cc nL s "SealTrust$Key") (hP : va_P G.2.1 cl_all ws H) (hD : va_D A ws) (hS : va_S A H0 H locs) (q0 : Nat) (he : ws[q0]? = some (a, .inr (1, fs))) (hn : narrow (.long) v = v) (hfit : fits (.long) v = true) (hl : 10 < fs.length) (hdg : decode cc pc = .ok (.putfield 30, 3)) (k : ∀ (H1 : Heap) (locs1 : List Loc), va_P G.2.1 cl_all (ws.set q0 (a, .inr (1, fs.set 10 v))) H1 → va_D A (ws.set q0 (a, .inr (1, fs.set 10 v))) → va_S A H0 H1 locs1 → W p l e R s m args below meth c H1 locs1 cells slots Q (F0 m (pc + 3) ls rest)) : W p l e R s m args below meth c H locs cells slots Q (F0 m pc ls (v :: .ref a :: rest)) :=
  va_put (D := G.2.1) (C := "SealTrust$Key") (T := T_KE) (N := 11) (ty := .long) S.1 S.2.1 (xg_t hg hw args) in_KE t_KE o_KE n_KE S.2.2.2 (xg_k hg hw) hP hD hS q0 he rfl 10 (by decide) (xg_w hg hw wd_270 rfl args) (fun _ h => h) rfl (by decide +kernel) hn hfit hl hdg k
theorem kc_KE_33 (hg : xg_F G) (hw : G.1.WarmedH s.vm) (S : xc_Fix p m c cc nL s "SealTrust$Key") (hdg : decode cc pc = .ok (.ldc2_w 33, 3)) (k : W p l e R s m args below meth c H locs cells slots Q (F0 m (pc + 3) ls (.long 65537 :: rest))) : W p l e R s m args below meth c H locs cells slots Q (F0 m pc ls rest) :=
  lv_ldc2 S.1 S.2.1 S.2.2.2 (xg_w hg hw wd_271 rfl args) hdg k
theorem gf_KE_30 (hg : xg_F G) (hw : G.1.WarmedH s.vm) (S : xc_Fix p m c cc nL s "SealTrust$Key") (hP : va_P G.2.1 cl_all ws H) (q0 : Nat) (he : ws[q0]? = some (a, .inr (1, fs))) (hv : fs[10]? = some v) (hdg : decode cc pc = .ok (.getfield 30, 3)) (k : W p l e R s m args below meth c H locs cells slots Q (F0 m (pc + 3) ls (v :: rest))) : W p l e R s m args below meth c H locs cells slots Q (F0 m pc ls (.ref a :: rest)) :=
  va_get (D := G.2.1) (C := "SealTrust$Key") (T := T_KE) (N := 11) S.1 S.2.1 (xg_t hg hw args) in_KE S.2.2.2 (xg_k hg hw) hP q0 he rfl 10 (by decide) (xg_w hg hw wd_270 rfl args) (fun _ h => h) hv hdg k
theorem si_KE_35 : xg_siteSN "SealTrust$Key" 35 y_ST_powerModulo "SealTrust" b_ST_powerModulo 13 (some .long) 3 := ⟨wd_274, wd_272, wd_18, wd_273, ⟨by decide +kernel, by decide +kernel⟩, by decide +kernel⟩
theorem pf_KE_39 (hg : xg_F G) (hw : G.1.WarmedH s.vm) (S : xc_Fix p m c cc nL s "SealTrust$Key") (hP : va_P G.2.1 cl_all ws H) (hD : va_D A ws) (hS : va_S A H0 H locs) (q0 : Nat) (he : ws[q0]? = some (a, .inr (1, fs))) (hn : narrow (.long) v = v) (hfit : fits (.long) v = true) (hl : 6 < fs.length) (hdg : decode cc pc = .ok (.putfield 39, 3)) (k : ∀ (H1 : Heap) (locs1 : List Loc), va_P G.2.1 cl_all (ws.set q0 (a, .inr (1, fs.set 6 v))) H1 → va_D A (ws.set q0 (a, .inr (1, fs.set 6 v))) → va_S A H0 H1 locs1 → W p l e R s m args below meth c H1 locs1 cells slots Q (F0 m (pc + 3) ls rest)) : W p l e R s m args below meth c H locs cells slots Q (F0 m pc ls (v :: .ref a :: rest)) :=
  va_put (D := G.2.1) (C := "SealTrust$Key") (T := T_KE) (N := 11) (ty := .long) S.1 S.2.1 (xg_t hg hw args) in_KE t_KE o_KE n_KE S.2.2.2 (xg_k hg hw) hP hD hS q0 he rfl 6 (by decide) (xg_w hg hw wd_275 rfl args) (fun _ h => h) rfl (by decide +kernel) hn hfit hl hdg k
theorem gf_KE_39 (hg : xg_F G) (hw : G.1.WarmedH s.vm) (S : xc_Fix p m c cc nL s "SealTrust$Key") (hP : va_P G.2.1 cl_all ws H) (q0 : Nat) (he : ws[q0]? = some (a, .inr (1, fs))) (hv : fs[6]? = some v) (hdg : decode cc pc = .ok (.getfield 39, 3)) (k : W p l e R s m args below meth c H locs cells slots Q (F0 m (pc + 3) ls (v :: rest))) : W p l e R s m args below meth c H locs cells slots Q (F0 m pc ls (.ref a :: rest)) :=
  va_get (D := G.2.1) (C := "SealTrust$Key") (T := T_KE) (N := 11) S.1 S.2.1 (xg_t hg hw args) in_KE S.2.2.2 (xg_k hg hw) hP q0 he rfl 6 (by decide) (xg_w hg hw wd_275 rfl args) (fun _ h => h) hv hdg k
theorem si_KE_42 : xg_siteSN "SealTrust$Key" 42 y_ST_rest "SealTrust" b_ST_rest 6 (some .long) 2 := ⟨wd_276, wd_149, wd_18, wd_150, ⟨by decide +kernel, by decide +kernel⟩, by decide +kernel⟩
theorem pf_KE_46 (hg : xg_F G) (hw : G.1.WarmedH s.vm) (S : xc_Fix p m c cc nL s "SealTrust$Key") (hP : va_P G.2.1 cl_all ws H) (hD : va_D A ws) (hS : va_S A H0 H locs) (q0 : Nat) (he : ws[q0]? = some (a, .inr (1, fs))) (hn : narrow (.long) v = v) (hfit : fits (.long) v = true) (hl : 5 < fs.length) (hdg : decode cc pc = .ok (.putfield 46, 3)) (k : ∀ (H1 : Heap) (locs1 : List Loc), va_P G.2.1 cl_all (ws.set q0 (a, .inr (1, fs.set 5 v))) H1 → va_D A (ws.set q0 (a, .inr (1, fs.set 5 v))) → va_S A H0 H1 locs1 → W p l e R s m args below meth c H1 locs1 cells slots Q (F0 m (pc + 3) ls rest)) : W p l e R s m args below meth c H locs cells slots Q (F0 m pc ls (v :: .ref a :: rest)) :=
  va_put (D := G.2.1) (C := "SealTrust$Key") (T := T_KE) (N := 11) (ty := .long) S.1 S.2.1 (xg_t hg hw args) in_KE t_KE o_KE n_KE S.2.2.2 (xg_k hg hw) hP hD hS q0 he rfl 5 (by decide) (xg_w hg hw wd_277 rfl args) (fun _ h => h) rfl (by decide +kernel) hn hfit hl hdg k
theorem gf_KE_25 (hg : xg_F G) (hw : G.1.WarmedH s.vm) (S : xc_Fix p m c cc nL s "SealTrust$Key") (hP : va_P G.2.1 cl_all ws H) (q0 : Nat) (he : ws[q0]? = some (a, .inr (1, fs))) (hv : fs[9]? = some v) (hdg : decode cc pc = .ok (.getfield 25, 3)) (k : W p l e R s m args below meth c H locs cells slots Q (F0 m (pc + 3) ls (v :: rest))) : W p l e R s m args below meth c H locs cells slots Q (F0 m pc ls (.ref a :: rest)) :=
  va_get (D := G.2.1) (C := "SealTrust$Key") (T := T_KE) (N := 11) S.1 S.2.1 (xg_t hg hw args) in_KE S.2.2.2 (xg_k hg hw) hP q0 he rfl 9 (by decide) (xg_w hg hw wd_268 rfl args) (fun _ h => h) hv hdg k
theorem pf_KE_49 (hg : xg_F G) (hw : G.1.WarmedH s.vm) (S : xc_Fix p m c cc nL s "SealTrust$Key") (hP : va_P G.2.1 cl_all ws H) (hD : va_D A ws) (hS : va_S A H0 H locs) (q0 : Nat) (he : ws[q0]? = some (a, .inr (1, fs))) (hn : narrow (.long) v = v) (hfit : fits (.long) v = true) (hl : 4 < fs.length) (hdg : decode cc pc = .ok (.putfield 49, 3)) (k : ∀ (H1 : Heap) (locs1 : List Loc), va_P G.2.1 cl_all (ws.set q0 (a, .inr (1, fs.set 4 v))) H1 → va_D A (ws.set q0 (a, .inr (1, fs.set 4 v))) → va_S A H0 H1 locs1 → W p l e R s m args below meth c H1 locs1 cells slots Q (F0 m (pc + 3) ls rest)) : W p l e R s m args below meth c H locs cells slots Q (F0 m pc ls (v :: .ref a :: rest)) :=
  va_put (D := G.2.1) (C := "SealTrust$Key") (T := T_KE) (N := 11) (ty := .long) S.1 S.2.1 (xg_t hg hw args) in_KE t_KE o_KE n_KE S.2.2.2 (xg_k hg hw) hP hD hS q0 he rfl 4 (by decide) (xg_w hg hw wd_278 rfl args) (fun _ h => h) rfl (by decide +kernel) hn hfit hl hdg k
theorem pf_KE_52 (hg : xg_F G) (hw : G.1.WarmedH s.vm) (S : xc_Fix p m c cc nL s "SealTrust$Key") (hP : va_P G.2.1 cl_all ws H) (hD : va_D A ws) (hS : va_S A H0 H locs) (q0 : Nat) (he : ws[q0]? = some (a, .inr (1, fs))) (hn : narrow (.long) v = v) (hfit : fits (.long) v = true) (hl : 3 < fs.length) (hdg : decode cc pc = .ok (.putfield 52, 3)) (k : ∀ (H1 : Heap) (locs1 : List Loc), va_P G.2.1 cl_all (ws.set q0 (a, .inr (1, fs.set 3 v))) H1 → va_D A (ws.set q0 (a, .inr (1, fs.set 3 v))) → va_S A H0 H1 locs1 → W p l e R s m args below meth c H1 locs1 cells slots Q (F0 m (pc + 3) ls rest)) : W p l e R s m args below meth c H locs cells slots Q (F0 m pc ls (v :: .ref a :: rest)) :=
  va_put (D := G.2.1) (C := "SealTrust$Key") (T := T_KE) (N := 11) (ty := .long) S.1 S.2.1 (xg_t hg hw args) in_KE t_KE o_KE n_KE S.2.2.2 (xg_k hg hw) hP hD hS q0 he rfl 3 (by decide) (xg_w hg hw wd_279 rfl args) (fun _ h => h) rfl (by decide +kernel) hn hfit hl hdg k
theorem pf_KE_55 (hg : xg_F G) (hw : G.1.WarmedH s.vm) (S : xc_Fix p m c cc nL s "SealTrust$Key") (hP : va_P G.2.1 cl_all ws H) (hD : va_D A ws) (hS : va_S A H0 H locs) (q0 : Nat) (he : ws[q0]? = some (a, .inr (1, fs))) (hn : narrow (.boolean) v = v) (hfit : fits (.boolean) v = true) (hl : 2 < fs.length) (hdg : decode cc pc = .ok (.putfield 55, 3)) (k : ∀ (H1 : Heap) (locs1 : List Loc), va_P G.2.1 cl_all (ws.set q0 (a, .inr (1, fs.set 2 v))) H1 → va_D A (ws.set q0 (a, .inr (1, fs.set 2 v))) → va_S A H0 H1 locs1 → W p l e R s m args below meth c H1 locs1 cells slots Q (F0 m (pc + 3) ls rest)) : W p l e R s m args below meth c H locs cells slots Q (F0 m pc ls (v :: .ref a :: rest)) :=
  va_put (D := G.2.1) (C := "SealTrust$Key") (T := T_KE) (N := 11) (ty := .boolean) S.1 S.2.1 (xg_t hg hw args) in_KE t_KE o_KE n_KE S.2.2.2 (xg_k hg hw) hP hD hS q0 he rfl 2 (by decide) (xg_w hg hw wd_280 rfl args) (fun _ h => h) rfl (by decide +kernel) hn hfit hl hdg k
theorem gf_KE_9 (hg : xg_F G) (hw : G.1.WarmedH s.vm) (S : xc_Fix p m c cc nL s "SealTrust$Key") (hP : va_P G.2.1 cl_all ws H) (q0 : Nat) (he : ws[q0]? = some (a, .inr (1, fs))) (hv : fs[0]? = some v) (hdg : decode cc pc = .ok (.getfield 9, 3)) (k : W p l e R s m args below meth c H locs cells slots Q (F0 m (pc + 3) ls (v :: rest))) : W p l e R s m args below meth c H locs cells slots Q (F0 m pc ls (.ref a :: rest)) :=
  va_get (D := G.2.1) (C := "SealTrust$Key") (T := T_KE) (N := 11) S.1 S.2.1 (xg_t hg hw args) in_KE S.2.2.2 (xg_k hg hw) hP q0 he rfl 0 (by decide) (xg_w hg hw wd_264 rfl args) (fun _ h => h) hv hdg k
theorem gf_KE_46 (hg : xg_F G) (hw : G.1.WarmedH s.vm) (S : xc_Fix p m c cc nL s "SealTrust$Key") (hP : va_P G.2.1 cl_all ws H) (q0 : Nat) (he : ws[q0]? = some (a, .inr (1, fs))) (hv : fs[5]? = some v) (hdg : decode cc pc = .ok (.getfield 46, 3)) (k : W p l e R s m args below meth c H locs cells slots Q (F0 m (pc + 3) ls (v :: rest))) : W p l e R s m args below meth c H locs cells slots Q (F0 m pc ls (.ref a :: rest)) :=
  va_get (D := G.2.1) (C := "SealTrust$Key") (T := T_KE) (N := 11) S.1 S.2.1 (xg_t hg hw args) in_KE S.2.2.2 (xg_k hg hw) hP q0 he rfl 5 (by decide) (xg_w hg hw wd_277 rfl args) (fun _ h => h) hv hdg k
theorem gf_KE_15 (hg : xg_F G) (hw : G.1.WarmedH s.vm) (S : xc_Fix p m c cc nL s "SealTrust$Key") (hP : va_P G.2.1 cl_all ws H) (q0 : Nat) (he : ws[q0]? = some (a, .inr (1, fs))) (hv : fs[1]? = some v) (hdg : decode cc pc = .ok (.getfield 15, 3)) (k : W p l e R s m args below meth c H locs cells slots Q (F0 m (pc + 3) ls (v :: rest))) : W p l e R s m args below meth c H locs cells slots Q (F0 m pc ls (.ref a :: rest)) :=
  va_get (D := G.2.1) (C := "SealTrust$Key") (T := T_KE) (N := 11) S.1 S.2.1 (xg_t hg hw args) in_KE S.2.2.2 (xg_k hg hw) hP q0 he rfl 1 (by decide) (xg_w hg hw wd_265 rfl args) (fun _ h => h) hv hdg k
theorem gf_KE_49 (hg : xg_F G) (hw : G.1.WarmedH s.vm) (S : xc_Fix p m c cc nL s "SealTrust$Key") (hP : va_P G.2.1 cl_all ws H) (q0 : Nat) (he : ws[q0]? = some (a, .inr (1, fs))) (hv : fs[4]? = some v) (hdg : decode cc pc = .ok (.getfield 49, 3)) (k : W p l e R s m args below meth c H locs cells slots Q (F0 m (pc + 3) ls (v :: rest))) : W p l e R s m args below meth c H locs cells slots Q (F0 m pc ls (.ref a :: rest)) :=
  va_get (D := G.2.1) (C := "SealTrust$Key") (T := T_KE) (N := 11) S.1 S.2.1 (xg_t hg hw args) in_KE S.2.2.2 (xg_k hg hw) hP q0 he rfl 4 (by decide) (xg_w hg hw wd_278 rfl args) (fun _ h => h) hv hdg k
theorem si_KE_59 : xg_siteV "SealTrust$Key" 59 y_KE_power b_KE_power 5 (some .long) 2 := ⟨wd_281, wd_282, wd_283, wd_3, wd_284, ⟨by decide +kernel, by decide +kernel⟩, by decide +kernel⟩
theorem si_KE_62 : xg_siteV "SealTrust$Key" 62 y_BU_mix b_BU_mix 4 (some .long) 0 := ⟨wd_285, wd_286, wd_287, wd_8, wd_288, ⟨by decide +kernel, by decide +kernel⟩, by decide +kernel⟩
theorem kc_KE_68 (hg : xg_F G) (hw : G.1.WarmedH s.vm) (S : xc_Fix p m c cc nL s "SealTrust$Key") (hdg : decode cc pc = .ok (.ldc2_w 68, 3)) (k : W p l e R s m args below meth c H locs cells slots Q (F0 m (pc + 3) ls (.long 3 :: rest))) : W p l e R s m args below meth c H locs cells slots Q (F0 m pc ls rest) :=
  lv_ldc2 S.1 S.2.1 S.2.2.2 (xg_w hg hw wd_289 rfl args) hdg k
theorem si_KE_70 : xg_siteV "SealTrust$Key" 70 y_KE_isBelowModulus b_KE_isBelowModulus 3 (some .boolean) 1 := ⟨wd_290, wd_291, wd_292, wd_3, wd_293, ⟨by decide +kernel, by decide +kernel⟩, by decide +kernel⟩
theorem gf_KE_74 (hg : xg_F G) (hw : G.1.WarmedH s.vm) (S : xc_Fix p m c cc nL s "SealTrust$Key") (hP : va_P G.2.1 cl_all ws H) (q0 : Nat) (he : ws[q0]? = some (a, .inr (2, fs))) (hv : fs[4]? = some v) (hdg : decode cc pc = .ok (.getfield 74, 3)) (k : W p l e R s m args below meth c H locs cells slots Q (F0 m (pc + 3) ls (v :: rest))) : W p l e R s m args below meth c H locs cells slots Q (F0 m pc ls (.ref a :: rest)) :=
  va_getN (D := G.2.1) (C := "SealTrust$Motion") (T := T_MO) (N := 8) S.1 S.2.1 (xg_t hg hw args) in_MO S.2.2.2 (xg_k hg hw) hP q0 he rfl 4 (by decide) (xg_w hg hw wd_294 rfl args) (fun _ h => h) hv hdg k
theorem kc_KE_79 (hg : xg_F G) (hw : G.1.WarmedH s.vm) (S : xc_Fix p m c cc nL s "SealTrust$Key") (hdg : decode cc pc = .ok (.ldc2_w 79, 3)) (k : W p l e R s m args below meth c H locs cells slots Q (F0 m (pc + 3) ls (.long 7 :: rest))) : W p l e R s m args below meth c H locs cells slots Q (F0 m pc ls rest) :=
  lv_ldc2 S.1 S.2.1 S.2.2.2 (xg_w hg hw wd_295 rfl args) hdg k
theorem si_KE_81 : xg_siteSN "SealTrust$Key" 81 y_ST_mixIn "SealTrust" b_ST_mixIn 4 (some .long) 2 := ⟨wd_296, wd_258, wd_18, wd_259, ⟨by decide +kernel, by decide +kernel⟩, by decide +kernel⟩
theorem gf_KE_52 (hg : xg_F G) (hw : G.1.WarmedH s.vm) (S : xc_Fix p m c cc nL s "SealTrust$Key") (hP : va_P G.2.1 cl_all ws H) (q0 : Nat) (he : ws[q0]? = some (a, .inr (1, fs))) (hv : fs[3]? = some v) (hdg : decode cc pc = .ok (.getfield 52, 3)) (k : W p l e R s m args below meth c H locs cells slots Q (F0 m (pc + 3) ls (v :: rest))) : W p l e R s m args below meth c H locs cells slots Q (F0 m pc ls (.ref a :: rest)) :=
  va_get (D := G.2.1) (C := "SealTrust$Key") (T := T_KE) (N := 11) S.1 S.2.1 (xg_t hg hw args) in_KE S.2.2.2 (xg_k hg hw) hP q0 he rfl 3 (by decide) (xg_w hg hw wd_279 rfl args) (fun _ h => h) hv hdg k
theorem si_KE_84 : xg_siteSN "SealTrust$Key" 84 y_ST_mixOf "SealTrust" b_ST_mixOf 2 (some .long) 1 := ⟨wd_297, wd_261, wd_18, wd_262, ⟨by decide +kernel, by decide +kernel⟩, by decide +kernel⟩
theorem kc_KE_88 (hg : xg_F G) (hw : G.1.WarmedH s.vm) (S : xc_Fix p m c cc nL s "SealTrust$Key") (hdg : decode cc pc = .ok (.ldc2_w 88, 3)) (k : W p l e R s m args below meth c H locs cells slots Q (F0 m (pc + 3) ls (.long 1440 :: rest))) : W p l e R s m args below meth c H locs cells slots Q (F0 m pc ls rest) :=
  lv_ldc2 S.1 S.2.1 S.2.2.2 (xg_w hg hw wd_298 rfl args) hdg k
theorem kc_KE_90 (hg : xg_F G) (hw : G.1.WarmedH s.vm) (S : xc_Fix p m c cc nL s "SealTrust$Key") (hdg : decode cc pc = .ok (.ldc2_w 90, 3)) (k : W p l e R s m args below meth c H locs cells slots Q (F0 m (pc + 3) ls (.long 2880 :: rest))) : W p l e R s m args below meth c H locs cells slots Q (F0 m pc ls rest) :=
  lv_ldc2 S.1 S.2.1 S.2.2.2 (xg_w hg hw wd_299 rfl args) hdg k
theorem si_KE_92 : xg_siteV "SealTrust$Key" 92 y_KE_times b_KE_times 5 (some .long) 2 := ⟨wd_300, wd_301, wd_302, wd_3, wd_303, ⟨by decide +kernel, by decide +kernel⟩, by decide +kernel⟩
theorem si_KE_95 : xg_siteV "SealTrust$Key" 95 y_KE_challenge b_KE_challenge 12 (some .int) 5 := ⟨wd_304, wd_305, wd_306, wd_3, wd_307, ⟨by decide +kernel, by decide +kernel⟩, by decide +kernel⟩
theorem si_KE_99 : xg_siteV "SealTrust$Key" 99 y_MO_takePartial b_MO_takePartial 7 none 4 := ⟨wd_308, wd_86, wd_87, wd_14, wd_88, ⟨by decide +kernel, by decide +kernel⟩, by decide +kernel⟩
theorem gf_KE_103 (hg : xg_F G) (hw : G.1.WarmedH s.vm) (S : xc_Fix p m c cc nL s "SealTrust$Key") (hP : va_P G.2.1 cl_all ws H) (q0 : Nat) (he : ws[q0]? = some (a, .inr (2, fs))) (hv : fs[0]? = some v) (hdg : decode cc pc = .ok (.getfield 103, 3)) (k : W p l e R s m args below meth c H locs cells slots Q (F0 m (pc + 3) ls (v :: rest))) : W p l e R s m args below meth c H locs cells slots Q (F0 m pc ls (.ref a :: rest)) :=
  va_getN (D := G.2.1) (C := "SealTrust$Motion") (T := T_MO) (N := 8) S.1 S.2.1 (xg_t hg hw args) in_MO S.2.2.2 (xg_k hg hw) hP q0 he rfl 0 (by decide) (xg_w hg hw wd_309 rfl args) (fun _ h => h) hv hdg k
theorem gf_KE_106 (hg : xg_F G) (hw : G.1.WarmedH s.vm) (S : xc_Fix p m c cc nL s "SealTrust$Key") (hP : va_P G.2.1 cl_all ws H) (q0 : Nat) (he : ws[q0]? = some (a, .inr (2, fs))) (hv : fs[1]? = some v) (hdg : decode cc pc = .ok (.getfield 106, 3)) (k : W p l e R s m args below meth c H locs cells slots Q (F0 m (pc + 3) ls (v :: rest))) : W p l e R s m args below meth c H locs cells slots Q (F0 m pc ls (.ref a :: rest)) :=
  va_getN (D := G.2.1) (C := "SealTrust$Motion") (T := T_MO) (N := 8) S.1 S.2.1 (xg_t hg hw args) in_MO S.2.2.2 (xg_k hg hw) hP q0 he rfl 1 (by decide) (xg_w hg hw wd_310 rfl args) (fun _ h => h) hv hdg k
theorem gf_KE_110 (hg : xg_F G) (hw : G.1.WarmedH s.vm) (S : xc_Fix p m c cc nL s "SealTrust$Key") (hP : va_P G.2.1 cl_all ws H) (q0 : Nat) (he : ws[q0]? = some (a, .inr (2, fs))) (hv : fs[2]? = some v) (hdg : decode cc pc = .ok (.getfield 110, 3)) (k : W p l e R s m args below meth c H locs cells slots Q (F0 m (pc + 3) ls (v :: rest))) : W p l e R s m args below meth c H locs cells slots Q (F0 m pc ls (.ref a :: rest)) :=
  va_getN (D := G.2.1) (C := "SealTrust$Motion") (T := T_MO) (N := 8) S.1 S.2.1 (xg_t hg hw args) in_MO S.2.2.2 (xg_k hg hw) hP q0 he rfl 2 (by decide) (xg_w hg hw wd_311 rfl args) (fun _ h => h) hv hdg k
theorem kc_KE_113 (hg : xg_F G) (hw : G.1.WarmedH s.vm) (S : xc_Fix p m c cc nL s "SealTrust$Key") (hdg : decode cc pc = .ok (.ldc 113, 2)) (k : W p l e R s m args below meth c H locs cells slots Q (F0 m (pc + 2) ls (.int 65535 :: rest))) : W p l e R s m args below meth c H locs cells slots Q (F0 m pc ls rest) :=
  lv_ldc S.1 S.2.1 S.2.2.2 (xg_w hg hw wd_312 rfl args) hdg k
theorem si_KE_114 : xg_siteV "SealTrust$Key" 114 y_KE_isPrimeToModulus b_KE_isPrimeToModulus 3 (some .boolean) 1 := ⟨wd_313, wd_99, wd_100, wd_3, wd_101, ⟨by decide +kernel, by decide +kernel⟩, by decide +kernel⟩
theorem si_KE_117 : xg_siteV "SealTrust$Key" 117 y_KE_inversePower b_KE_inversePower 5 (some .long) 2 := ⟨wd_314, wd_315, wd_316, wd_3, wd_317, ⟨by decide +kernel, by decide +kernel⟩, by decide +kernel⟩
theorem si_KE_120 : xg_siteSN "SealTrust$Key" 120 y_ST_isIn "SealTrust" b_ST_isIn 2 (some .boolean) 2 := ⟨wd_318, wd_73, wd_18, wd_74, ⟨by decide +kernel, by decide +kernel⟩, by decide +kernel⟩
theorem si_KE_124 : xg_siteS "SealTrust$Key" 124 y_KE_weight b_KE_weight 7 (some .long) 2 := ⟨wd_321, wd_319, wd_3, wd_320, ⟨by decide +kernel, by decide +kernel⟩, by decide +kernel⟩
theorem kc_KE_128 (hg : xg_F G) (hw : G.1.WarmedH s.vm) (S : xc_Fix p m c cc nL s "SealTrust$Key") (hdg : decode cc pc = .ok (.ldc2_w 128, 3)) (k : W p l e R s m args below meth c H locs cells slots Q (F0 m (pc + 3) ls (.long 720 :: rest))) : W p l e R s m args below meth c H locs cells slots Q (F0 m pc ls rest) :=
  lv_ldc2 S.1 S.2.1 S.2.2.2 (xg_w hg hw wd_322 rfl args) hdg k
theorem pf_MO_9 (hg : xg_F G) (hw : G.1.WarmedH s.vm) (S : xc_Fix p m c cc nL s "SealTrust$Motion") (hP : va_P G.2.1 cl_all ws H) (hD : va_D A ws) (hS : va_S A H0 H locs) (q0 : Nat) (he : ws[q0]? = some (a, .inr (2, fs))) (hin : meth.name = "<init>") (hn : narrow (.array .long) v = v) (hfit : fits (.array .long) v = true) (hl : 0 < fs.length) (hdg : decode cc pc = .ok (.putfield 9, 3)) (k : ∀ (H1 : Heap) (locs1 : List Loc), va_P G.2.1 cl_all (ws.set q0 (a, .inr (2, fs.set 0 v))) H1 → va_D A (ws.set q0 (a, .inr (2, fs.set 0 v))) → va_S A H0 H1 locs1 → W p l e R s m args below meth c H1 locs1 cells slots Q (F0 m (pc + 3) ls rest)) : W p l e R s m args below meth c H locs cells slots Q (F0 m pc ls (v :: .ref a :: rest)) :=
  va_putF (D := G.2.1) (C := "SealTrust$Motion") (T := T_MO) (N := 8) (ty := .array .long) S.1 S.2.1 (xg_t hg hw args) in_MO t_MO o_MO n_MO S.2.2.2 (xg_k hg hw) hP hD hS q0 he rfl 0 (by decide) (xg_w hg hw wd_323 rfl args) (fun _ h => h) rfl hin rfl (by decide +kernel) hn hfit hl hdg k
theorem pf_MO_15 (hg : xg_F G) (hw : G.1.WarmedH s.vm) (S : xc_Fix p m c cc nL s "SealTrust$Motion") (hP : va_P G.2.1 cl_all ws H) (hD : va_D A ws) (hS : va_S A H0 H locs) (q0 : Nat) (he : ws[q0]? = some (a, .inr (2, fs))) (hin : meth.name = "<init>") (hn : narrow (.array .int) v = v) (hfit : fits (.array .int) v = true) (hl : 1 < fs.length) (hdg : decode cc pc = .ok (.putfield 15, 3)) (k : ∀ (H1 : Heap) (locs1 : List Loc), va_P G.2.1 cl_all (ws.set q0 (a, .inr (2, fs.set 1 v))) H1 → va_D A (ws.set q0 (a, .inr (2, fs.set 1 v))) → va_S A H0 H1 locs1 → W p l e R s m args below meth c H1 locs1 cells slots Q (F0 m (pc + 3) ls rest)) : W p l e R s m args below meth c H locs cells slots Q (F0 m pc ls (v :: .ref a :: rest)) :=
  va_putF (D := G.2.1) (C := "SealTrust$Motion") (T := T_MO) (N := 8) (ty := .array .int) S.1 S.2.1 (xg_t hg hw args) in_MO t_MO o_MO n_MO S.2.2.2 (xg_k hg hw) hP hD hS q0 he rfl 1 (by decide) (xg_w hg hw wd_324 rfl args) (fun _ h => h) rfl hin rfl (by decide +kernel) hn hfit hl hdg k
theorem pf_MO_19 (hg : xg_F G) (hw : G.1.WarmedH s.vm) (S : xc_Fix p m c cc nL s "SealTrust$Motion") (hP : va_P G.2.1 cl_all ws H) (hD : va_D A ws) (hS : va_S A H0 H locs) (q0 : Nat) (he : ws[q0]? = some (a, .inr (2, fs))) (hin : meth.name = "<init>") (hn : narrow (.array .long) v = v) (hfit : fits (.array .long) v = true) (hl : 2 < fs.length) (hdg : decode cc pc = .ok (.putfield 19, 3)) (k : ∀ (H1 : Heap) (locs1 : List Loc), va_P G.2.1 cl_all (ws.set q0 (a, .inr (2, fs.set 2 v))) H1 → va_D A (ws.set q0 (a, .inr (2, fs.set 2 v))) → va_S A H0 H1 locs1 → W p l e R s m args below meth c H1 locs1 cells slots Q (F0 m (pc + 3) ls rest)) : W p l e R s m args below meth c H locs cells slots Q (F0 m pc ls (v :: .ref a :: rest)) :=
  va_putF (D := G.2.1) (C := "SealTrust$Motion") (T := T_MO) (N := 8) (ty := .array .long) S.1 S.2.1 (xg_t hg hw args) in_MO t_MO o_MO n_MO S.2.2.2 (xg_k hg hw) hP hD hS q0 he rfl 2 (by decide) (xg_w hg hw wd_325 rfl args) (fun _ h => h) rfl hin rfl (by decide +kernel) hn hfit hl hdg k
theorem pf_MO_22 (hg : xg_F G) (hw : G.1.WarmedH s.vm) (S : xc_Fix p m c cc nL s "SealTrust$Motion") (hP : va_P G.2.1 cl_all ws H) (hD : va_D A ws) (hS : va_S A H0 H locs) (q0 : Nat) (he : ws[q0]? = some (a, .inr (2, fs))) (hn : narrow (.int) v = v) (hfit : fits (.int) v = true) (hl : 3 < fs.length) (hdg : decode cc pc = .ok (.putfield 22, 3)) (k : ∀ (H1 : Heap) (locs1 : List Loc), va_P G.2.1 cl_all (ws.set q0 (a, .inr (2, fs.set 3 v))) H1 → va_D A (ws.set q0 (a, .inr (2, fs.set 3 v))) → va_S A H0 H1 locs1 → W p l e R s m args below meth c H1 locs1 cells slots Q (F0 m (pc + 3) ls rest)) : W p l e R s m args below meth c H locs cells slots Q (F0 m pc ls (v :: .ref a :: rest)) :=
  va_put (D := G.2.1) (C := "SealTrust$Motion") (T := T_MO) (N := 8) (ty := .int) S.1 S.2.1 (xg_t hg hw args) in_MO t_MO o_MO n_MO S.2.2.2 (xg_k hg hw) hP hD hS q0 he rfl 3 (by decide) (xg_w hg hw wd_326 rfl args) (fun _ h => h) rfl (by decide +kernel) hn hfit hl hdg k
theorem pf_MO_26 (hg : xg_F G) (hw : G.1.WarmedH s.vm) (S : xc_Fix p m c cc nL s "SealTrust$Motion") (hP : va_P G.2.1 cl_all ws H) (hD : va_D A ws) (hS : va_S A H0 H locs) (q0 : Nat) (he : ws[q0]? = some (a, .inr (2, fs))) (hn : narrow (.long) v = v) (hfit : fits (.long) v = true) (hl : 4 < fs.length) (hdg : decode cc pc = .ok (.putfield 26, 3)) (k : ∀ (H1 : Heap) (locs1 : List Loc), va_P G.2.1 cl_all (ws.set q0 (a, .inr (2, fs.set 4 v))) H1 → va_D A (ws.set q0 (a, .inr (2, fs.set 4 v))) → va_S A H0 H1 locs1 → W p l e R s m args below meth c H1 locs1 cells slots Q (F0 m (pc + 3) ls rest)) : W p l e R s m args below meth c H locs cells slots Q (F0 m pc ls (v :: .ref a :: rest)) :=
  va_put (D := G.2.1) (C := "SealTrust$Motion") (T := T_MO) (N := 8) (ty := .long) S.1 S.2.1 (xg_t hg hw args) in_MO t_MO o_MO n_MO S.2.2.2 (xg_k hg hw) hP hD hS q0 he rfl 4 (by decide) (xg_w hg hw wd_327 rfl args) (fun _ h => h) rfl (by decide +kernel) hn hfit hl hdg k
theorem pf_MO_30 (hg : xg_F G) (hw : G.1.WarmedH s.vm) (S : xc_Fix p m c cc nL s "SealTrust$Motion") (hP : va_P G.2.1 cl_all ws H) (hD : va_D A ws) (hS : va_S A H0 H locs) (q0 : Nat) (he : ws[q0]? = some (a, .inr (2, fs))) (hn : narrow (.int) v = v) (hfit : fits (.int) v = true) (hl : 5 < fs.length) (hdg : decode cc pc = .ok (.putfield 30, 3)) (k : ∀ (H1 : Heap) (locs1 : List Loc), va_P G.2.1 cl_all (ws.set q0 (a, .inr (2, fs.set 5 v))) H1 → va_D A (ws.set q0 (a, .inr (2, fs.set 5 v))) → va_S A H0 H1 locs1 → W p l e R s m args below meth c H1 locs1 cells slots Q (F0 m (pc + 3) ls rest)) : W p l e R s m args below meth c H locs cells slots Q (F0 m pc ls (v :: .ref a :: rest)) :=
  va_put (D := G.2.1) (C := "SealTrust$Motion") (T := T_MO) (N := 8) (ty := .int) S.1 S.2.1 (xg_t hg hw args) in_MO t_MO o_MO n_MO S.2.2.2 (xg_k hg hw) hP hD hS q0 he rfl 5 (by decide) (xg_w hg hw wd_328 rfl args) (fun _ h => h) rfl (by decide +kernel) hn hfit hl hdg k
theorem pf_MO_33 (hg : xg_F G) (hw : G.1.WarmedH s.vm) (S : xc_Fix p m c cc nL s "SealTrust$Motion") (hP : va_P G.2.1 cl_all ws H) (hD : va_D A ws) (hS : va_S A H0 H locs) (q0 : Nat) (he : ws[q0]? = some (a, .inr (2, fs))) (hn : narrow (.int) v = v) (hfit : fits (.int) v = true) (hl : 6 < fs.length) (hdg : decode cc pc = .ok (.putfield 33, 3)) (k : ∀ (H1 : Heap) (locs1 : List Loc), va_P G.2.1 cl_all (ws.set q0 (a, .inr (2, fs.set 6 v))) H1 → va_D A (ws.set q0 (a, .inr (2, fs.set 6 v))) → va_S A H0 H1 locs1 → W p l e R s m args below meth c H1 locs1 cells slots Q (F0 m (pc + 3) ls rest)) : W p l e R s m args below meth c H locs cells slots Q (F0 m pc ls (v :: .ref a :: rest)) :=
  va_put (D := G.2.1) (C := "SealTrust$Motion") (T := T_MO) (N := 8) (ty := .int) S.1 S.2.1 (xg_t hg hw args) in_MO t_MO o_MO n_MO S.2.2.2 (xg_k hg hw) hP hD hS q0 he rfl 6 (by decide) (xg_w hg hw wd_329 rfl args) (fun _ h => h) rfl (by decide +kernel) hn hfit hl hdg k
theorem pf_MO_36 (hg : xg_F G) (hw : G.1.WarmedH s.vm) (S : xc_Fix p m c cc nL s "SealTrust$Motion") (hP : va_P G.2.1 cl_all ws H) (hD : va_D A ws) (hS : va_S A H0 H locs) (q0 : Nat) (he : ws[q0]? = some (a, .inr (2, fs))) (hn : narrow (.long) v = v) (hfit : fits (.long) v = true) (hl : 7 < fs.length) (hdg : decode cc pc = .ok (.putfield 36, 3)) (k : ∀ (H1 : Heap) (locs1 : List Loc), va_P G.2.1 cl_all (ws.set q0 (a, .inr (2, fs.set 7 v))) H1 → va_D A (ws.set q0 (a, .inr (2, fs.set 7 v))) → va_S A H0 H1 locs1 → W p l e R s m args below meth c H1 locs1 cells slots Q (F0 m (pc + 3) ls rest)) : W p l e R s m args below meth c H locs cells slots Q (F0 m pc ls (v :: .ref a :: rest)) :=
  va_put (D := G.2.1) (C := "SealTrust$Motion") (T := T_MO) (N := 8) (ty := .long) S.1 S.2.1 (xg_t hg hw args) in_MO t_MO o_MO n_MO S.2.2.2 (xg_k hg hw) hP hD hS q0 he rfl 7 (by decide) (xg_w hg hw wd_330 rfl args) (fun _ h => h) rfl (by decide +kernel) hn hfit hl hdg k
theorem gf_MO_9 (hg : xg_F G) (hw : G.1.WarmedH s.vm) (S : xc_Fix p m c cc nL s "SealTrust$Motion") (hP : va_P G.2.1 cl_all ws H) (q0 : Nat) (he : ws[q0]? = some (a, .inr (2, fs))) (hv : fs[0]? = some v) (hdg : decode cc pc = .ok (.getfield 9, 3)) (k : W p l e R s m args below meth c H locs cells slots Q (F0 m (pc + 3) ls (v :: rest))) : W p l e R s m args below meth c H locs cells slots Q (F0 m pc ls (.ref a :: rest)) :=
  va_get (D := G.2.1) (C := "SealTrust$Motion") (T := T_MO) (N := 8) S.1 S.2.1 (xg_t hg hw args) in_MO S.2.2.2 (xg_k hg hw) hP q0 he rfl 0 (by decide) (xg_w hg hw wd_323 rfl args) (fun _ h => h) hv hdg k
theorem gf_MO_15 (hg : xg_F G) (hw : G.1.WarmedH s.vm) (S : xc_Fix p m c cc nL s "SealTrust$Motion") (hP : va_P G.2.1 cl_all ws H) (q0 : Nat) (he : ws[q0]? = some (a, .inr (2, fs))) (hv : fs[1]? = some v) (hdg : decode cc pc = .ok (.getfield 15, 3)) (k : W p l e R s m args below meth c H locs cells slots Q (F0 m (pc + 3) ls (v :: rest))) : W p l e R s m args below meth c H locs cells slots Q (F0 m pc ls (.ref a :: rest)) :=
  va_get (D := G.2.1) (C := "SealTrust$Motion") (T := T_MO) (N := 8) S.1 S.2.1 (xg_t hg hw args) in_MO S.2.2.2 (xg_k hg hw) hP q0 he rfl 1 (by decide) (xg_w hg hw wd_324 rfl args) (fun _ h => h) hv hdg k
theorem gf_MO_19 (hg : xg_F G) (hw : G.1.WarmedH s.vm) (S : xc_Fix p m c cc nL s "SealTrust$Motion") (hP : va_P G.2.1 cl_all ws H) (q0 : Nat) (he : ws[q0]? = some (a, .inr (2, fs))) (hv : fs[2]? = some v) (hdg : decode cc pc = .ok (.getfield 19, 3)) (k : W p l e R s m args below meth c H locs cells slots Q (F0 m (pc + 3) ls (v :: rest))) : W p l e R s m args below meth c H locs cells slots Q (F0 m pc ls (.ref a :: rest)) :=
  va_get (D := G.2.1) (C := "SealTrust$Motion") (T := T_MO) (N := 8) S.1 S.2.1 (xg_t hg hw args) in_MO S.2.2.2 (xg_k hg hw) hP q0 he rfl 2 (by decide) (xg_w hg hw wd_325 rfl args) (fun _ h => h) hv hdg k
theorem gf_MO_30 (hg : xg_F G) (hw : G.1.WarmedH s.vm) (S : xc_Fix p m c cc nL s "SealTrust$Motion") (hP : va_P G.2.1 cl_all ws H) (q0 : Nat) (he : ws[q0]? = some (a, .inr (2, fs))) (hv : fs[5]? = some v) (hdg : decode cc pc = .ok (.getfield 30, 3)) (k : W p l e R s m args below meth c H locs cells slots Q (F0 m (pc + 3) ls (v :: rest))) : W p l e R s m args below meth c H locs cells slots Q (F0 m pc ls (.ref a :: rest)) :=
  va_get (D := G.2.1) (C := "SealTrust$Motion") (T := T_MO) (N := 8) S.1 S.2.1 (xg_t hg hw args) in_MO S.2.2.2 (xg_k hg hw) hP q0 he rfl 5 (by decide) (xg_w hg hw wd_328 rfl args) (fun _ h => h) hv hdg k
theorem gf_MO_33 (hg : xg_F G) (hw : G.1.WarmedH s.vm) (S : xc_Fix p m c cc nL s "SealTrust$Motion") (hP : va_P G.2.1 cl_all ws H) (q0 : Nat) (he : ws[q0]? = some (a, .inr (2, fs))) (hv : fs[6]? = some v) (hdg : decode cc pc = .ok (.getfield 33, 3)) (k : W p l e R s m args below meth c H locs cells slots Q (F0 m (pc + 3) ls (v :: rest))) : W p l e R s m args below meth c H locs cells slots Q (F0 m pc ls (.ref a :: rest)) :=
  va_get (D := G.2.1) (C := "SealTrust$Motion") (T := T_MO) (N := 8) S.1 S.2.1 (xg_t hg hw args) in_MO S.2.2.2 (xg_k hg hw) hP q0 he rfl 6 (by decide) (xg_w hg hw wd_329 rfl args) (fun _ h => h) hv hdg k
theorem si_LW_7 : xg_siteV "SealTrustLaw" 7 y_ST_deal b_ST_deal 6 none 5 := ⟨wd_331, wd_332, wd_333, wd_18, wd_334, ⟨by decide +kernel, by decide +kernel⟩, by decide +kernel⟩
theorem si_LW_15 : xg_siteV "SealTrustLaw" 15 y_ST_put b_ST_put 3 (some .int) 2 := ⟨wd_335, wd_336, wd_337, wd_18, wd_338, ⟨by decide +kernel, by decide +kernel⟩, by decide +kernel⟩
theorem si_LW_19 : xg_siteV "SealTrustLaw" 19 y_ST_motion b_ST_motion 1 (some .int) 0 := ⟨wd_339, wd_340, wd_341, wd_18, wd_342, ⟨by decide +kernel, by decide +kernel⟩, by decide +kernel⟩
theorem si_LW_25 : xg_siteV "SealTrustLaw" 25 y_ST_consent b_ST_consent 4 none 2 := ⟨wd_343, wd_344, wd_345, wd_18, wd_346, ⟨by decide +kernel, by decide +kernel⟩, by decide +kernel⟩
theorem si_LW_31 : xg_siteV "SealTrustLaw" 31 y_ST_object b_ST_object 4 none 2 := ⟨wd_347, wd_348, wd_349, wd_18, wd_350, ⟨by decide +kernel, by decide +kernel⟩, by decide +kernel⟩
theorem si_LW_34 : xg_siteV "SealTrustLaw" 34 y_ST_file b_ST_file 9 none 5 := ⟨wd_351, wd_352, wd_353, wd_18, wd_354, ⟨by decide +kernel, by decide +kernel⟩, by decide +kernel⟩
theorem si_LW_38 : xg_siteV "SealTrustLaw" 38 y_ST_partial b_ST_partial 5 (some .long) 3 := ⟨wd_355, wd_356, wd_357, wd_18, wd_358, ⟨by decide +kernel, by decide +kernel⟩, by decide +kernel⟩
theorem si_LW_42 : xg_siteV "SealTrustLaw" 42 y_ST_bad b_ST_bad 3 (some .int) 1 := ⟨wd_359, wd_360, wd_361, wd_18, wd_362, ⟨by decide +kernel, by decide +kernel⟩, by decide +kernel⟩
theorem si_LW_46 : xg_siteV "SealTrustLaw" 46 y_ST_join b_ST_join 3 (some .long) 1 := ⟨wd_363, wd_364, wd_365, wd_18, wd_366, ⟨by decide +kernel, by decide +kernel⟩, by decide +kernel⟩
theorem si_LW_52 : xg_siteV "SealTrustLaw" 52 y_ST_verify b_ST_verify 3 (some .boolean) 1 := ⟨wd_367, wd_368, wd_369, wd_18, wd_370, ⟨by decide +kernel, by decide +kernel⟩, by decide +kernel⟩
theorem si_LW_56 : xg_siteV "SealTrustLaw" 56 y_ST_refresh b_ST_refresh 3 none 2 := ⟨wd_371, wd_372, wd_373, wd_18, wd_374, ⟨by decide +kernel, by decide +kernel⟩, by decide +kernel⟩
theorem si_LW_59 : xg_siteV "SealTrustLaw" 59 y_ST_suspend b_ST_suspend 3 (some .boolean) 2 := ⟨wd_375, wd_376, wd_377, wd_18, wd_378, ⟨by decide +kernel, by decide +kernel⟩, by decide +kernel⟩
theorem si_LW_63 : xg_siteV "SealTrustLaw" 63 y_ST_parts b_ST_parts 2 (some .boolean) 1 := ⟨wd_379, wd_380, wd_381, wd_18, wd_382, ⟨by decide +kernel, by decide +kernel⟩, by decide +kernel⟩
theorem si_LW_67 : xg_siteV "SealTrustLaw" 67 y_ST_told b_ST_told 4 (some .long) 2 := ⟨wd_383, wd_384, wd_385, wd_18, wd_386, ⟨by decide +kernel, by decide +kernel⟩, by decide +kernel⟩
theorem si_LW_71 : xg_siteV "SealTrustLaw" 71 y_ST_book b_ST_book 2 (some .int) 1 := ⟨wd_387, wd_388, wd_389, wd_18, wd_390, ⟨by decide +kernel, by decide +kernel⟩, by decide +kernel⟩
theorem si_LW_74 : xg_siteV "SealTrustLaw" 74 y_ST_state b_ST_state 2 (some .long) 1 := ⟨wd_391, wd_392, wd_393, wd_18, wd_394, ⟨by decide +kernel, by decide +kernel⟩, by decide +kernel⟩
theorem si_LW_77 : xg_siteI "SealTrustLaw" 77 y_ST_init b_ST_init 2 0 := ⟨wd_395, wd_396, wd_18, wd_397, ⟨by decide +kernel, by decide +kernel⟩, by decide +kernel, rfl⟩
theorem si_LW_80 : xg_siteI "SealTrustLaw" 80 y_MD_init b_MD_init 1 0 := ⟨wd_398, wd_399, wd_176, wd_400, ⟨by decide +kernel, by decide +kernel⟩, by decide +kernel, rfl⟩
theorem si_LW_81 : xg_siteSW "SealTrustLaw" 81 y_LW_deal b_LW_deal 7 (some .int) [(0, 11, 14, 13)] 6 := ⟨wd_403, wd_401, wd_402, wd_404, ⟨by decide +kernel, by decide +kernel⟩, by decide +kernel⟩
theorem si_LW_86 : xg_siteV "SealTrustLaw" 86 y_MD_deal b_MD_deal 7 none 5 := ⟨wd_405, wd_406, wd_407, wd_176, wd_408, ⟨by decide +kernel, by decide +kernel⟩, by decide +kernel⟩
theorem si_LW_87 : xg_siteV "SealTrustLaw" 87 y_MD_thrown b_MD_thrown 1 (some .int) 0 := ⟨wd_409, wd_410, wd_411, wd_176, wd_412, ⟨by decide +kernel, by decide +kernel⟩, by decide +kernel⟩
theorem si_LW_90 : xg_siteSW "SealTrustLaw" 90 y_LW_put b_LW_put 5 (some .int) [(0, 10, 13, 13)] 4 := ⟨wd_414, wd_413, wd_402, wd_415, ⟨by decide +kernel, by decide +kernel⟩, by decide +kernel⟩
theorem si_LW_93 : xg_siteV "SealTrustLaw" 93 y_MD_put b_MD_put 4 (some .int) 2 := ⟨wd_416, wd_417, wd_418, wd_176, wd_419, ⟨by decide +kernel, by decide +kernel⟩, by decide +kernel⟩
theorem si_LW_94 : xg_siteSW "SealTrustLaw" 94 y_LW_motion b_LW_motion 3 (some .int) [(0, 8, 11, 23)] 2 := ⟨wd_421, wd_420, wd_402, wd_422, ⟨by decide +kernel, by decide +kernel⟩, by decide +kernel⟩
theorem si_LW_97 : xg_siteV "SealTrustLaw" 97 y_MD_motion b_MD_motion 1 (some .int) 0 := ⟨wd_423, wd_424, wd_425, wd_176, wd_426, ⟨by decide +kernel, by decide +kernel⟩, by decide +kernel⟩
theorem si_LW_98 : xg_siteSW "SealTrustLaw" 98 y_LW_consent b_LW_consent 4 (some .int) [(0, 6, 9, 29), (0, 6, 12, 23)] 3 := ⟨wd_428, wd_427, wd_402, wd_429, ⟨by decide +kernel, by decide +kernel⟩, by decide +kernel⟩
theorem si_LW_101 : xg_siteV "SealTrustLaw" 101 y_MD_consent b_MD_consent 3 none 2 := ⟨wd_430, wd_431, wd_432, wd_176, wd_433, ⟨by decide +kernel, by decide +kernel⟩, by decide +kernel⟩
theorem si_LW_102 : xg_siteSW "SealTrustLaw" 102 y_LW_object b_LW_object 4 (some .int) [(0, 6, 9, 29), (0, 6, 12, 23)] 3 := ⟨wd_435, wd_434, wd_402, wd_436, ⟨by decide +kernel, by decide +kernel⟩, by decide +kernel⟩
theorem si_LW_104 : xg_siteV "SealTrustLaw" 104 y_MD_object b_MD_object 3 none 2 := ⟨wd_437, wd_438, wd_439, wd_176, wd_440, ⟨by decide +kernel, by decide +kernel⟩, by decide +kernel⟩
theorem kc_LW_105 (hg : xg_F G) (hw : G.1.WarmedH s.vm) (S : xc_Fix p m c cc nL s "SealTrustLaw") (hdg : decode cc pc = .ok (.ldc2_w 105, 3)) (k : W p l e R s m args below meth c H locs cells slots Q (F0 m (pc + 3) ls (.long 4294967295 :: rest))) : W p l e R s m args below meth c H locs cells slots Q (F0 m pc ls rest) :=
  lv_ldc2 S.1 S.2.1 S.2.2.2 (xg_w hg hw wd_441 rfl args) hdg k
theorem si_LW_107 : xg_siteSW "SealTrustLaw" 107 y_LW_file b_LW_file 9 (some .int) [(0, 11, 14, 29), (0, 11, 18, 23)] 6 := ⟨wd_443, wd_442, wd_402, wd_444, ⟨by decide +kernel, by decide +kernel⟩, by decide +kernel⟩
theorem si_LW_110 : xg_siteV "SealTrustLaw" 110 y_MD_file b_MD_file 8 none 5 := ⟨wd_445, wd_446, wd_447, wd_176, wd_448, ⟨by decide +kernel, by decide +kernel⟩, by decide +kernel⟩
theorem si_LW_111 : xg_siteSW "SealTrustLaw" 111 y_LW_partial b_LW_partial 6 (some .int) [(0, 11, 14, 29), (0, 11, 18, 13)] 5 := ⟨wd_450, wd_449, wd_402, wd_451, ⟨by decide +kernel, by decide +kernel⟩, by decide +kernel⟩
theorem si_LW_114 : xg_siteV "SealTrustLaw" 114 y_MD_partial b_MD_partial 5 (some .long) 3 := ⟨wd_452, wd_453, wd_454, wd_176, wd_455, ⟨by decide +kernel, by decide +kernel⟩, by decide +kernel⟩
theorem si_LW_115 : xg_siteSW "SealTrustLaw" 115 y_LW_bad b_LW_bad 4 (some .int) [(0, 9, 12, 29)] 3 := ⟨wd_457, wd_456, wd_402, wd_458, ⟨by decide +kernel, by decide +kernel⟩, by decide +kernel⟩
theorem si_LW_118 : xg_siteV "SealTrustLaw" 118 y_MD_bad b_MD_bad 2 (some .int) 1 := ⟨wd_459, wd_460, wd_461, wd_176, wd_462, ⟨by decide +kernel, by decide +kernel⟩, by decide +kernel⟩
theorem si_LW_119 : xg_siteSW "SealTrustLaw" 119 y_LW_join b_LW_join 4 (some .int) [(0, 8, 11, 29), (0, 8, 14, 23), (0, 8, 17, 50)] 3 := ⟨wd_464, wd_463, wd_402, wd_465, ⟨by decide +kernel, by decide +kernel⟩, by decide +kernel⟩
theorem si_LW_121 : xg_siteV "SealTrustLaw" 121 y_MD_join b_MD_join 2 (some .long) 1 := ⟨wd_466, wd_467, wd_468, wd_176, wd_469, ⟨by decide +kernel, by decide +kernel⟩, by decide +kernel⟩
theorem si_LW_122 : xg_siteSW "SealTrustLaw" 122 y_LW_verify b_LW_verify 5 (some .int) [(0, 16, 19, 23)] 3 := ⟨wd_471, wd_470, wd_402, wd_472, ⟨by decide +kernel, by decide +kernel⟩, by decide +kernel⟩
theorem si_LW_125 : xg_siteV "SealTrustLaw" 125 y_MD_verify b_MD_verify 3 (some .boolean) 1 := ⟨wd_473, wd_474, wd_475, wd_176, wd_476, ⟨by decide +kernel, by decide +kernel⟩, by decide +kernel⟩
theorem si_LW_126 : xg_siteSW "SealTrustLaw" 126 y_LW_refresh b_LW_refresh 4 (some .int) [(0, 6, 9, 13), (0, 6, 12, 23)] 3 := ⟨wd_478, wd_477, wd_402, wd_479, ⟨by decide +kernel, by decide +kernel⟩, by decide +kernel⟩
theorem si_LW_128 : xg_siteV "SealTrustLaw" 128 y_MD_refresh b_MD_refresh 4 none 2 := ⟨wd_480, wd_481, wd_482, wd_176, wd_483, ⟨by decide +kernel, by decide +kernel⟩, by decide +kernel⟩
theorem si_LW_129 : xg_siteSW "SealTrustLaw" 129 y_LW_suspend b_LW_suspend 5 (some .int) [(0, 17, 20, 29), (0, 17, 24, 23)] 4 := ⟨wd_485, wd_484, wd_402, wd_486, ⟨by decide +kernel, by decide +kernel⟩, by decide +kernel⟩
theorem si_LW_132 : xg_siteV "SealTrustLaw" 132 y_MD_suspend b_MD_suspend 4 (some .boolean) 2 := ⟨wd_487, wd_488, wd_489, wd_176, wd_490, ⟨by decide +kernel, by decide +kernel⟩, by decide +kernel⟩
theorem si_LW_133 : xg_siteSW "SealTrustLaw" 133 y_LW_parts b_LW_parts 4 (some .int) [(0, 16, 19, 13), (0, 16, 22, 23)] 3 := ⟨wd_492, wd_491, wd_402, wd_493, ⟨by decide +kernel, by decide +kernel⟩, by decide +kernel⟩
theorem si_LW_135 : xg_siteV "SealTrustLaw" 135 y_MD_parts b_MD_parts 10 (some .boolean) 1 := ⟨wd_494, wd_495, wd_496, wd_176, wd_497, ⟨by decide +kernel, by decide +kernel⟩, by decide +kernel⟩
theorem si_LW_136 : xg_siteSW "SealTrustLaw" 136 y_LW_told b_LW_told 5 (some .int) [(0, 9, 12, 29), (0, 9, 16, 13)] 4 := ⟨wd_499, wd_498, wd_402, wd_500, ⟨by decide +kernel, by decide +kernel⟩, by decide +kernel⟩
theorem si_LW_138 : xg_siteV "SealTrustLaw" 138 y_MD_told b_MD_told 3 (some .long) 2 := ⟨wd_501, wd_502, wd_503, wd_176, wd_504, ⟨by decide +kernel, by decide +kernel⟩, by decide +kernel⟩
theorem si_LW_139 : xg_siteSW "SealTrustLaw" 139 y_LW_book b_LW_book 4 (some .int) [(0, 9, 12, 13)] 3 := ⟨wd_506, wd_505, wd_402, wd_507, ⟨by decide +kernel, by decide +kernel⟩, by decide +kernel⟩
theorem si_LW_141 : xg_siteV "SealTrustLaw" 141 y_MD_book b_MD_book 2 (some .int) 1 := ⟨wd_508, wd_509, wd_510, wd_176, wd_511, ⟨by decide +kernel, by decide +kernel⟩, by decide +kernel⟩
theorem si_LW_142 : xg_siteSW "SealTrustLaw" 142 y_LW_state b_LW_state 4 (some .int) [(0, 8, 11, 13)] 3 := ⟨wd_513, wd_512, wd_402, wd_514, ⟨by decide +kernel, by decide +kernel⟩, by decide +kernel⟩
theorem si_LW_144 : xg_siteV "SealTrustLaw" 144 y_MD_state b_MD_state 2 (some .long) 1 := ⟨wd_515, wd_516, wd_517, wd_176, wd_518, ⟨by decide +kernel, by decide +kernel⟩, by decide +kernel⟩
end XSI
end
section
/-! short forms of the rows that the walks use most -/
section XRO
variable {p : Program} {l : Launch} {e : Env} {R : Room} {s : State} {m : MethodId} {args : Array Value} {below : List Frame} {meth : Method} {c : Code} {H : Heap} {locs : List Loc} {cells slots : Nat} {Q : State → Prop} {pc : Nat} {ls : Array Slot} {rest st0 : List Value} {cc : ByteArray}
/-- a call that changes nothing and gives back v -/
theorem xg_read {v : Value} (hr : xc_Run p l e R s m args below meth c H locs cells slots (F0 m pc ls st0) rest 0 0 (xc_ro (some v) H) (fun _ => False))
    (k : W p l e R s m args below meth c H locs cells slots Q (F0 m (pc + 3) ls (v :: rest))) : W p l e R s m args below meth c H locs cells slots Q (F0 m pc ls st0) := xc_read hr k
abbrev xg_Z (below : List Frame) (v : Option Value) (args : Array Value) (s : State) : State → Prop := xc_Z below (xc_ro v s.heap) (fun _ => False) args s 0 0
/-- the ends of bodies that change nothing -/
theorem xg_iret {v r : Int32} (hx : p.tables.exec = Jvm.exec) (hb : c.code = cc) (ht : meth.sig.returnType = some .int) (hl : meth.locks = false) (hr : v = r) (hdg : decode cc pc = .ok (.ireturn, 1)) :
    W p l e R s m args below meth c s.heap [] 0 0 (xg_Z below (some (.int r)) args s) (F0 m pc ls [.int v]) :=
  xc_iret hx hb ht hl xc_F.rf (fun _ h => nomatch h) ⟨by rw [hr], rfl⟩ hdg
theorem xg_lret {v r : Int64} (hx : p.tables.exec = Jvm.exec) (hb : c.code = cc) (ht : meth.sig.returnType = some .long) (hl : meth.locks = false) (hr : v = r) (hdg : decode cc pc = .ok (.lreturn, 1)) :
    W p l e R s m args below meth c s.heap [] 0 0 (xg_Z below (some (.long r)) args s) (F0 m pc ls [.long v]) :=
  xc_lret hx hb ht hl xc_F.rf (fun _ h => nomatch h) ⟨by rw [hr], rfl⟩ hdg
theorem xg_zret {v r : Int32} (hx : p.tables.exec = Jvm.exec) (hb : c.code = cc) (ht : meth.sig.returnType = some .boolean) (hl : meth.locks = false) (hn : narrow .boolean (.int v) = .int v) (hr : v = r) (hdg : decode cc pc = .ok (.ireturn, 1)) :
    W p l e R s m args below meth c s.heap [] 0 0 (xg_Z below (some (.int r)) args s) (F0 m pc ls [.int v]) :=
  xc_zret hx hb ht hn hl xc_F.rf (fun _ h => nomatch h) ⟨by rw [hr], rfl⟩ hdg
theorem xg_vret (hx : p.tables.exec = Jvm.exec) (hb : c.code = cc) (ht : meth.sig.returnType = none) (hl : meth.locks = false) (hdg : decode cc pc = .ok (.return_, 1)) :
    W p l e R s m args below meth c s.heap [] 0 0 (xg_Z below none args s) (F0 m pc ls []) :=
  xc_vret hx hb ht hl xc_F.rf (fun _ h => nomatch h) ⟨rfl, rfl⟩ hdg
theorem xg_nb {v : Int32} (h : v = 0 ∨ v = 1) : narrow .boolean (.int v) = .int v := by
  rcases h with h | h <;> rw [h] <;> rfl
end XRO
/-! a counter goes up: what is left falls -/
theorem xi_inc {x : Int32} (h : x.toInt < 2147483647) : (x + 1).toInt = x.toInt + 1 := by
  rw [Int32.toInt_add]
  have h1 := Int32.le_toInt x
  have h2 : (1 : Int32).toInt = 1 := by decide
  rw [h2]
  exact Int.bmod_eq_of_le (by omega) (by omega)
theorem xi_up {x M : Int32} {n : Nat} (h : ¬ M ≤ x) (hmu : (M.toInt - x.toInt).toNat < n + 1) : (M.toInt - (x + 1).toInt).toNat < n := by
  rw [Int32.le_iff_toInt_le] at h
  have h3 := Int32.toInt_lt M
  rw [xi_inc (by omega)]
  omega
theorem xi_mul {x y : Int32} (h1 : -2147483648 ≤ x.toInt * y.toInt) (h2 : x.toInt * y.toInt ≤ 2147483647) : (x * y).toInt = x.toInt * y.toInt := by
  rw [Int32.toInt_mul]
  exact Int.bmod_eq_of_le (by omega) (by omega)
/-- trial division below 32768: the next divisor -/
theorem xi_sq {d k : Int32} {n : Nat} (hk : k.toInt ≤ 32767) (h : ¬ k < d * d) (hmu : 2 ≤ d.toInt ∧ d.toInt ≤ 200 ∧ (200 - d.toInt).toNat < n + 1) : 2 ≤ (d + 1).toInt ∧ (d + 1).toInt ≤ 200 ∧ (200 - (d + 1).toInt).toNat < n := by
  rw [Int32.lt_iff_toInt_lt] at h
  have hb : d.toInt * d.toInt ≤ 200 * 200 := Int.mul_le_mul hmu.2.1 hmu.2.1 (by omega) (by omega)
  have hb0 : 0 ≤ d.toInt * d.toInt := Int.mul_nonneg (by omega) (by omega)
  rw [xi_mul (by omega) (by omega)] at h
  have h182 : d.toInt < 190 := by
    by_cases h9 : d.toInt < 190
    · exact h9
    · have : 190 * 190 ≤ d.toInt * d.toInt := Int.mul_le_mul (by omega) (by omega) (by omega) (by omega)
      omega
  rw [xi_inc (by omega)]
  omega
theorem xi_ne {d : Int32} (h : 2 ≤ d.toInt) : ¬ d = 0 := by
  intro z
  rw [z] at h
  exact absurd h (by decide)
theorem xi_0l {d : Int64} (h : 0 < d) : ¬ d = 0 := by
  intro z
  rw [z] at h
  exact absurd h (by decide)
theorem xi_up0 {x M : Int32} {n : Nat} (h : ¬ M ≤ x) (hmu : 0 ≤ x.toInt ∧ (M.toInt - x.toInt).toNat < n + 1) : 0 ≤ (x + 1).toInt ∧ (M.toInt - (x + 1).toInt).toNat < n := by
  refine ⟨?_, xi_up h hmu.2⟩
  rw [Int32.le_iff_toInt_le] at h
  have h3 := Int32.toInt_lt M
  rw [xi_inc (by omega)]
  omega
theorem xi_in {x M : Int32} {k : Nat} (h : ¬ M ≤ x) (h0 : 0 ≤ x.toInt) (hM : M.toInt ≤ (k : Int)) : vp_in x k := by
  rw [Int32.le_iff_toInt_le] at h
  exact vp_in_iff.mpr ⟨h0, by omega⟩
end
section
/-! functions of numbers: what each computes, and its contract -/
def f_ST_mixIn (mixed : Int64) (number : Int64) : Int64 := ((mixed ^^^ number) * (6364136223846793005 : Int64)) + (1442695040888963407 : Int64)
set_option maxHeartbeats 4000000 in
set_option maxRecDepth 100000 in
theorem ct_ST_mixIn (l : Launch) {G : xg_G} (hg : xg_F G) (H : Heap) (mixed : Int64) (number : Int64)  : xc_Met l y_ST_mixIn (.code y_ST_mixIn b_ST_mixIn 4 (some .long)) ({ frames := 0, cells := 0, slots := 0, locals := 0 } : Room) (xg_Pc G [.long mixed, .long number] H) (xc_ro (some (.long (f_ST_mixIn mixed number))) H) (fun _ => False) := by
  refine xc_ofW (by decide) ?_
  intro p e s m args below meth c s₁ B hml hE hv
  obtain ⟨rfl, rfl, hw⟩ := hv
  have hx := B.exec
  have hb := B.bytes
  have ht := B.returns
  have hl0 := B.notSynchronized
  have S : xc_Fix p m c b_ST_mixIn 4 s "SealTrust" := ⟨hx, hb, hml, findClass_of_methodNamed B.named⟩
  have hl := lv_entry ([.long mixed, .long number]) (n := 4) (Nat.le_of_ble_eq_true rfl)
  rw [lg_entry_eq]
  generalize (lg_sl ([.long mixed, .long number]) ++ List.replicate (4 - (lg_sl ([.long mixed, .long number])).length) Slot.unset).toArray = ls at hl ⊢
  have hl : lv_has ls 4 [(0, .long mixed), (2, .long number)] := hl
  obtain ⟨r, hr⟩ : ∃ r, f_ST_mixIn mixed number = r := ⟨_, rfl⟩
  rw [hr]
  unfold f_ST_mixIn at hr
  refine lv_lload_n hx hb d_ST_mixIn_0 rfl (lv_at hl 0 rfl) ?_
  refine lv_lload_n hx hb d_ST_mixIn_1 rfl (lv_at hl 1 rfl) ?_
  refine lv_lxor hx hb d_ST_mixIn_2 ?_
  refine kc_ST_252 hg hw S d_ST_mixIn_3 ?_
  refine lv_lmul hx hb d_ST_mixIn_6 ?_
  refine kc_ST_254 hg hw S d_ST_mixIn_7 ?_
  refine lv_ladd hx hb d_ST_mixIn_10 ?_
  exact xg_lret hx hb ht hl0 hr d_ST_mixIn_11
def f_ST_mixOf (mixed : Int64) : Int64 := (mixed.toUInt64 >>> ((33 : Int32).toInt64.toUInt64 &&& Int64.toUInt64 63)).toInt64
set_option maxHeartbeats 4000000 in
set_option maxRecDepth 100000 in
theorem ct_ST_mixOf (l : Launch) {G : xg_G} (hg : xg_F G) (H : Heap) (mixed : Int64)  : xc_Met l y_ST_mixOf (.code y_ST_mixOf b_ST_mixOf 2 (some .long)) ({ frames := 0, cells := 0, slots := 0, locals := 0 } : Room) (xg_Pc G [.long mixed] H) (xc_ro (some (.long (f_ST_mixOf mixed))) H) (fun _ => False) := by
  refine xc_ofW (by decide) ?_
  intro p e s m args below meth c s₁ B hml hE hv
  obtain ⟨rfl, rfl, hw⟩ := hv
  have hx := B.exec
  have hb := B.bytes
  have ht := B.returns
  have hl0 := B.notSynchronized
  have S : xc_Fix p m c b_ST_mixOf 2 s "SealTrust" := ⟨hx, hb, hml, findClass_of_methodNamed B.named⟩
  have hl := lv_entry ([.long mixed]) (n := 2) (Nat.le_of_ble_eq_true rfl)
  rw [lg_entry_eq]
  generalize (lg_sl ([.long mixed]) ++ List.replicate (2 - (lg_sl ([.long mixed])).length) Slot.unset).toArray = ls at hl ⊢
  have hl : lv_has ls 2 [(0, .long mixed)] := hl
  obtain ⟨r, hr⟩ : ∃ r, f_ST_mixOf mixed = r := ⟨_, rfl⟩
  rw [hr]
  unfold f_ST_mixOf at hr
  refine lv_lload_n hx hb d_ST_mixOf_0 rfl (lv_at hl 0 rfl) ?_
  refine lv_bipush (v := (33 : Int32)) hx hb d_ST_mixOf_1 (by decide) ?_
  refine lv_lushr hx hb d_ST_mixOf_3 rfl ?_
  exact xg_lret hx hb ht hl0 hr d_ST_mixOf_4
def f_ST_rest (number : Int64) (divisor : Int64) : Int64 := if (0 : Int64) < divisor then (if (0 : Int64) ≤ (number - number / divisor * divisor) then (number - number / divisor * divisor) else ((number - number / divisor * divisor) + divisor)) else (0 : Int64)
set_option maxHeartbeats 4000000 in
set_option maxRecDepth 100000 in
theorem ct_ST_rest (l : Launch) {G : xg_G} (hg : xg_F G) (H : Heap) (number : Int64) (divisor : Int64)  : xc_Met l y_ST_rest (.code y_ST_rest b_ST_rest 6 (some .long)) ({ frames := 0, cells := 0, slots := 0, locals := 0 } : Room) (xg_Pc G [.long number, .long divisor] H) (xc_ro (some (.long (f_ST_rest number divisor))) H) (fun _ => False) := by
  refine xc_ofW (by decide) ?_
  intro p e s m args below meth c s₁ B hml hE hv
  obtain ⟨rfl, rfl, hw⟩ := hv
  have hx := B.exec
  have hb := B.bytes
  have ht := B.returns
  have hl0 := B.notSynchronized
  have S : xc_Fix p m c b_ST_rest 6 s "SealTrust" := ⟨hx, hb, hml, findClass_of_methodNamed B.named⟩
  have hl := lv_entry ([.long number, .long divisor]) (n := 6) (Nat.le_of_ble_eq_true rfl)
  rw [lg_entry_eq]
  generalize (lg_sl ([.long number, .long divisor]) ++ List.replicate (6 - (lg_sl ([.long number, .long divisor])).length) Slot.unset).toArray = ls at hl ⊢
  have hl : lv_has ls 6 [(0, .long number), (2, .long divisor)] := hl
  obtain ⟨r, hr⟩ : ∃ r, f_ST_rest number divisor = r := ⟨_, rfl⟩
  rw [hr]
  unfold f_ST_rest at hr
  refine lv_lload_n hx hb d_ST_rest_0 rfl (lv_at hl 1 rfl) ?_
  refine lv_lconst (v := (0 : Int64)) hx hb d_ST_rest_1 (by decide) ?_
  refine W.lcmp hx hb d_ST_rest_2 ?_
  refine lv_if_gt hx hb d_ST_rest_3 (tgt := 8) (by decide) (fun h3 => ?_) (fun h3 => ?_)
  · rw [lg_cmp_gt] at h3
    rw [if_pos h3] at hr
    refine lv_lload_n hx hb d_ST_rest_8 rfl (lv_at hl 0 rfl) ?_
    refine lv_lload_n hx hb d_ST_rest_9 rfl (lv_at hl 1 rfl) ?_
    refine lv_lrem hx hb d_ST_rest_10 (xi_0l h3) ?_
    refine lv_lstore hx hb d_ST_rest_11 hl (by decide) rfl (fun ls hl => ?_)
    have hl : lv_has ls 6 [(4, .long (number - number / divisor * divisor)), (0, .long number), (2, .long divisor)] := hl
    refine lv_lload hx hb d_ST_rest_13 (lv_at hl 0 rfl) ?_
    refine lv_lconst (v := (0 : Int64)) hx hb d_ST_rest_15 (by decide) ?_
    refine W.lcmp hx hb d_ST_rest_16 ?_
    refine lv_if_ge hx hb d_ST_rest_17 (tgt := 27) (by decide) (fun h17 => ?_) (fun h17 => ?_)
    · rw [lg_cmp_ge] at h17
      rw [if_pos h17] at hr
      refine lv_lload hx hb d_ST_rest_27 (lv_at hl 0 rfl) ?_
      exact xg_lret hx hb ht hl0 hr d_ST_rest_29
    · rw [lg_cmp_ge] at h17
      rw [if_neg h17] at hr
      refine lv_lload hx hb d_ST_rest_20 (lv_at hl 0 rfl) ?_
      refine lv_lload_n hx hb d_ST_rest_22 rfl (lv_at hl 2 rfl) ?_
      refine lv_ladd hx hb d_ST_rest_23 ?_
      refine lv_goto hx hb d_ST_rest_24 (tgt := 29) (by decide) ?_
      exact xg_lret hx hb ht hl0 hr d_ST_rest_29
  · rw [lg_cmp_gt] at h3
    rw [if_neg h3] at hr
    refine lv_lconst (v := (0 : Int64)) hx hb d_ST_rest_6 (by decide) ?_
    exact xg_lret hx hb ht hl0 hr d_ST_rest_7
def f_ST_isIn (bits : Int32) (trustee : Int32) : Int32 := if (((bits.toUInt32 >>> (trustee.toUInt32 &&& Int32.toUInt32 31)).toInt32) &&& (1 : Int32)) = (1 : Int32) then (1 : Int32) else (0 : Int32)
set_option maxHeartbeats 4000000 in
set_option maxRecDepth 100000 in
theorem ct_ST_isIn (l : Launch) {G : xg_G} (hg : xg_F G) (H : Heap) (bits : Int32) (trustee : Int32)  : xc_Met l y_ST_isIn (.code y_ST_isIn b_ST_isIn 2 (some .boolean)) ({ frames := 0, cells := 0, slots := 0, locals := 0 } : Room) (xg_Pc G [.int bits, .int trustee] H) (xc_ro (some (.int (f_ST_isIn bits trustee))) H) (fun _ => False) := by
  refine xc_ofW (by decide) ?_
  intro p e s m args below meth c s₁ B hml hE hv
  obtain ⟨rfl, rfl, hw⟩ := hv
  have hx := B.exec
  have hb := B.bytes
  have ht := B.returns
  have hl0 := B.notSynchronized
  have S : xc_Fix p m c b_ST_isIn 2 s "SealTrust" := ⟨hx, hb, hml, findClass_of_methodNamed B.named⟩
  have hl := lv_entry ([.int bits, .int trustee]) (n := 2) (Nat.le_of_ble_eq_true rfl)
  rw [lg_entry_eq]
  generalize (lg_sl ([.int bits, .int trustee]) ++ List.replicate (2 - (lg_sl ([.int bits, .int trustee])).length) Slot.unset).toArray = ls at hl ⊢
  have hl : lv_has ls 2 [(0, .int bits), (1, .int trustee)] := hl
  obtain ⟨r, hr⟩ : ∃ r, f_ST_isIn bits trustee = r := ⟨_, rfl⟩
  rw [hr]
  unfold f_ST_isIn at hr
  refine lv_iload_n hx hb d_ST_isIn_0 rfl (lv_at hl 0 rfl) ?_
  refine lv_iload_n hx hb d_ST_isIn_1 rfl (lv_at hl 1 rfl) ?_
  refine lv_iushr hx hb d_ST_isIn_2 rfl ?_
  refine lv_iconst (v := (1 : Int32)) hx hb d_ST_isIn_3 (by decide) ?_
  refine lv_iand hx hb d_ST_isIn_4 ?_
  refine lv_iconst (v := (1 : Int32)) hx hb d_ST_isIn_5 (by decide) ?_
  refine lv_icmp_ne hx hb d_ST_isIn_6 (tgt := 13) (by decide) (fun h6 => ?_) (fun h6 => ?_)
  · rw [if_neg h6] at hr
    refine lv_iconst (v := (0 : Int32)) hx hb d_ST_isIn_13 (by decide) ?_
    exact xg_zret hx hb ht hl0 rfl hr d_ST_isIn_14
  · rw [if_pos h6] at hr
    refine lv_iconst (v := (1 : Int32)) hx hb d_ST_isIn_9 (by decide) ?_
    refine lv_goto hx hb d_ST_isIn_10 (tgt := 14) (by decide) ?_
    exact xg_zret hx hb ht hl0 rfl hr d_ST_isIn_14
theorem nb_ST_isIn (bits trustee : Int32) : f_ST_isIn bits trustee = 0 ∨ f_ST_isIn bits trustee = 1 := by
  unfold f_ST_isIn
  split
  · exact Or.inr rfl
  · exact Or.inl rfl
def lf_ST_isPrime_2 (number : Int32) : Nat → Int32 → Int32
  | 0, _ => 0
  | n + 1, d => if number < (d * d) then (if number < (2 : Int32) then (0 : Int32) else (1 : Int32)) else (if (number - number / d * d) = 0 then (0 : Int32) else (lf_ST_isPrime_2 number n (d + (1 : Int32))))
def f_ST_isPrime (number : Int32) : Int32 := lf_ST_isPrime_2 number 200 (2 : Int32)
set_option maxHeartbeats 4000000 in
set_option maxRecDepth 100000 in
theorem wl_ST_isPrime_2 {p : Program} {l : Launch} {e : Env} {s : State} {m : MethodId} {args : Array Value} {below : List Frame} {meth : Method} {c : Code} {G : xg_G} {number : Int32} (hg : xg_F G) (hw : G.1.WarmedH s.vm) (S : xc_Fix p m c b_ST_isPrime 2 s "SealTrust") (hl0 : meth.locks = false) (ht : meth.sig.returnType = (some .boolean)) (hN : number.toInt ≤ 32767) : ∀ (n : Nat) (d : Int32) (r : Int32) (ls : Array Slot), lf_ST_isPrime_2 number n d = r → (2 ≤ d.toInt ∧ d.toInt ≤ 200 ∧ (200 - d.toInt).toNat < n) → lv_has ls 2 [(1, .int d), (0, .int number)] → W p l e ({ frames := 0, cells := 0, slots := 0, locals := 0 } : Room) s m args below meth c s.heap [] 0 0 (xg_Z below (some (.int r)) args s) (F0 m 2 ls []) := by
  have hx := S.1
  have hb := S.2.1
  intro n
  induction n with
  | zero =>
    intro d r ls hr hmu hl
    omega
  | succ n ih =>
    intro d r ls hr hmu hl
    rw [lf_ST_isPrime_2] at hr
    refine lv_iload_n hx hb d_ST_isPrime_2 rfl (lv_at hl 0 rfl) ?_
    refine lv_iload_n hx hb d_ST_isPrime_3 rfl (lv_at hl 0 rfl) ?_
    refine lv_imul hx hb d_ST_isPrime_4 ?_
    refine lv_iload_n hx hb d_ST_isPrime_5 rfl (lv_at hl 1 rfl) ?_
    refine lv_icmp_gt hx hb d_ST_isPrime_6 (tgt := 23) (by decide) (fun h6 => ?_) (fun h6 => ?_)
    · rw [if_pos h6] at hr
      refine lv_iload_n hx hb d_ST_isPrime_23 rfl (lv_at hl 1 rfl) ?_
      refine lv_iconst (v := (2 : Int32)) hx hb d_ST_isPrime_24 (by decide) ?_
      refine lv_icmp_lt hx hb d_ST_isPrime_25 (tgt := 32) (by decide) (fun h25 => ?_) (fun h25 => ?_)
      · rw [if_pos h25] at hr
        refine lv_iconst (v := (0 : Int32)) hx hb d_ST_isPrime_32 (by decide) ?_
        exact xg_zret hx hb ht hl0 rfl hr d_ST_isPrime_33
      · rw [if_neg h25] at hr
        refine lv_iconst (v := (1 : Int32)) hx hb d_ST_isPrime_28 (by decide) ?_
        refine lv_goto hx hb d_ST_isPrime_29 (tgt := 33) (by decide) ?_
        exact xg_zret hx hb ht hl0 rfl hr d_ST_isPrime_33
    · rw [if_neg h6] at hr
      refine lv_iload_n hx hb d_ST_isPrime_9 rfl (lv_at hl 1 rfl) ?_
      refine lv_iload_n hx hb d_ST_isPrime_10 rfl (lv_at hl 0 rfl) ?_
      refine lv_irem hx hb d_ST_isPrime_11 (xi_ne hmu.1) ?_
      refine lv_if_ne hx hb d_ST_isPrime_12 (tgt := 17) (by decide) (fun h12 => ?_) (fun h12 => ?_)
      · rw [if_neg h12] at hr
        refine lv_iinc (v := d + (1 : Int32)) hx hb d_ST_isPrime_17 hl (k := 0) rfl rfl (by decide) rfl (fun ls hl => ?_)
        have hl : lv_has ls 2 [(1, .int (d + (1 : Int32))), (0, .int number)] := hl
        refine lv_goto hx hb d_ST_isPrime_20 (tgt := 2) (by decide) ?_
        exact ih (d + (1 : Int32)) r ls hr (xi_sq hN h6 hmu) (lv_sub hl [0, 1] rfl)
      · rw [if_pos h12] at hr
        refine lv_iconst (v := (0 : Int32)) hx hb d_ST_isPrime_15 (by decide) ?_
        exact xg_zret hx hb ht hl0 rfl hr d_ST_isPrime_16
set_option maxHeartbeats 4000000 in
set_option maxRecDepth 100000 in
theorem ct_ST_isPrime (l : Launch) {G : xg_G} (hg : xg_F G) (H : Heap) (number : Int32) (hN : number.toInt ≤ 32767) : xc_Met l y_ST_isPrime (.code y_ST_isPrime b_ST_isPrime 2 (some .boolean)) ({ frames := 0, cells := 0, slots := 0, locals := 0 } : Room) (xg_Pc G [.int number] H) (xc_ro (some (.int (f_ST_isPrime number))) H) (fun _ => False) := by
  refine xc_ofW (by decide) ?_
  intro p e s m args below meth c s₁ B hml hE hv
  obtain ⟨rfl, rfl, hw⟩ := hv
  have hx := B.exec
  have hb := B.bytes
  have ht := B.returns
  have hl0 := B.notSynchronized
  have S : xc_Fix p m c b_ST_isPrime 2 s "SealTrust" := ⟨hx, hb, hml, findClass_of_methodNamed B.named⟩
  have hl := lv_entry ([.int number]) (n := 2) (Nat.le_of_ble_eq_true rfl)
  rw [lg_entry_eq]
  generalize (lg_sl ([.int number]) ++ List.replicate (2 - (lg_sl ([.int number])).length) Slot.unset).toArray = ls at hl ⊢
  have hl : lv_has ls 2 [(0, .int number)] := hl
  obtain ⟨r, hr⟩ : ∃ r, f_ST_isPrime number = r := ⟨_, rfl⟩
  rw [hr]
  unfold f_ST_isPrime at hr
  refine lv_iconst (v := (2 : Int32)) hx hb d_ST_isPrime_0 (by decide) ?_
  refine lv_istore_n hx hb d_ST_isPrime_1 rfl hl (by decide) rfl (fun ls hl => ?_)
  have hl : lv_has ls 2 [(1, .int (2 : Int32)), (0, .int number)] := hl
  exact wl_ST_isPrime_2 hg hw S hl0 ht hN 200 (2 : Int32) r ls hr (by decide) (lv_sub hl [0, 1] rfl)
def lf_ST_powerModulo_22 (base : Int64) (exponent : Int64) (modulus : Int64) : Nat → Int64 → Int64 → Int64 → Int32 → Int64
  | 0, _, _, _, _ => 0
  | n + 1, result, square, left, bit => if (63 : Int32) ≤ bit then result else (if left ≤ (0 : Int64) then result else (if (left &&& (1 : Int64)) = (1 : Int64) then (lf_ST_powerModulo_22 base exponent modulus n (f_ST_rest (result * square) modulus) (f_ST_rest (square * square) modulus) (left >>> ((1 : Int32).toInt64 &&& 63)) (bit + (1 : Int32))) else (lf_ST_powerModulo_22 base exponent modulus n result (f_ST_rest (square * square) modulus) (left >>> ((1 : Int32).toInt64 &&& 63)) (bit + (1 : Int32)))))
def f_ST_powerModulo (base : Int64) (exponent : Int64) (modulus : Int64) : Int64 := lf_ST_powerModulo_22 base exponent modulus 64 (f_ST_rest (1 : Int64) modulus) (f_ST_rest base modulus) exponent (0 : Int32)
set_option maxHeartbeats 4000000 in
set_option maxRecDepth 100000 in
theorem wl_ST_powerModulo_22 {p : Program} {l : Launch} {e : Env} {s : State} {m : MethodId} {args : Array Value} {below : List Frame} {meth : Method} {c : Code} {G : xg_G} {base : Int64} {exponent : Int64} {modulus : Int64} (hg : xg_F G) (hw : G.1.WarmedH s.vm) (S : xc_Fix p m c b_ST_powerModulo 13 s "SealTrust") (hl0 : meth.locks = false) (ht : meth.sig.returnType = (some .long))  : ∀ (n : Nat) (result : Int64) (square : Int64) (left : Int64) (bit : Int32) (r : Int64) (ls : Array Slot), lf_ST_powerModulo_22 base exponent modulus n result square left bit = r → ((63 : Int32).toInt - bit.toInt).toNat < n → lv_has ls 13 [(12, .int bit), (10, .long left), (8, .long square), (6, .long result), (0, .long base), (2, .long exponent), (4, .long modulus)] → W p l e ({ frames := 1, cells := 0, slots := 0, locals := 17 } : Room) s m args below meth c s.heap [] 0 0 (xg_Z below (some (.long r)) args s) (F0 m 22 ls []) := by
  have hx := S.1
  have hb := S.2.1
  intro n
  induction n with
  | zero =>
    intro result square left bit r ls hr hmu hl
    omega
  | succ n ih =>
    intro result square left bit r ls hr hmu hl
    rw [lf_ST_powerModulo_22] at hr
    refine lv_iload hx hb d_ST_powerModulo_22 (lv_at hl 0 rfl) ?_
    refine lv_bipush (v := (63 : Int32)) hx hb d_ST_powerModulo_24 (by decide) ?_
    refine lv_icmp_ge hx hb d_ST_powerModulo_26 (tgt := 81) (by decide) (fun h26 => ?_) (fun h26 => ?_)
    · rw [if_pos h26] at hr
      refine lv_lload hx hb d_ST_powerModulo_81 (lv_at hl 3 rfl) ?_
      exact xg_lret hx hb ht hl0 hr d_ST_powerModulo_83
    · rw [if_neg h26] at hr
      refine lv_lload hx hb d_ST_powerModulo_29 (lv_at hl 1 rfl) ?_
      refine lv_lconst (v := (0 : Int64)) hx hb d_ST_powerModulo_31 (by decide) ?_
      refine W.lcmp hx hb d_ST_powerModulo_32 ?_
      refine lv_if_le hx hb d_ST_powerModulo_33 (tgt := 81) (by decide) (fun h33 => ?_) (fun h33 => ?_)
      · rw [lg_cmp_le] at h33
        rw [if_pos h33] at hr
        refine lv_lload hx hb d_ST_powerModulo_81 (lv_at hl 3 rfl) ?_
        exact xg_lret hx hb ht hl0 hr d_ST_powerModulo_83
      · rw [lg_cmp_le] at h33
        rw [if_neg h33] at hr
        refine lv_lload hx hb d_ST_powerModulo_36 (lv_at hl 1 rfl) ?_
        refine lv_lconst (v := (1 : Int64)) hx hb d_ST_powerModulo_38 (by decide) ?_
        refine lv_land hx hb d_ST_powerModulo_39 ?_
        refine lv_lconst (v := (1 : Int64)) hx hb d_ST_powerModulo_40 (by decide) ?_
        refine W.lcmp hx hb d_ST_powerModulo_41 ?_
        refine lv_if_ne hx hb d_ST_powerModulo_42 (tgt := 57) (by decide) (fun h42 => ?_) (fun h42 => ?_)
        · rw [lg_cmp_eq] at h42
          rw [if_neg h42] at hr
          refine lv_lload hx hb d_ST_powerModulo_57 (lv_at hl 2 rfl) ?_
          refine lv_lload hx hb d_ST_powerModulo_59 (lv_at hl 2 rfl) ?_
          refine lv_lmul hx hb d_ST_powerModulo_61 ?_
          refine lv_lload hx hb d_ST_powerModulo_62 (lv_at hl 6 rfl) ?_
          refine xg_read (xg_runS (rest := []) (kw := 0) si_ST_256 hg hw S (ct_ST_rest l hg s.heap (square * square) modulus ) ⟨by decide, by decide, by decide, by decide⟩ rfl hl.1 rfl (by decide) d_ST_powerModulo_64) ?_
          refine lv_lstore hx hb d_ST_powerModulo_67 hl (by decide) rfl (fun ls hl => ?_)
          have hl : lv_has ls 13 [(8, .long (f_ST_rest (square * square) modulus)), (12, .int bit), (10, .long left), (6, .long result), (0, .long base), (2, .long exponent), (4, .long modulus)] := hl
          refine lv_lload hx hb d_ST_powerModulo_69 (lv_at hl 2 rfl) ?_
          refine lv_iconst (v := (1 : Int32)) hx hb d_ST_powerModulo_71 (by decide) ?_
          refine lv_lshr hx hb d_ST_powerModulo_72 rfl ?_
          refine lv_lstore hx hb d_ST_powerModulo_73 hl (by decide) rfl (fun ls hl => ?_)
          have hl : lv_has ls 13 [(10, .long (left >>> ((1 : Int32).toInt64 &&& 63))), (8, .long (f_ST_rest (square * square) modulus)), (12, .int bit), (6, .long result), (0, .long base), (2, .long exponent), (4, .long modulus)] := hl
          refine lv_iinc (v := bit + (1 : Int32)) hx hb d_ST_powerModulo_75 hl (k := 2) rfl rfl (by decide) rfl (fun ls hl => ?_)
          have hl : lv_has ls 13 [(12, .int (bit + (1 : Int32))), (10, .long (left >>> ((1 : Int32).toInt64 &&& 63))), (8, .long (f_ST_rest (square * square) modulus)), (6, .long result), (0, .long base), (2, .long exponent), (4, .long modulus)] := hl
          refine lv_goto hx hb d_ST_powerModulo_78 (tgt := 22) (by decide) ?_
          exact ih result (f_ST_rest (square * square) modulus) (left >>> ((1 : Int32).toInt64 &&& 63)) (bit + (1 : Int32)) r ls hr (xi_up h26 hmu) (lv_sub hl [0, 1, 2, 3, 4, 5, 6] rfl)
        · rw [lg_cmp_eq] at h42
          rw [if_pos h42] at hr
          refine lv_lload hx hb d_ST_powerModulo_45 (lv_at hl 3 rfl) ?_
          refine lv_lload hx hb d_ST_powerModulo_47 (lv_at hl 2 rfl) ?_
          refine lv_lmul hx hb d_ST_powerModulo_49 ?_
          refine lv_lload hx hb d_ST_powerModulo_50 (lv_at hl 6 rfl) ?_
          refine xg_read (xg_runS (rest := []) (kw := 0) si_ST_256 hg hw S (ct_ST_rest l hg s.heap (result * square) modulus ) ⟨by decide, by decide, by decide, by decide⟩ rfl hl.1 rfl (by decide) d_ST_powerModulo_52) ?_
          refine lv_lstore hx hb d_ST_powerModulo_55 hl (by decide) rfl (fun ls hl => ?_)
          have hl : lv_has ls 13 [(6, .long (f_ST_rest (result * square) modulus)), (12, .int bit), (10, .long left), (8, .long square), (0, .long base), (2, .long exponent), (4, .long modulus)] := hl
          refine lv_lload hx hb d_ST_powerModulo_57 (lv_at hl 3 rfl) ?_
          refine lv_lload hx hb d_ST_powerModulo_59 (lv_at hl 3 rfl) ?_
          refine lv_lmul hx hb d_ST_powerModulo_61 ?_
          refine lv_lload hx hb d_ST_powerModulo_62 (lv_at hl 6 rfl) ?_
          refine xg_read (xg_runS (rest := []) (kw := 0) si_ST_256 hg hw S (ct_ST_rest l hg s.heap (square * square) modulus ) ⟨by decide, by decide, by decide, by decide⟩ rfl hl.1 rfl (by decide) d_ST_powerModulo_64) ?_
          refine lv_lstore hx hb d_ST_powerModulo_67 hl (by decide) rfl (fun ls hl => ?_)
          have hl : lv_has ls 13 [(8, .long (f_ST_rest (square * square) modulus)), (6, .long (f_ST_rest (result * square) modulus)), (12, .int bit), (10, .long left), (0, .long base), (2, .long exponent), (4, .long modulus)] := hl
          refine lv_lload hx hb d_ST_powerModulo_69 (lv_at hl 3 rfl) ?_
          refine lv_iconst (v := (1 : Int32)) hx hb d_ST_powerModulo_71 (by decide) ?_
          refine lv_lshr hx hb d_ST_powerModulo_72 rfl ?_
          refine lv_lstore hx hb d_ST_powerModulo_73 hl (by decide) rfl (fun ls hl => ?_)
          have hl : lv_has ls 13 [(10, .long (left >>> ((1 : Int32).toInt64 &&& 63))), (8, .long (f_ST_rest (square * square) modulus)), (6, .long (f_ST_rest (result * square) modulus)), (12, .int bit), (0, .long base), (2, .long exponent), (4, .long modulus)] := hl
          refine lv_iinc (v := bit + (1 : Int32)) hx hb d_ST_powerModulo_75 hl (k := 3) rfl rfl (by decide) rfl (fun ls hl => ?_)
          have hl : lv_has ls 13 [(12, .int (bit + (1 : Int32))), (10, .long (left >>> ((1 : Int32).toInt64 &&& 63))), (8, .long (f_ST_rest (square * square) modulus)), (6, .long (f_ST_rest (result * square) modulus)), (0, .long base), (2, .long exponent), (4, .long modulus)] := hl
          refine lv_goto hx hb d_ST_powerModulo_78 (tgt := 22) (by decide) ?_
          exact ih (f_ST_rest (result * square) modulus) (f_ST_rest (square * square) modulus) (left >>> ((1 : Int32).toInt64 &&& 63)) (bit + (1 : Int32)) r ls hr (xi_up h26 hmu) (lv_sub hl [0, 1, 2, 3, 4, 5, 6] rfl)
set_option maxHeartbeats 4000000 in
set_option maxRecDepth 100000 in
theorem ct_ST_powerModulo (l : Launch) {G : xg_G} (hg : xg_F G) (H : Heap) (base : Int64) (exponent : Int64) (modulus : Int64)  : xc_Met l y_ST_powerModulo (.code y_ST_powerModulo b_ST_powerModulo 13 (some .long)) ({ frames := 1, cells := 0, slots := 0, locals := 17 } : Room) (xg_Pc G [.long base, .long exponent, .long modulus] H) (xc_ro (some (.long (f_ST_powerModulo base exponent modulus))) H) (fun _ => False) := by
  refine xc_ofW (by decide) ?_
  intro p e s m args below meth c s₁ B hml hE hv
  obtain ⟨rfl, rfl, hw⟩ := hv
  have hx := B.exec
  have hb := B.bytes
  have ht := B.returns
  have hl0 := B.notSynchronized
  have S : xc_Fix p m c b_ST_powerModulo 13 s "SealTrust" := ⟨hx, hb, hml, findClass_of_methodNamed B.named⟩
  have hl := lv_entry ([.long base, .long exponent, .long modulus]) (n := 13) (Nat.le_of_ble_eq_true rfl)
  rw [lg_entry_eq]
  generalize (lg_sl ([.long base, .long exponent, .long modulus]) ++ List.replicate (13 - (lg_sl ([.long base, .long exponent, .long modulus])).length) Slot.unset).toArray = ls at hl ⊢
  have hl : lv_has ls 13 [(0, .long base), (2, .long exponent), (4, .long modulus)] := hl
  obtain ⟨r, hr⟩ : ∃ r, f_ST_powerModulo base exponent modulus = r := ⟨_, rfl⟩
  rw [hr]
  unfold f_ST_powerModulo at hr
  refine lv_lconst (v := (1 : Int64)) hx hb d_ST_powerModulo_0 (by decide) ?_
  refine lv_lload hx hb d_ST_powerModulo_1 (lv_at hl 2 rfl) ?_
  refine xg_read (xg_runS (rest := []) (kw := 0) si_ST_256 hg hw S (ct_ST_rest l hg s.heap (1 : Int64) modulus ) ⟨by decide, by decide, by decide, by decide⟩ rfl hl.1 rfl (by decide) d_ST_powerModulo_3) ?_
  refine lv_lstore hx hb d_ST_powerModulo_6 hl (by decide) rfl (fun ls hl => ?_)
  have hl : lv_has ls 13 [(6, .long (f_ST_rest (1 : Int64) modulus)), (0, .long base), (2, .long exponent), (4, .long modulus)] := hl
  refine lv_lload_n hx hb d_ST_powerModulo_8 rfl (lv_at hl 1 rfl) ?_
  refine lv_lload hx hb d_ST_powerModulo_9 (lv_at hl 3 rfl) ?_
  refine xg_read (xg_runS (rest := []) (kw := 0) si_ST_256 hg hw S (ct_ST_rest l hg s.heap base modulus ) ⟨by decide, by decide, by decide, by decide⟩ rfl hl.1 rfl (by decide) d_ST_powerModulo_11) ?_
  refine lv_lstore hx hb d_ST_powerModulo_14 hl (by decide) rfl (fun ls hl => ?_)
  have hl : lv_has ls 13 [(8, .long (f_ST_rest base modulus)), (6, .long (f_ST_rest (1 : Int64) modulus)), (0, .long base), (2, .long exponent), (4, .long modulus)] := hl
  refine lv_lload_n hx hb d_ST_powerModulo_16 rfl (lv_at hl 3 rfl) ?_
  refine lv_lstore hx hb d_ST_powerModulo_17 hl (by decide) rfl (fun ls hl => ?_)
  have hl : lv_has ls 13 [(10, .long exponent), (8, .long (f_ST_rest base modulus)), (6, .long (f_ST_rest (1 : Int64) modulus)), (0, .long base), (2, .long exponent), (4, .long modulus)] := hl
  refine lv_iconst (v := (0 : Int32)) hx hb d_ST_powerModulo_19 (by decide) ?_
  refine lv_istore hx hb d_ST_powerModulo_20 hl (by decide) rfl (fun ls hl => ?_)
  have hl : lv_has ls 13 [(12, .int (0 : Int32)), (10, .long exponent), (8, .long (f_ST_rest base modulus)), (6, .long (f_ST_rest (1 : Int64) modulus)), (0, .long base), (2, .long exponent), (4, .long modulus)] := hl
  exact wl_ST_powerModulo_22 hg hw S hl0 ht  64 (f_ST_rest (1 : Int64) modulus) (f_ST_rest base modulus) exponent (0 : Int32) r ls hr (by decide) (lv_sub hl [0, 1, 2, 3, 4, 5, 6] rfl)
def lf_KE_weight_10 (mask : Int32) (i : Int32) : Nat → Int64 → Int64 → Int32 → Int64
  | 0, _, _, _ => 0
  | n + 1, above, below_, j => if (6 : Int32) ≤ j then (if below_ = (0 : Int64) then (0 : Int64) else (above / below_)) else (if j = i then (lf_KE_weight_10 mask i n above below_ (j + (1 : Int32))) else (if (f_ST_isIn mask j) = 0 then (lf_KE_weight_10 mask i n above below_ (j + (1 : Int32))) else (lf_KE_weight_10 mask i n (above * ((j + (1 : Int32)).toInt64)) (below_ * ((j - i).toInt64)) (j + (1 : Int32)))))
def f_KE_weight (mask : Int32) (i : Int32) : Int64 := lf_KE_weight_10 mask i 7 (720 : Int64) (1 : Int64) (0 : Int32)
set_option maxHeartbeats 4000000 in
set_option maxRecDepth 100000 in
theorem wl_KE_weight_10 {p : Program} {l : Launch} {e : Env} {s : State} {m : MethodId} {args : Array Value} {below : List Frame} {meth : Method} {c : Code} {G : xg_G} {mask : Int32} {i : Int32} (hg : xg_F G) (hw : G.1.WarmedH s.vm) (S : xc_Fix p m c b_KE_weight 7 s "SealTrust$Key") (hl0 : meth.locks = false) (ht : meth.sig.returnType = (some .long))  : ∀ (n : Nat) (above : Int64) (below_ : Int64) (j : Int32) (r : Int64) (ls : Array Slot), lf_KE_weight_10 mask i n above below_ j = r → ((6 : Int32).toInt - j.toInt).toNat < n → lv_has ls 7 [(6, .int j), (4, .long below_), (2, .long above), (0, .int mask), (1, .int i)] → W p l e ({ frames := 1, cells := 0, slots := 0, locals := 13 } : Room) s m args below meth c s.heap [] 0 0 (xg_Z below (some (.long r)) args s) (F0 m 10 ls []) := by
  have hx := S.1
  have hb := S.2.1
  intro n
  induction n with
  | zero =>
    intro above below_ j r ls hr hmu hl
    omega
  | succ n ih =>
    intro above below_ j r ls hr hmu hl
    rw [lf_KE_weight_10] at hr
    refine lv_iload hx hb d_KE_weight_10 (lv_at hl 0 rfl) ?_
    refine lv_bipush (v := (6 : Int32)) hx hb d_KE_weight_12 (by decide) ?_
    refine lv_icmp_ge hx hb d_KE_weight_14 (tgt := 56) (by decide) (fun h14 => ?_) (fun h14 => ?_)
    · rw [if_pos h14] at hr
      refine lv_lload hx hb d_KE_weight_56 (lv_at hl 1 rfl) ?_
      refine lv_lconst (v := (0 : Int64)) hx hb d_KE_weight_58 (by decide) ?_
      refine W.lcmp hx hb d_KE_weight_59 ?_
      refine lv_if_ne hx hb d_KE_weight_60 (tgt := 67) (by decide) (fun h60 => ?_) (fun h60 => ?_)
      · rw [lg_cmp_eq] at h60
        rw [if_neg h60] at hr
        refine lv_lload_n hx hb d_KE_weight_67 rfl (lv_at hl 2 rfl) ?_
        refine lv_lload hx hb d_KE_weight_68 (lv_at hl 1 rfl) ?_
        refine lv_ldiv hx hb d_KE_weight_70 h60 ?_
        exact xg_lret hx hb ht hl0 hr d_KE_weight_71
      · rw [lg_cmp_eq] at h60
        rw [if_pos h60] at hr
        refine lv_lconst (v := (0 : Int64)) hx hb d_KE_weight_63 (by decide) ?_
        refine lv_goto hx hb d_KE_weight_64 (tgt := 71) (by decide) ?_
        exact xg_lret hx hb ht hl0 hr d_KE_weight_71
    · rw [if_neg h14] at hr
      refine lv_iload hx hb d_KE_weight_17 (lv_at hl 0 rfl) ?_
      refine lv_iload_n hx hb d_KE_weight_19 rfl (lv_at hl 4 rfl) ?_
      refine lv_icmp_eq hx hb d_KE_weight_20 (tgt := 50) (by decide) (fun h20 => ?_) (fun h20 => ?_)
      · rw [if_pos h20] at hr
        refine lv_iinc (v := j + (1 : Int32)) hx hb d_KE_weight_50 hl (k := 0) rfl rfl (by decide) rfl (fun ls hl => ?_)
        have hl : lv_has ls 7 [(6, .int (j + (1 : Int32))), (4, .long below_), (2, .long above), (0, .int mask), (1, .int i)] := hl
        refine lv_goto hx hb d_KE_weight_53 (tgt := 10) (by decide) ?_
        exact ih above below_ (j + (1 : Int32)) r ls hr (xi_up h14 hmu) (lv_sub hl [0, 1, 2, 3, 4] rfl)
      · rw [if_neg h20] at hr
        refine lv_iload_n hx hb d_KE_weight_23 rfl (lv_at hl 3 rfl) ?_
        refine lv_iload hx hb d_KE_weight_24 (lv_at hl 0 rfl) ?_
        refine xg_read (xg_runSN (rest := []) (kw := 0) si_KE_120 hg hw S (ct_ST_isIn l hg s.heap mask j ) ⟨by decide, by decide, by decide, by decide⟩ rfl hl.1 rfl (by decide) d_KE_weight_26) ?_
        refine lv_if_eq hx hb d_KE_weight_29 (tgt := 50) (by decide) (fun h29 => ?_) (fun h29 => ?_)
        · rw [if_pos h29] at hr
          refine lv_iinc (v := j + (1 : Int32)) hx hb d_KE_weight_50 hl (k := 0) rfl rfl (by decide) rfl (fun ls hl => ?_)
          have hl : lv_has ls 7 [(6, .int (j + (1 : Int32))), (4, .long below_), (2, .long above), (0, .int mask), (1, .int i)] := hl
          refine lv_goto hx hb d_KE_weight_53 (tgt := 10) (by decide) ?_
          exact ih above below_ (j + (1 : Int32)) r ls hr (xi_up h14 hmu) (lv_sub hl [0, 1, 2, 3, 4] rfl)
        · rw [if_neg h29] at hr
          refine lv_lload_n hx hb d_KE_weight_32 rfl (lv_at hl 2 rfl) ?_
          refine lv_iload hx hb d_KE_weight_33 (lv_at hl 0 rfl) ?_
          refine lv_iconst (v := (1 : Int32)) hx hb d_KE_weight_35 (by decide) ?_
          refine lv_iadd hx hb d_KE_weight_36 ?_
          refine lv_i2l hx hb d_KE_weight_37 rfl ?_
          refine lv_lmul hx hb d_KE_weight_38 ?_
          refine lv_lstore_n hx hb d_KE_weight_39 rfl hl (by decide) rfl (fun ls hl => ?_)
          have hl : lv_has ls 7 [(2, .long (above * ((j + (1 : Int32)).toInt64))), (6, .int j), (4, .long below_), (0, .int mask), (1, .int i)] := hl
          refine lv_lload hx hb d_KE_weight_40 (lv_at hl 2 rfl) ?_
          refine lv_iload hx hb d_KE_weight_42 (lv_at hl 1 rfl) ?_
          refine lv_iload_n hx hb d_KE_weight_44 rfl (lv_at hl 4 rfl) ?_
          refine lv_isub hx hb d_KE_weight_45 ?_
          refine lv_i2l hx hb d_KE_weight_46 rfl ?_
          refine lv_lmul hx hb d_KE_weight_47 ?_
          refine lv_lstore hx hb d_KE_weight_48 hl (by decide) rfl (fun ls hl => ?_)
          have hl : lv_has ls 7 [(4, .long (below_ * ((j - i).toInt64))), (2, .long (above * ((j + (1 : Int32)).toInt64))), (6, .int j), (0, .int mask), (1, .int i)] := hl
          refine lv_iinc (v := j + (1 : Int32)) hx hb d_KE_weight_50 hl (k := 2) rfl rfl (by decide) rfl (fun ls hl => ?_)
          have hl : lv_has ls 7 [(6, .int (j + (1 : Int32))), (4, .long (below_ * ((j - i).toInt64))), (2, .long (above * ((j + (1 : Int32)).toInt64))), (0, .int mask), (1, .int i)] := hl
          refine lv_goto hx hb d_KE_weight_53 (tgt := 10) (by decide) ?_
          exact ih (above * ((j + (1 : Int32)).toInt64)) (below_ * ((j - i).toInt64)) (j + (1 : Int32)) r ls hr (xi_up h14 hmu) (lv_sub hl [0, 1, 2, 3, 4] rfl)
set_option maxHeartbeats 4000000 in
set_option maxRecDepth 100000 in
theorem ct_KE_weight (l : Launch) {G : xg_G} (hg : xg_F G) (H : Heap) (mask : Int32) (i : Int32)  : xc_Met l y_KE_weight (.code y_KE_weight b_KE_weight 7 (some .long)) ({ frames := 1, cells := 0, slots := 0, locals := 13 } : Room) (xg_Pc G [.int mask, .int i] H) (xc_ro (some (.long (f_KE_weight mask i))) H) (fun _ => False) := by
  refine xc_ofW (by decide) ?_
  intro p e s m args below meth c s₁ B hml hE hv
  obtain ⟨rfl, rfl, hw⟩ := hv
  have hx := B.exec
  have hb := B.bytes
  have ht := B.returns
  have hl0 := B.notSynchronized
  have S : xc_Fix p m c b_KE_weight 7 s "SealTrust$Key" := ⟨hx, hb, hml, findClass_of_methodNamed B.named⟩
  have hl := lv_entry ([.int mask, .int i]) (n := 7) (Nat.le_of_ble_eq_true rfl)
  rw [lg_entry_eq]
  generalize (lg_sl ([.int mask, .int i]) ++ List.replicate (7 - (lg_sl ([.int mask, .int i])).length) Slot.unset).toArray = ls at hl ⊢
  have hl : lv_has ls 7 [(0, .int mask), (1, .int i)] := hl
  obtain ⟨r, hr⟩ : ∃ r, f_KE_weight mask i = r := ⟨_, rfl⟩
  rw [hr]
  unfold f_KE_weight at hr
  refine kc_KE_128 hg hw S d_KE_weight_0 ?_
  refine lv_lstore_n hx hb d_KE_weight_3 rfl hl (by decide) rfl (fun ls hl => ?_)
  have hl : lv_has ls 7 [(2, .long (720 : Int64)), (0, .int mask), (1, .int i)] := hl
  refine lv_lconst (v := (1 : Int64)) hx hb d_KE_weight_4 (by decide) ?_
  refine lv_lstore hx hb d_KE_weight_5 hl (by decide) rfl (fun ls hl => ?_)
  have hl : lv_has ls 7 [(4, .long (1 : Int64)), (2, .long (720 : Int64)), (0, .int mask), (1, .int i)] := hl
  refine lv_iconst (v := (0 : Int32)) hx hb d_KE_weight_7 (by decide) ?_
  refine lv_istore hx hb d_KE_weight_8 hl (by decide) rfl (fun ls hl => ?_)
  have hl : lv_has ls 7 [(6, .int (0 : Int32)), (4, .long (1 : Int64)), (2, .long (720 : Int64)), (0, .int mask), (1, .int i)] := hl
  exact wl_KE_weight_10 hg hw S hl0 ht  7 (720 : Int64) (1 : Int64) (0 : Int32) r ls hr (by decide) (lv_sub hl [0, 1, 2, 3, 4] rfl)
end
section
/-! small numbers: what isSafePrime asks of isPrime -/
theorem xs_small {k : Int32} (h : ¬ (32767 : Int32) < k) : k.toInt ≤ 32767 := by
  rw [Int32.lt_iff_toInt_lt] at h
  have h1 : (32767 : Int32).toInt = 32767 := by decide
  omega
theorem xs_half {k : Int32} (h : ¬ k < (20 : Int32)) (h2 : ¬ (32767 : Int32) < k) : ((k - (1 : Int32)) / (2 : Int32)).toInt ≤ 32767 := by
  rw [Int32.lt_iff_toInt_lt] at h h2
  have h1 : (32767 : Int32).toInt = 32767 := by decide
  have h3 : (20 : Int32).toInt = 20 := by decide
  have h4 : (1 : Int32).toInt = 1 := by decide
  have h5 : (2 : Int32).toInt = 2 := by decide
  have e1 : (k - 1).toInt = k.toInt - 1 := by
    rw [Int32.toInt_sub, h4]
    exact Int.bmod_eq_of_le (by omega) (by omega)
  rw [Int32.toInt_div_of_ne_right _ _ (by decide), e1, h5]
  rw [Int.tdiv_eq_ediv_of_nonneg (by omega)]
  omega
theorem xs_dec {x : Int32} (h : -2147483648 < x.toInt) : (x + (-1 : Int32)).toInt = x.toInt - 1 := by
  rw [Int32.toInt_add]
  have h1 := Int32.toInt_lt x
  have h2 : (-1 : Int32).toInt = -1 := by decide
  rw [h2]
  exact Int.bmod_eq_of_le (by omega) (by omega)
theorem xs_sub1 {x : Int32} (h : -2147483648 < x.toInt) : (x - (1 : Int32)).toInt = x.toInt - 1 := by
  rw [Int32.toInt_sub]
  have h1 := Int32.toInt_lt x
  have h2 : (1 : Int32).toInt = 1 := by decide
  rw [h2]
  exact Int.bmod_eq_of_le (by omega) (by omega)
theorem xs_start {n z : Int32} (h1 : 1 ≤ n.toInt) (h4 : n.toInt ≤ 4) (hz : 0 ≤ z.toInt) : -1 ≤ (n - (1 : Int32)).toInt ∧ (n - (1 : Int32)).toInt < ((6 : Nat) : Int) - 1 ∧ 0 ≤ z.toInt := by
  rw [xs_sub1 (by omega)]
  omega
theorem xs_down {i z : Int32} {n : Nat} (h : ¬ i < 0) (hz : ¬ (24 : Int32) ≤ z) (hmu : -1 ≤ i.toInt ∧ i.toInt < ((n + 1 : Nat) : Int) - 1 ∧ 0 ≤ z.toInt) : -1 ≤ (i + (-1 : Int32)).toInt ∧ (i + (-1 : Int32)).toInt < (n : Int) - 1 ∧ 0 ≤ (z + (1 : Int32)).toInt := by
  rw [Int32.lt_iff_toInt_lt] at h
  rw [Int32.le_iff_toInt_le] at hz
  have e0 : (0 : Int32).toInt = 0 := by decide
  have e1 : (24 : Int32).toInt = 24 := by decide
  rw [xs_dec (by omega), xi_inc (by omega)]
  omega
end
section
/-! the key, the buffer: methods that change nothing -/
def f_ST_isSafePrime (number : Int32) : Int32 := if number < (20 : Int32) then (0 : Int32) else (if (32767 : Int32) < number then (0 : Int32) else (if (f_ST_isPrime number) = 0 then (0 : Int32) else (if (f_ST_isPrime ((number - (1 : Int32)) / (2 : Int32))) = 0 then (0 : Int32) else (1 : Int32))))
set_option maxHeartbeats 4000000 in
set_option maxRecDepth 100000 in
theorem ct_ST_isSafePrime (l : Launch) {G : xg_G} (hg : xg_F G) (H : Heap) (number : Int32)  : xc_Met l y_ST_isSafePrime (.code y_ST_isSafePrime b_ST_isSafePrime 1 (some .boolean)) ({ frames := 1, cells := 0, slots := 0, locals := 13 } : Room) (xg_Pc G [.int number] H) (xc_ro (some (.int (f_ST_isSafePrime number))) H) (fun _ => False) := by
  refine xc_ofW (by decide) ?_
  intro p e s m args below meth c s₁ B hml hE hv
  obtain ⟨rfl, rfl, hw⟩ := hv
  have hx := B.exec
  have hb := B.bytes
  have ht := B.returns
  have hl0 := B.notSynchronized
  have S : xc_Fix p m c b_ST_isSafePrime 1 s "SealTrust" := ⟨hx, hb, hml, findClass_of_methodNamed B.named⟩
  have hl := lv_entry ([.int number]) (n := 1) (Nat.le_of_ble_eq_true rfl)
  rw [lg_entry_eq]
  generalize (lg_sl ([.int number]) ++ List.replicate (1 - (lg_sl ([.int number])).length) Slot.unset).toArray = ls at hl ⊢
  have hl : lv_has ls 1 [(0, .int number)] := hl
  obtain ⟨r, hr⟩ : ∃ r, f_ST_isSafePrime number = r := ⟨_, rfl⟩
  rw [hr]
  unfold f_ST_isSafePrime at hr
  refine lv_iload_n hx hb d_ST_isSafePrime_0 rfl (lv_at hl 0 rfl) ?_
  refine lv_bipush (v := (20 : Int32)) hx hb d_ST_isSafePrime_1 (by decide) ?_
  refine lv_icmp_lt hx hb d_ST_isSafePrime_3 (tgt := 35) (by decide) (fun h3 => ?_) (fun h3 => ?_)
  · rw [if_pos h3] at hr
    refine lv_iconst (v := (0 : Int32)) hx hb d_ST_isSafePrime_35 (by decide) ?_
    exact xg_zret hx hb ht hl0 rfl hr d_ST_isSafePrime_36
  · rw [if_neg h3] at hr
    refine lv_iload_n hx hb d_ST_isSafePrime_6 rfl (lv_at hl 0 rfl) ?_
    refine lv_sipush (v := (32767 : Int32)) hx hb d_ST_isSafePrime_7 (by decide) ?_
    refine lv_icmp_gt hx hb d_ST_isSafePrime_10 (tgt := 35) (by decide) (fun h10 => ?_) (fun h10 => ?_)
    · rw [if_pos h10] at hr
      refine lv_iconst (v := (0 : Int32)) hx hb d_ST_isSafePrime_35 (by decide) ?_
      exact xg_zret hx hb ht hl0 rfl hr d_ST_isSafePrime_36
    · rw [if_neg h10] at hr
      refine lv_iload_n hx hb d_ST_isSafePrime_13 rfl (lv_at hl 0 rfl) ?_
      refine xg_read (xg_runS (rest := []) (kw := 0) si_ST_249 hg hw S (ct_ST_isPrime l hg s.heap number (xs_small h10)) ⟨by decide, by decide, by decide, by decide⟩ rfl hl.1 rfl (Nat.le_of_ble_eq_true rfl) d_ST_isSafePrime_14) ?_
      refine lv_if_eq hx hb d_ST_isSafePrime_17 (tgt := 35) (by decide) (fun h17 => ?_) (fun h17 => ?_)
      · rw [if_pos h17] at hr
        refine lv_iconst (v := (0 : Int32)) hx hb d_ST_isSafePrime_35 (by decide) ?_
        exact xg_zret hx hb ht hl0 rfl hr d_ST_isSafePrime_36
      · rw [if_neg h17] at hr
        refine lv_iload_n hx hb d_ST_isSafePrime_20 rfl (lv_at hl 0 rfl) ?_
        refine lv_iconst (v := (1 : Int32)) hx hb d_ST_isSafePrime_21 (by decide) ?_
        refine lv_isub hx hb d_ST_isSafePrime_22 ?_
        refine lv_iconst (v := (2 : Int32)) hx hb d_ST_isSafePrime_23 (by decide) ?_
        refine lv_idiv hx hb d_ST_isSafePrime_24 (by decide) ?_
        refine xg_read (xg_runS (rest := []) (kw := 0) si_ST_249 hg hw S (ct_ST_isPrime l hg s.heap ((number - (1 : Int32)) / (2 : Int32)) (xs_half h3 h10)) ⟨by decide, by decide, by decide, by decide⟩ rfl hl.1 rfl (Nat.le_of_ble_eq_true rfl) d_ST_isSafePrime_25) ?_
        refine lv_if_eq hx hb d_ST_isSafePrime_28 (tgt := 35) (by decide) (fun h28 => ?_) (fun h28 => ?_)
        · rw [if_pos h28] at hr
          refine lv_iconst (v := (0 : Int32)) hx hb d_ST_isSafePrime_35 (by decide) ?_
          exact xg_zret hx hb ht hl0 rfl hr d_ST_isSafePrime_36
        · rw [if_neg h28] at hr
          refine lv_iconst (v := (1 : Int32)) hx hb d_ST_isSafePrime_31 (by decide) ?_
          refine lv_goto hx hb d_ST_isSafePrime_32 (tgt := 36) (by decide) ?_
          exact xg_zret hx hb ht hl0 rfl hr d_ST_isSafePrime_36
def f_KE_power (number : Int64) (exponent : Int64) (modulus : Int64) : Int64 := f_ST_powerModulo number exponent modulus
set_option maxHeartbeats 4000000 in
set_option maxRecDepth 100000 in
theorem ct_KE_power (l : Launch) {G : xg_G} (hg : xg_F G) (H : Heap) (k : Nat) (number : Int64) (exponent : Int64) (sh : Nat) (ch : Nat) (dealt : Int32) (epoch : Int64) (base : Int64) (whole : Int64) (signing : Int64) (pp : Int64) (qq : Int64) (modulus : Int64) (order : Int64) (hP : va_P G.2.1 cl_all [(k, .inr (1, [.ref sh, .ref ch, .int dealt, .long epoch, .long base, .long whole, .long signing, .long pp, .long qq, .long modulus, .long order]))] H)  : xc_Met l y_KE_power (.code y_KE_power b_KE_power 5 (some .long)) ({ frames := 2, cells := 0, slots := 0, locals := 41 } : Room) (xg_Pc G [.ref k, .long number, .long exponent] H) (xc_ro (some (.long (f_KE_power number exponent modulus))) H) (fun _ => False) := by
  refine xc_ofW (by decide) ?_
  intro p e s m args below meth c s₁ B hml hE hv
  obtain ⟨rfl, rfl, hw⟩ := hv
  have hx := B.exec
  have hb := B.bytes
  have ht := B.returns
  have hl0 := B.notSynchronized
  have S : xc_Fix p m c b_KE_power 5 s "SealTrust$Key" := ⟨hx, hb, hml, findClass_of_methodNamed B.named⟩
  have hl := lv_entry ([.ref k, .long number, .long exponent]) (n := 5) (Nat.le_of_ble_eq_true rfl)
  rw [lg_entry_eq]
  generalize (lg_sl ([.ref k, .long number, .long exponent]) ++ List.replicate (5 - (lg_sl ([.ref k, .long number, .long exponent])).length) Slot.unset).toArray = ls at hl ⊢
  have hl : lv_has ls 5 [(0, .ref k), (1, .long number), (3, .long exponent)] := hl
  obtain ⟨r, hr⟩ : ∃ r, f_KE_power number exponent modulus = r := ⟨_, rfl⟩
  rw [hr]
  unfold f_KE_power at hr
  refine lv_lload_n hx hb d_KE_power_0 rfl (lv_at hl 1 rfl) ?_
  refine lv_lload_n hx hb d_KE_power_1 rfl (lv_at hl 2 rfl) ?_
  refine lv_aload_n hx hb d_KE_power_2 rfl (lv_at hl 0 rfl) ?_
  refine gf_KE_25 hg hw S hP 0 rfl rfl d_KE_power_3 ?_
  refine xg_read (xg_runSN (rest := []) (kw := 0) si_KE_35 hg hw S (ct_ST_powerModulo l hg s.heap number exponent modulus ) ⟨by decide, by decide, by decide, by decide⟩ rfl hl.1 rfl (Nat.le_of_ble_eq_true rfl) d_KE_power_6) ?_
  exact xg_lret hx hb ht hl0 hr d_KE_power_9
def f_KE_times (a : Int64) (b : Int64) (modulus : Int64) : Int64 := f_ST_rest (a * b) modulus
set_option maxHeartbeats 4000000 in
set_option maxRecDepth 100000 in
theorem ct_KE_times (l : Launch) {G : xg_G} (hg : xg_F G) (H : Heap) (k : Nat) (a : Int64) (b : Int64) (sh : Nat) (ch : Nat) (dealt : Int32) (epoch : Int64) (base : Int64) (whole : Int64) (signing : Int64) (pp : Int64) (qq : Int64) (modulus : Int64) (order : Int64) (hP : va_P G.2.1 cl_all [(k, .inr (1, [.ref sh, .ref ch, .int dealt, .long epoch, .long base, .long whole, .long signing, .long pp, .long qq, .long modulus, .long order]))] H)  : xc_Met l y_KE_times (.code y_KE_times b_KE_times 5 (some .long)) ({ frames := 1, cells := 0, slots := 0, locals := 17 } : Room) (xg_Pc G [.ref k, .long a, .long b] H) (xc_ro (some (.long (f_KE_times a b modulus))) H) (fun _ => False) := by
  refine xc_ofW (by decide) ?_
  intro p e s m args below meth c s₁ B hml hE hv
  obtain ⟨rfl, rfl, hw⟩ := hv
  have hx := B.exec
  have hb := B.bytes
  have ht := B.returns
  have hl0 := B.notSynchronized
  have S : xc_Fix p m c b_KE_times 5 s "SealTrust$Key" := ⟨hx, hb, hml, findClass_of_methodNamed B.named⟩
  have hl := lv_entry ([.ref k, .long a, .long b]) (n := 5) (Nat.le_of_ble_eq_true rfl)
  rw [lg_entry_eq]
  generalize (lg_sl ([.ref k, .long a, .long b]) ++ List.replicate (5 - (lg_sl ([.ref k, .long a, .long b])).length) Slot.unset).toArray = ls at hl ⊢
  have hl : lv_has ls 5 [(0, .ref k), (1, .long a), (3, .long b)] := hl
  obtain ⟨r, hr⟩ : ∃ r, f_KE_times a b modulus = r := ⟨_, rfl⟩
  rw [hr]
  unfold f_KE_times at hr
  refine lv_lload_n hx hb d_KE_times_0 rfl (lv_at hl 1 rfl) ?_
  refine lv_lload_n hx hb d_KE_times_1 rfl (lv_at hl 2 rfl) ?_
  refine lv_lmul hx hb d_KE_times_2 ?_
  refine lv_aload_n hx hb d_KE_times_3 rfl (lv_at hl 0 rfl) ?_
  refine gf_KE_25 hg hw S hP 0 rfl rfl d_KE_times_4 ?_
  refine xg_read (xg_runSN (rest := []) (kw := 0) si_KE_42 hg hw S (ct_ST_rest l hg s.heap (a * b) modulus ) ⟨by decide, by decide, by decide, by decide⟩ rfl hl.1 rfl (Nat.le_of_ble_eq_true rfl) d_KE_times_7) ?_
  exact xg_lret hx hb ht hl0 hr d_KE_times_10
def f_KE_inversePower (number : Int64) (ex : Int64) (modulus : Int64) (order : Int64) : Int64 := f_KE_power number (f_ST_rest (-ex) ((2 : Int64) * order)) modulus
set_option maxHeartbeats 4000000 in
set_option maxRecDepth 100000 in
theorem ct_KE_inversePower (l : Launch) {G : xg_G} (hg : xg_F G) (H : Heap) (k : Nat) (number : Int64) (ex : Int64) (sh : Nat) (ch : Nat) (dealt : Int32) (epoch : Int64) (base : Int64) (whole : Int64) (signing : Int64) (pp : Int64) (qq : Int64) (modulus : Int64) (order : Int64) (hP : va_P G.2.1 cl_all [(k, .inr (1, [.ref sh, .ref ch, .int dealt, .long epoch, .long base, .long whole, .long signing, .long pp, .long qq, .long modulus, .long order]))] H)  : xc_Met l y_KE_inversePower (.code y_KE_inversePower b_KE_inversePower 5 (some .long)) ({ frames := 3, cells := 0, slots := 0, locals := 57 } : Room) (xg_Pc G [.ref k, .long number, .long ex] H) (xc_ro (some (.long (f_KE_inversePower number ex modulus order))) H) (fun _ => False) := by
  refine xc_ofW (by decide) ?_
  intro p e s m args below meth c s₁ B hml hE hv
  obtain ⟨rfl, rfl, hw⟩ := hv
  have hx := B.exec
  have hb := B.bytes
  have ht := B.returns
  have hl0 := B.notSynchronized
  have S : xc_Fix p m c b_KE_inversePower 5 s "SealTrust$Key" := ⟨hx, hb, hml, findClass_of_methodNamed B.named⟩
  have hl := lv_entry ([.ref k, .long number, .long ex]) (n := 5) (Nat.le_of_ble_eq_true rfl)
  rw [lg_entry_eq]
  generalize (lg_sl ([.ref k, .long number, .long ex]) ++ List.replicate (5 - (lg_sl ([.ref k, .long number, .long ex])).length) Slot.unset).toArray = ls at hl ⊢
  have hl : lv_has ls 5 [(0, .ref k), (1, .long number), (3, .long ex)] := hl
  obtain ⟨r, hr⟩ : ∃ r, f_KE_inversePower number ex modulus order = r := ⟨_, rfl⟩
  rw [hr]
  unfold f_KE_inversePower at hr
  refine lv_aload_n hx hb d_KE_inversePower_0 rfl (lv_at hl 0 rfl) ?_
  refine lv_lload_n hx hb d_KE_inversePower_1 rfl (lv_at hl 1 rfl) ?_
  refine lv_lload_n hx hb d_KE_inversePower_2 rfl (lv_at hl 2 rfl) ?_
  refine lv_lneg hx hb d_KE_inversePower_3 ?_
  refine kc_KE_28 hg hw S d_KE_inversePower_4 ?_
  refine lv_aload_n hx hb d_KE_inversePower_7 rfl (lv_at hl 0 rfl) ?_
  refine gf_KE_30 hg hw S hP 0 rfl rfl d_KE_inversePower_8 ?_
  refine lv_lmul hx hb d_KE_inversePower_11 ?_
  refine xg_read (xg_runSN (rest := [.long number, .ref k]) (kw := 3) si_KE_42 hg hw S (ct_ST_rest l hg s.heap (-ex) ((2 : Int64) * order) ) ⟨by decide, by decide, by decide, by decide⟩ rfl hl.1 rfl (Nat.le_of_ble_eq_true rfl) d_KE_inversePower_12) ?_
  refine xg_read (xg_runV (rest := []) (kw := 0) si_KE_59 hg hw S (va_recv (xg_k hg hw) hP (ci := 1) rfl (q0 := 0) rfl) (ct_KE_power l hg s.heap k number (f_ST_rest (-ex) ((2 : Int64) * order)) sh ch dealt epoch base whole signing pp qq modulus order (hP.sub [0] rfl) ) ⟨by decide, by decide, by decide, by decide⟩ rfl hl.1 rfl (Nat.le_of_ble_eq_true rfl) d_KE_inversePower_15) ?_
  exact xg_lret hx hb ht hl0 hr d_KE_inversePower_18
def f_KE_isBelowModulus (number : Int64) (modulus : Int64) : Int32 := if number < (0 : Int64) then (0 : Int32) else (if modulus ≤ number then (0 : Int32) else (1 : Int32))
set_option maxHeartbeats 4000000 in
set_option maxRecDepth 100000 in
theorem ct_KE_isBelowModulus (l : Launch) {G : xg_G} (hg : xg_F G) (H : Heap) (k : Nat) (number : Int64) (sh : Nat) (ch : Nat) (dealt : Int32) (epoch : Int64) (base : Int64) (whole : Int64) (signing : Int64) (pp : Int64) (qq : Int64) (modulus : Int64) (order : Int64) (hP : va_P G.2.1 cl_all [(k, .inr (1, [.ref sh, .ref ch, .int dealt, .long epoch, .long base, .long whole, .long signing, .long pp, .long qq, .long modulus, .long order]))] H)  : xc_Met l y_KE_isBelowModulus (.code y_KE_isBelowModulus b_KE_isBelowModulus 3 (some .boolean)) ({ frames := 0, cells := 0, slots := 0, locals := 0 } : Room) (xg_Pc G [.ref k, .long number] H) (xc_ro (some (.int (f_KE_isBelowModulus number modulus))) H) (fun _ => False) := by
  refine xc_ofW (by decide) ?_
  intro p e s m args below meth c s₁ B hml hE hv
  obtain ⟨rfl, rfl, hw⟩ := hv
  have hx := B.exec
  have hb := B.bytes
  have ht := B.returns
  have hl0 := B.notSynchronized
  have S : xc_Fix p m c b_KE_isBelowModulus 3 s "SealTrust$Key" := ⟨hx, hb, hml, findClass_of_methodNamed B.named⟩
  have hl := lv_entry ([.ref k, .long number]) (n := 3) (Nat.le_of_ble_eq_true rfl)
  rw [lg_entry_eq]
  generalize (lg_sl ([.ref k, .long number]) ++ List.replicate (3 - (lg_sl ([.ref k, .long number])).length) Slot.unset).toArray = ls at hl ⊢
  have hl : lv_has ls 3 [(0, .ref k), (1, .long number)] := hl
  obtain ⟨r, hr⟩ : ∃ r, f_KE_isBelowModulus number modulus = r := ⟨_, rfl⟩
  rw [hr]
  unfold f_KE_isBelowModulus at hr
  refine lv_lload_n hx hb d_KE_isBelowModulus_0 rfl (lv_at hl 1 rfl) ?_
  refine lv_lconst (v := (0 : Int64)) hx hb d_KE_isBelowModulus_1 (by decide) ?_
  refine W.lcmp hx hb d_KE_isBelowModulus_2 ?_
  refine lv_if_lt hx hb d_KE_isBelowModulus_3 (tgt := 19) (by decide) (fun h3 => ?_) (fun h3 => ?_)
  · rw [lg_cmp_lt] at h3
    rw [if_pos h3] at hr
    refine lv_iconst (v := (0 : Int32)) hx hb d_KE_isBelowModulus_19 (by decide) ?_
    exact xg_zret hx hb ht hl0 rfl hr d_KE_isBelowModulus_20
  · rw [lg_cmp_lt] at h3
    rw [if_neg h3] at hr
    refine lv_lload_n hx hb d_KE_isBelowModulus_6 rfl (lv_at hl 1 rfl) ?_
    refine lv_aload_n hx hb d_KE_isBelowModulus_7 rfl (lv_at hl 0 rfl) ?_
    refine gf_KE_25 hg hw S hP 0 rfl rfl d_KE_isBelowModulus_8 ?_
    refine W.lcmp hx hb d_KE_isBelowModulus_11 ?_
    refine lv_if_ge hx hb d_KE_isBelowModulus_12 (tgt := 19) (by decide) (fun h12 => ?_) (fun h12 => ?_)
    · rw [lg_cmp_ge] at h12
      rw [if_pos h12] at hr
      refine lv_iconst (v := (0 : Int32)) hx hb d_KE_isBelowModulus_19 (by decide) ?_
      exact xg_zret hx hb ht hl0 rfl hr d_KE_isBelowModulus_20
    · rw [lg_cmp_ge] at h12
      rw [if_neg h12] at hr
      refine lv_iconst (v := (1 : Int32)) hx hb d_KE_isBelowModulus_15 (by decide) ?_
      refine lv_goto hx hb d_KE_isBelowModulus_16 (tgt := 20) (by decide) ?_
      exact xg_zret hx hb ht hl0 rfl hr d_KE_isBelowModulus_20
def f_KE_isPrimeToModulus (number : Int64) (pp : Int64) (qq : Int64) : Int32 := if (f_ST_rest number pp) = (0 : Int64) then (0 : Int32) else (if (f_ST_rest number qq) = (0 : Int64) then (0 : Int32) else (1 : Int32))
set_option maxHeartbeats 4000000 in
set_option maxRecDepth 100000 in
theorem ct_KE_isPrimeToModulus (l : Launch) {G : xg_G} (hg : xg_F G) (H : Heap) (k : Nat) (number : Int64) (sh : Nat) (ch : Nat) (dealt : Int32) (epoch : Int64) (base : Int64) (whole : Int64) (signing : Int64) (pp : Int64) (qq : Int64) (modulus : Int64) (order : Int64) (hP : va_P G.2.1 cl_all [(k, .inr (1, [.ref sh, .ref ch, .int dealt, .long epoch, .long base, .long whole, .long signing, .long pp, .long qq, .long modulus, .long order]))] H)  : xc_Met l y_KE_isPrimeToModulus (.code y_KE_isPrimeToModulus b_KE_isPrimeToModulus 3 (some .boolean)) ({ frames := 1, cells := 0, slots := 0, locals := 17 } : Room) (xg_Pc G [.ref k, .long number] H) (xc_ro (some (.int (f_KE_isPrimeToModulus number pp qq))) H) (fun _ => False) := by
  refine xc_ofW (by decide) ?_
  intro p e s m args below meth c s₁ B hml hE hv
  obtain ⟨rfl, rfl, hw⟩ := hv
  have hx := B.exec
  have hb := B.bytes
  have ht := B.returns
  have hl0 := B.notSynchronized
  have S : xc_Fix p m c b_KE_isPrimeToModulus 3 s "SealTrust$Key" := ⟨hx, hb, hml, findClass_of_methodNamed B.named⟩
  have hl := lv_entry ([.ref k, .long number]) (n := 3) (Nat.le_of_ble_eq_true rfl)
  rw [lg_entry_eq]
  generalize (lg_sl ([.ref k, .long number]) ++ List.replicate (3 - (lg_sl ([.ref k, .long number])).length) Slot.unset).toArray = ls at hl ⊢
  have hl : lv_has ls 3 [(0, .ref k), (1, .long number)] := hl
  obtain ⟨r, hr⟩ : ∃ r, f_KE_isPrimeToModulus number pp qq = r := ⟨_, rfl⟩
  rw [hr]
  unfold f_KE_isPrimeToModulus at hr
  refine lv_lload_n hx hb d_KE_isPrimeToModulus_0 rfl (lv_at hl 1 rfl) ?_
  refine lv_aload_n hx hb d_KE_isPrimeToModulus_1 rfl (lv_at hl 0 rfl) ?_
  refine gf_KE_18 hg hw S hP 0 rfl rfl d_KE_isPrimeToModulus_2 ?_
  refine xg_read (xg_runSN (rest := []) (kw := 0) si_KE_42 hg hw S (ct_ST_rest l hg s.heap number pp ) ⟨by decide, by decide, by decide, by decide⟩ rfl hl.1 rfl (Nat.le_of_ble_eq_true rfl) d_KE_isPrimeToModulus_5) ?_
  refine lv_lconst (v := (0 : Int64)) hx hb d_KE_isPrimeToModulus_8 (by decide) ?_
  refine W.lcmp hx hb d_KE_isPrimeToModulus_9 ?_
  refine lv_if_eq hx hb d_KE_isPrimeToModulus_10 (tgt := 30) (by decide) (fun h10 => ?_) (fun h10 => ?_)
  · rw [lg_cmp_eq] at h10
    rw [if_pos h10] at hr
    refine lv_iconst (v := (0 : Int32)) hx hb d_KE_isPrimeToModulus_30 (by decide) ?_
    exact xg_zret hx hb ht hl0 rfl hr d_KE_isPrimeToModulus_31
  · rw [lg_cmp_eq] at h10
    rw [if_neg h10] at hr
    refine lv_lload_n hx hb d_KE_isPrimeToModulus_13 rfl (lv_at hl 1 rfl) ?_
    refine lv_aload_n hx hb d_KE_isPrimeToModulus_14 rfl (lv_at hl 0 rfl) ?_
    refine gf_KE_22 hg hw S hP 0 rfl rfl d_KE_isPrimeToModulus_15 ?_
    refine xg_read (xg_runSN (rest := []) (kw := 0) si_KE_42 hg hw S (ct_ST_rest l hg s.heap number qq ) ⟨by decide, by decide, by decide, by decide⟩ rfl hl.1 rfl (Nat.le_of_ble_eq_true rfl) d_KE_isPrimeToModulus_18) ?_
    refine lv_lconst (v := (0 : Int64)) hx hb d_KE_isPrimeToModulus_21 (by decide) ?_
    refine W.lcmp hx hb d_KE_isPrimeToModulus_22 ?_
    refine lv_if_eq hx hb d_KE_isPrimeToModulus_23 (tgt := 30) (by decide) (fun h23 => ?_) (fun h23 => ?_)
    · rw [lg_cmp_eq] at h23
      rw [if_pos h23] at hr
      refine lv_iconst (v := (0 : Int32)) hx hb d_KE_isPrimeToModulus_30 (by decide) ?_
      exact xg_zret hx hb ht hl0 rfl hr d_KE_isPrimeToModulus_31
    · rw [lg_cmp_eq] at h23
      rw [if_neg h23] at hr
      refine lv_iconst (v := (1 : Int32)) hx hb d_KE_isPrimeToModulus_26 (by decide) ?_
      refine lv_goto hx hb d_KE_isPrimeToModulus_27 (tgt := 31) (by decide) ?_
      exact xg_zret hx hb ht hl0 rfl hr d_KE_isPrimeToModulus_31
def f_KE_signatureOf (blk : Int64) (signing : Int64) (modulus : Int64) : Int64 := f_KE_power blk signing modulus
set_option maxHeartbeats 4000000 in
set_option maxRecDepth 100000 in
theorem ct_KE_signatureOf (l : Launch) {G : xg_G} (hg : xg_F G) (H : Heap) (k : Nat) (blk : Int64) (sh : Nat) (ch : Nat) (dealt : Int32) (epoch : Int64) (base : Int64) (whole : Int64) (signing : Int64) (pp : Int64) (qq : Int64) (modulus : Int64) (order : Int64) (hP : va_P G.2.1 cl_all [(k, .inr (1, [.ref sh, .ref ch, .int dealt, .long epoch, .long base, .long whole, .long signing, .long pp, .long qq, .long modulus, .long order]))] H)  : xc_Met l y_KE_signatureOf (.code y_KE_signatureOf b_KE_signatureOf 3 (some .long)) ({ frames := 3, cells := 0, slots := 0, locals := 57 } : Room) (xg_Pc G [.ref k, .long blk] H) (xc_ro (some (.long (f_KE_signatureOf blk signing modulus))) H) (fun _ => False) := by
  refine xc_ofW (by decide) ?_
  intro p e s m args below meth c s₁ B hml hE hv
  obtain ⟨rfl, rfl, hw⟩ := hv
  have hx := B.exec
  have hb := B.bytes
  have ht := B.returns
  have hl0 := B.notSynchronized
  have S : xc_Fix p m c b_KE_signatureOf 3 s "SealTrust$Key" := ⟨hx, hb, hml, findClass_of_methodNamed B.named⟩
  have hl := lv_entry ([.ref k, .long blk]) (n := 3) (Nat.le_of_ble_eq_true rfl)
  rw [lg_entry_eq]
  generalize (lg_sl ([.ref k, .long blk]) ++ List.replicate (3 - (lg_sl ([.ref k, .long blk])).length) Slot.unset).toArray = ls at hl ⊢
  have hl : lv_has ls 3 [(0, .ref k), (1, .long blk)] := hl
  obtain ⟨r, hr⟩ : ∃ r, f_KE_signatureOf blk signing modulus = r := ⟨_, rfl⟩
  rw [hr]
  unfold f_KE_signatureOf at hr
  refine lv_aload_n hx hb d_KE_signatureOf_0 rfl (lv_at hl 0 rfl) ?_
  refine lv_lload_n hx hb d_KE_signatureOf_1 rfl (lv_at hl 1 rfl) ?_
  refine lv_aload_n hx hb d_KE_signatureOf_2 rfl (lv_at hl 0 rfl) ?_
  refine gf_KE_39 hg hw S hP 0 rfl rfl d_KE_signatureOf_3 ?_
  refine xg_read (xg_runV (rest := []) (kw := 0) si_KE_59 hg hw S (va_recv (xg_k hg hw) hP (ci := 1) rfl (q0 := 0) rfl) (ct_KE_power l hg s.heap k blk signing sh ch dealt epoch base whole signing pp qq modulus order (hP.sub [0] rfl) ) ⟨by decide, by decide, by decide, by decide⟩ rfl hl.1 rfl (Nat.le_of_ble_eq_true rfl) d_KE_signatureOf_6) ?_
  exact xg_lret hx hb ht hl0 hr d_KE_signatureOf_9
def f_KE_isSignature (number : Int64) (blk : Int64) (modulus : Int64) : Int32 := if (f_KE_isBelowModulus number modulus) = 0 then (0 : Int32) else (if (f_KE_power number (65537 : Int64) modulus) = blk then (1 : Int32) else (0 : Int32))
set_option maxHeartbeats 4000000 in
set_option maxRecDepth 100000 in
theorem ct_KE_isSignature (l : Launch) {G : xg_G} (hg : xg_F G) (H : Heap) (k : Nat) (number : Int64) (blk : Int64) (sh : Nat) (ch : Nat) (dealt : Int32) (epoch : Int64) (base : Int64) (whole : Int64) (signing : Int64) (pp : Int64) (qq : Int64) (modulus : Int64) (order : Int64) (hP : va_P G.2.1 cl_all [(k, .inr (1, [.ref sh, .ref ch, .int dealt, .long epoch, .long base, .long whole, .long signing, .long pp, .long qq, .long modulus, .long order]))] H)  : xc_Met l y_KE_isSignature (.code y_KE_isSignature b_KE_isSignature 5 (some .boolean)) ({ frames := 3, cells := 0, slots := 0, locals := 57 } : Room) (xg_Pc G [.ref k, .long number, .long blk] H) (xc_ro (some (.int (f_KE_isSignature number blk modulus))) H) (fun _ => False) := by
  refine xc_ofW (by decide) ?_
  intro p e s m args below meth c s₁ B hml hE hv
  obtain ⟨rfl, rfl, hw⟩ := hv
  have hx := B.exec
  have hb := B.bytes
  have ht := B.returns
  have hl0 := B.notSynchronized
  have S : xc_Fix p m c b_KE_isSignature 5 s "SealTrust$Key" := ⟨hx, hb, hml, findClass_of_methodNamed B.named⟩
  have hl := lv_entry ([.ref k, .long number, .long blk]) (n := 5) (Nat.le_of_ble_eq_true rfl)
  rw [lg_entry_eq]
  generalize (lg_sl ([.ref k, .long number, .long blk]) ++ List.replicate (5 - (lg_sl ([.ref k, .long number, .long blk])).length) Slot.unset).toArray = ls at hl ⊢
  have hl : lv_has ls 5 [(0, .ref k), (1, .long number), (3, .long blk)] := hl
  obtain ⟨r, hr⟩ : ∃ r, f_KE_isSignature number blk modulus = r := ⟨_, rfl⟩
  rw [hr]
  unfold f_KE_isSignature at hr
  refine lv_aload_n hx hb d_KE_isSignature_0 rfl (lv_at hl 0 rfl) ?_
  refine lv_lload_n hx hb d_KE_isSignature_1 rfl (lv_at hl 1 rfl) ?_
  refine xg_read (xg_runV (rest := []) (kw := 0) si_KE_70 hg hw S (va_recv (xg_k hg hw) hP (ci := 1) rfl (q0 := 0) rfl) (ct_KE_isBelowModulus l hg s.heap k number sh ch dealt epoch base whole signing pp qq modulus order (hP.sub [0] rfl) ) ⟨by decide, by decide, by decide, by decide⟩ rfl hl.1 rfl (Nat.le_of_ble_eq_true rfl) d_KE_isSignature_2) ?_
  refine lv_if_eq hx hb d_KE_isSignature_5 (tgt := 25) (by decide) (fun h5 => ?_) (fun h5 => ?_)
  · rw [if_pos h5] at hr
    refine lv_iconst (v := (0 : Int32)) hx hb d_KE_isSignature_25 (by decide) ?_
    exact xg_zret hx hb ht hl0 rfl hr d_KE_isSignature_26
  · rw [if_neg h5] at hr
    refine lv_aload_n hx hb d_KE_isSignature_8 rfl (lv_at hl 0 rfl) ?_
    refine lv_lload_n hx hb d_KE_isSignature_9 rfl (lv_at hl 1 rfl) ?_
    refine kc_KE_33 hg hw S d_KE_isSignature_10 ?_
    refine xg_read (xg_runV (rest := []) (kw := 0) si_KE_59 hg hw S (va_recv (xg_k hg hw) hP (ci := 1) rfl (q0 := 0) rfl) (ct_KE_power l hg s.heap k number (65537 : Int64) sh ch dealt epoch base whole signing pp qq modulus order (hP.sub [0] rfl) ) ⟨by decide, by decide, by decide, by decide⟩ rfl hl.1 rfl (Nat.le_of_ble_eq_true rfl) d_KE_isSignature_13) ?_
    refine lv_lload_n hx hb d_KE_isSignature_16 rfl (lv_at hl 2 rfl) ?_
    refine W.lcmp hx hb d_KE_isSignature_17 ?_
    refine lv_if_ne hx hb d_KE_isSignature_18 (tgt := 25) (by decide) (fun h18 => ?_) (fun h18 => ?_)
    · rw [lg_cmp_eq] at h18
      rw [if_neg h18] at hr
      refine lv_iconst (v := (0 : Int32)) hx hb d_KE_isSignature_25 (by decide) ?_
      exact xg_zret hx hb ht hl0 rfl hr d_KE_isSignature_26
    · rw [lg_cmp_eq] at h18
      rw [if_pos h18] at hr
      refine lv_iconst (v := (1 : Int32)) hx hb d_KE_isSignature_21 (by decide) ?_
      refine lv_goto hx hb d_KE_isSignature_22 (tgt := 26) (by decide) ?_
      exact xg_zret hx hb ht hl0 rfl hr d_KE_isSignature_26
def f_BU_count (size : Int32) : Int32 := size
set_option maxHeartbeats 4000000 in
set_option maxRecDepth 100000 in
theorem ct_BU_count (l : Launch) {G : xg_G} (hg : xg_F G) (H : Heap) (bu : Nat) (bys : Nat) (size : Int32) (hP : va_P G.2.1 cl_all [(bu, .inr (0, [.ref bys, .int size]))] H)  : xc_Met l y_BU_count (.code y_BU_count b_BU_count 1 (some .int)) ({ frames := 0, cells := 0, slots := 0, locals := 0 } : Room) (xg_Pc G [.ref bu] H) (xc_ro (some (.int (f_BU_count size))) H) (fun _ => False) := by
  refine xc_ofW (by decide) ?_
  intro p e s m args below meth c s₁ B hml hE hv
  obtain ⟨rfl, rfl, hw⟩ := hv
  have hx := B.exec
  have hb := B.bytes
  have ht := B.returns
  have hl0 := B.notSynchronized
  have S : xc_Fix p m c b_BU_count 1 s "SealTrust$Buffer" := ⟨hx, hb, hml, findClass_of_methodNamed B.named⟩
  have hl := lv_entry ([.ref bu]) (n := 1) (Nat.le_of_ble_eq_true rfl)
  rw [lg_entry_eq]
  generalize (lg_sl ([.ref bu]) ++ List.replicate (1 - (lg_sl ([.ref bu])).length) Slot.unset).toArray = ls at hl ⊢
  have hl : lv_has ls 1 [(0, .ref bu)] := hl
  obtain ⟨r, hr⟩ : ∃ r, f_BU_count size = r := ⟨_, rfl⟩
  rw [hr]
  unfold f_BU_count at hr
  refine lv_aload_n hx hb d_BU_count_0 rfl (lv_at hl 0 rfl) ?_
  refine gf_BU_15 hg hw S hP 0 rfl rfl d_BU_count_1 ?_
  exact xg_iret hx hb ht hl0 hr d_BU_count_4
def f_BU_room (size : Int32) : Int32 := (24 : Int32) - size
set_option maxHeartbeats 4000000 in
set_option maxRecDepth 100000 in
theorem ct_BU_room (l : Launch) {G : xg_G} (hg : xg_F G) (H : Heap) (bu : Nat) (bys : Nat) (size : Int32) (hP : va_P G.2.1 cl_all [(bu, .inr (0, [.ref bys, .int size]))] H)  : xc_Met l y_BU_room (.code y_BU_room b_BU_room 1 (some .int)) ({ frames := 0, cells := 0, slots := 0, locals := 0 } : Room) (xg_Pc G [.ref bu] H) (xc_ro (some (.int (f_BU_room size))) H) (fun _ => False) := by
  refine xc_ofW (by decide) ?_
  intro p e s m args below meth c s₁ B hml hE hv
  obtain ⟨rfl, rfl, hw⟩ := hv
  have hx := B.exec
  have hb := B.bytes
  have ht := B.returns
  have hl0 := B.notSynchronized
  have S : xc_Fix p m c b_BU_room 1 s "SealTrust$Buffer" := ⟨hx, hb, hml, findClass_of_methodNamed B.named⟩
  have hl := lv_entry ([.ref bu]) (n := 1) (Nat.le_of_ble_eq_true rfl)
  rw [lg_entry_eq]
  generalize (lg_sl ([.ref bu]) ++ List.replicate (1 - (lg_sl ([.ref bu])).length) Slot.unset).toArray = ls at hl ⊢
  have hl : lv_has ls 1 [(0, .ref bu)] := hl
  obtain ⟨r, hr⟩ : ∃ r, f_BU_room size = r := ⟨_, rfl⟩
  rw [hr]
  unfold f_BU_room at hr
  refine lv_bipush (v := (24 : Int32)) hx hb d_BU_room_0 (by decide) ?_
  refine lv_aload_n hx hb d_BU_room_2 rfl (lv_at hl 0 rfl) ?_
  refine gf_BU_15 hg hw S hP 0 rfl rfl d_BU_room_3 ?_
  refine lv_isub hx hb d_BU_room_6 ?_
  exact xg_iret hx hb ht hl0 hr d_BU_room_7
def lf_BU_mix_6 (bytes : Nat → Int32) (size : Int32) : Nat → Int64 → Int32 → Int64
  | 0, _, _ => 0
  | n + 1, mixed, i => if size ≤ i then (f_ST_mixOf (f_ST_mixIn mixed size.toInt64)) else (lf_BU_mix_6 bytes size n (f_ST_mixIn mixed ((bytes i.toNatClampNeg).toInt64)) (i + (1 : Int32)))
def f_BU_mix (bytes : Nat → Int32) (size : Int32) : Int64 := lf_BU_mix_6 bytes size 25 (7 : Int64) (0 : Int32)
set_option maxHeartbeats 4000000 in
set_option maxRecDepth 100000 in
theorem wl_BU_mix_6 {p : Program} {l : Launch} {e : Env} {s : State} {m : MethodId} {args : Array Value} {below : List Frame} {meth : Method} {c : Code} {G : xg_G} {bu : Nat} {bys : Nat} {size : Int32} {bytes : Nat → Int32} (hg : xg_F G) (hw : G.1.WarmedH s.vm) (S : xc_Fix p m c b_BU_mix 4 s "SealTrust$Buffer") (hP : va_P G.2.1 cl_all [(bu, .inr (0, [.ref bys, .int size])), (bys, .inl (G.2.2.1, 24, .inl bytes))] s.heap) (hl0 : meth.locks = false) (ht : meth.sig.returnType = (some .long)) (hZ : size.toInt ≤ 24) : ∀ (n : Nat) (mixed : Int64) (i : Int32) (r : Int64) (ls : Array Slot), lf_BU_mix_6 bytes size n mixed i = r → (0 ≤ i.toInt ∧ (size.toInt - i.toInt).toNat < n) → lv_has ls 4 [(3, .int i), (1, .long mixed), (0, .ref bu)] → W p l e ({ frames := 1, cells := 0, slots := 0, locals := 15 } : Room) s m args below meth c s.heap [] 0 0 (xg_Z below (some (.long r)) args s) (F0 m 6 ls []) := by
  have hx := S.1
  have hb := S.2.1
  intro n
  induction n with
  | zero =>
    intro mixed i r ls hr hmu hl
    omega
  | succ n ih =>
    intro mixed i r ls hr hmu hl
    rw [lf_BU_mix_6] at hr
    refine lv_iload_n hx hb d_BU_mix_6 rfl (lv_at hl 0 rfl) ?_
    refine lv_aload_n hx hb d_BU_mix_7 rfl (lv_at hl 2 rfl) ?_
    refine gf_BU_15 hg hw S hP 0 rfl rfl d_BU_mix_8 ?_
    refine lv_icmp_ge hx hb d_BU_mix_11 (tgt := 32) (by decide) (fun h11 => ?_) (fun h11 => ?_)
    · rw [if_pos h11] at hr
      refine lv_lload_n hx hb d_BU_mix_32 rfl (lv_at hl 1 rfl) ?_
      refine lv_aload_n hx hb d_BU_mix_33 rfl (lv_at hl 2 rfl) ?_
      refine gf_BU_15 hg hw S hP 0 rfl rfl d_BU_mix_34 ?_
      refine lv_i2l hx hb d_BU_mix_37 rfl ?_
      refine xg_read (xg_runSN (rest := []) (kw := 0) si_BU_21 hg hw S (ct_ST_mixIn l hg s.heap mixed size.toInt64 ) ⟨by decide, by decide, by decide, by decide⟩ rfl hl.1 rfl (Nat.le_of_ble_eq_true rfl) d_BU_mix_38) ?_
      refine xg_read (xg_runSN (rest := []) (kw := 0) si_BU_25 hg hw S (ct_ST_mixOf l hg s.heap (f_ST_mixIn mixed size.toInt64) ) ⟨by decide, by decide, by decide, by decide⟩ rfl hl.1 rfl (Nat.le_of_ble_eq_true rfl) d_BU_mix_41) ?_
      exact xg_lret hx hb ht hl0 hr d_BU_mix_44
    · rw [if_neg h11] at hr
      refine lv_lload_n hx hb d_BU_mix_14 rfl (lv_at hl 1 rfl) ?_
      refine lv_aload_n hx hb d_BU_mix_15 rfl (lv_at hl 2 rfl) ?_
      refine gf_BU_9 hg hw S hP 0 rfl rfl d_BU_mix_16 ?_
      refine lv_iload_n hx hb d_BU_mix_19 rfl (lv_at hl 0 rfl) ?_
      refine va_iald hx hb (xg_k hg hw) hP 1 0 rfl rfl (xi_in h11 hmu.1 hZ) d_BU_mix_20 ?_
      refine lv_i2l hx hb d_BU_mix_21 rfl ?_
      refine xg_read (xg_runSN (rest := []) (kw := 0) si_BU_21 hg hw S (ct_ST_mixIn l hg s.heap mixed ((bytes i.toNatClampNeg).toInt64) ) ⟨by decide, by decide, by decide, by decide⟩ rfl hl.1 rfl (Nat.le_of_ble_eq_true rfl) d_BU_mix_22) ?_
      refine lv_lstore_n hx hb d_BU_mix_25 rfl hl (by decide) rfl (fun ls hl => ?_)
      have hl : lv_has ls 4 [(1, .long (f_ST_mixIn mixed ((bytes i.toNatClampNeg).toInt64))), (3, .int i), (0, .ref bu)] := hl
      refine lv_iinc (v := i + (1 : Int32)) hx hb d_BU_mix_26 hl (k := 1) rfl rfl (by decide) rfl (fun ls hl => ?_)
      have hl : lv_has ls 4 [(3, .int (i + (1 : Int32))), (1, .long (f_ST_mixIn mixed ((bytes i.toNatClampNeg).toInt64))), (0, .ref bu)] := hl
      refine lv_goto hx hb d_BU_mix_29 (tgt := 6) (by decide) ?_
      exact ih (f_ST_mixIn mixed ((bytes i.toNatClampNeg).toInt64)) (i + (1 : Int32)) r ls hr (xi_up0 h11 hmu) (lv_sub hl [0, 1, 2] rfl)
set_option maxHeartbeats 4000000 in
set_option maxRecDepth 100000 in
theorem ct_BU_mix (l : Launch) {G : xg_G} (hg : xg_F G) (H : Heap) (bu : Nat) (bys : Nat) (size : Int32) (bytes : Nat → Int32) (hP : va_P G.2.1 cl_all [(bu, .inr (0, [.ref bys, .int size])), (bys, .inl (G.2.2.1, 24, .inl bytes))] H) (hZ : size.toInt ≤ 24) : xc_Met l y_BU_mix (.code y_BU_mix b_BU_mix 4 (some .long)) ({ frames := 1, cells := 0, slots := 0, locals := 15 } : Room) (xg_Pc G [.ref bu] H) (xc_ro (some (.long (f_BU_mix bytes size))) H) (fun _ => False) := by
  refine xc_ofW (by decide) ?_
  intro p e s m args below meth c s₁ B hml hE hv
  obtain ⟨rfl, rfl, hw⟩ := hv
  have hx := B.exec
  have hb := B.bytes
  have ht := B.returns
  have hl0 := B.notSynchronized
  have S : xc_Fix p m c b_BU_mix 4 s "SealTrust$Buffer" := ⟨hx, hb, hml, findClass_of_methodNamed B.named⟩
  have hl := lv_entry ([.ref bu]) (n := 4) (Nat.le_of_ble_eq_true rfl)
  rw [lg_entry_eq]
  generalize (lg_sl ([.ref bu]) ++ List.replicate (4 - (lg_sl ([.ref bu])).length) Slot.unset).toArray = ls at hl ⊢
  have hl : lv_has ls 4 [(0, .ref bu)] := hl
  obtain ⟨r, hr⟩ : ∃ r, f_BU_mix bytes size = r := ⟨_, rfl⟩
  rw [hr]
  unfold f_BU_mix at hr
  refine kc_BU_19 hg hw S d_BU_mix_0 ?_
  refine lv_lstore_n hx hb d_BU_mix_3 rfl hl (by decide) rfl (fun ls hl => ?_)
  have hl : lv_has ls 4 [(1, .long (7 : Int64)), (0, .ref bu)] := hl
  refine lv_iconst (v := (0 : Int32)) hx hb d_BU_mix_4 (by decide) ?_
  refine lv_istore_n hx hb d_BU_mix_5 rfl hl (by decide) rfl (fun ls hl => ?_)
  have hl : lv_has ls 4 [(3, .int (0 : Int32)), (1, .long (7 : Int64)), (0, .ref bu)] := hl
  exact wl_BU_mix_6 hg hw S hP hl0 ht hZ 25 (7 : Int64) (0 : Int32) r ls hr ⟨by decide, by rw [show (0 : Int32).toInt = 0 from rfl]; omega⟩ (lv_sub hl [0, 1, 2] rfl)
def f_KE_blockOf (modulus : Int64) (bytes : Nat → Int32) (size : Int32) : Int64 := (2 : Int64) + (f_ST_rest (f_BU_mix bytes size) (modulus - (3 : Int64)))
set_option maxHeartbeats 4000000 in
set_option maxRecDepth 100000 in
theorem ct_KE_blockOf (l : Launch) {G : xg_G} (hg : xg_F G) (H : Heap) (k : Nat) (bu : Nat) (sh : Nat) (ch : Nat) (dealt : Int32) (epoch : Int64) (base : Int64) (whole : Int64) (signing : Int64) (pp : Int64) (qq : Int64) (modulus : Int64) (order : Int64) (bys : Nat) (size : Int32) (bytes : Nat → Int32) (hP : va_P G.2.1 cl_all [(k, .inr (1, [.ref sh, .ref ch, .int dealt, .long epoch, .long base, .long whole, .long signing, .long pp, .long qq, .long modulus, .long order])), (bu, .inr (0, [.ref bys, .int size])), (bys, .inl (G.2.2.1, 24, .inl bytes))] H) (hZ : size.toInt ≤ 24) : xc_Met l y_KE_blockOf (.code y_KE_blockOf b_KE_blockOf 2 (some .long)) ({ frames := 2, cells := 0, slots := 0, locals := 32 } : Room) (xg_Pc G [.ref k, .ref bu] H) (xc_ro (some (.long (f_KE_blockOf modulus bytes size))) H) (fun _ => False) := by
  refine xc_ofW (by decide) ?_
  intro p e s m args below meth c s₁ B hml hE hv
  obtain ⟨rfl, rfl, hw⟩ := hv
  have hx := B.exec
  have hb := B.bytes
  have ht := B.returns
  have hl0 := B.notSynchronized
  have S : xc_Fix p m c b_KE_blockOf 2 s "SealTrust$Key" := ⟨hx, hb, hml, findClass_of_methodNamed B.named⟩
  have hl := lv_entry ([.ref k, .ref bu]) (n := 2) (Nat.le_of_ble_eq_true rfl)
  rw [lg_entry_eq]
  generalize (lg_sl ([.ref k, .ref bu]) ++ List.replicate (2 - (lg_sl ([.ref k, .ref bu])).length) Slot.unset).toArray = ls at hl ⊢
  have hl : lv_has ls 2 [(0, .ref k), (1, .ref bu)] := hl
  obtain ⟨r, hr⟩ : ∃ r, f_KE_blockOf modulus bytes size = r := ⟨_, rfl⟩
  rw [hr]
  unfold f_KE_blockOf at hr
  refine kc_KE_28 hg hw S d_KE_blockOf_0 ?_
  refine lv_aload_n hx hb d_KE_blockOf_3 rfl (lv_at hl 1 rfl) ?_
  refine xg_read (xg_runV (rest := [.long (2 : Int64)]) (kw := 2) si_KE_62 hg hw S (va_recv (xg_k hg hw) hP (ci := 0) rfl (q0 := 1) rfl) (ct_BU_mix l hg s.heap bu bys size bytes (hP.sub [1, 2] rfl) hZ) ⟨by decide, by decide, by decide, by decide⟩ rfl hl.1 rfl (Nat.le_of_ble_eq_true rfl) d_KE_blockOf_4) ?_
  refine lv_aload_n hx hb d_KE_blockOf_7 rfl (lv_at hl 0 rfl) ?_
  refine gf_KE_25 hg hw S hP 0 rfl rfl d_KE_blockOf_8 ?_
  refine kc_KE_68 hg hw S d_KE_blockOf_11 ?_
  refine lv_lsub hx hb d_KE_blockOf_14 ?_
  refine xg_read (xg_runSN (rest := [.long (2 : Int64)]) (kw := 2) si_KE_42 hg hw S (ct_ST_rest l hg s.heap (f_BU_mix bytes size) (modulus - (3 : Int64)) ) ⟨by decide, by decide, by decide, by decide⟩ rfl hl.1 rfl (Nat.le_of_ble_eq_true rfl) d_KE_blockOf_15) ?_
  refine lv_ladd hx hb d_KE_blockOf_18 ?_
  exact xg_lret hx hb ht hl0 hr d_KE_blockOf_19
def f_KE_challenge (trustee : Int32) (u : Int64) (w : Int64) (ofBase : Int64) (ofBlock : Int64) (base : Int64) (checks : Nat → Int64) : Int32 := (((f_ST_mixOf (f_ST_mixIn (f_ST_mixIn (f_ST_mixIn (f_ST_mixIn (f_ST_mixIn (f_ST_mixIn (7 : Int64) base) u) (checks trustee.toNatClampNeg)) w) ofBase) ofBlock)).toUInt64 >>> ((15 : Int32).toInt64.toUInt64 &&& Int64.toUInt64 63)).toInt64).toInt32
set_option maxHeartbeats 4000000 in
set_option maxRecDepth 100000 in
theorem ct_KE_challenge (l : Launch) {G : xg_G} (hg : xg_F G) (H : Heap) (k : Nat) (trustee : Int32) (u : Int64) (w : Int64) (ofBase : Int64) (ofBlock : Int64) (sh : Nat) (ch : Nat) (dealt : Int32) (epoch : Int64) (base : Int64) (whole : Int64) (signing : Int64) (pp : Int64) (qq : Int64) (modulus : Int64) (order : Int64) (checks : Nat → Int64) (hP : va_P G.2.1 cl_all [(k, .inr (1, [.ref sh, .ref ch, .int dealt, .long epoch, .long base, .long whole, .long signing, .long pp, .long qq, .long modulus, .long order])), (ch, .inl (G.2.2.2.1, 6, .inr (.inl checks)))] H) (hT : vp_in trustee 6) : xc_Met l y_KE_challenge (.code y_KE_challenge b_KE_challenge 12 (some .int)) ({ frames := 1, cells := 0, slots := 0, locals := 15 } : Room) (xg_Pc G [.ref k, .int trustee, .long u, .long w, .long ofBase, .long ofBlock] H) (xc_ro (some (.int (f_KE_challenge trustee u w ofBase ofBlock base checks))) H) (fun _ => False) := by
  refine xc_ofW (by decide) ?_
  intro p e s m args below meth c s₁ B hml hE hv
  obtain ⟨rfl, rfl, hw⟩ := hv
  have hx := B.exec
  have hb := B.bytes
  have ht := B.returns
  have hl0 := B.notSynchronized
  have S : xc_Fix p m c b_KE_challenge 12 s "SealTrust$Key" := ⟨hx, hb, hml, findClass_of_methodNamed B.named⟩
  have hl := lv_entry ([.ref k, .int trustee, .long u, .long w, .long ofBase, .long ofBlock]) (n := 12) (Nat.le_of_ble_eq_true rfl)
  rw [lg_entry_eq]
  generalize (lg_sl ([.ref k, .int trustee, .long u, .long w, .long ofBase, .long ofBlock]) ++ List.replicate (12 - (lg_sl ([.ref k, .int trustee, .long u, .long w, .long ofBase, .long ofBlock])).length) Slot.unset).toArray = ls at hl ⊢
  have hl : lv_has ls 12 [(0, .ref k), (1, .int trustee), (2, .long u), (4, .long w), (6, .long ofBase), (8, .long ofBlock)] := hl
  obtain ⟨r, hr⟩ : ∃ r, f_KE_challenge trustee u w ofBase ofBlock base checks = r := ⟨_, rfl⟩
  rw [hr]
  unfold f_KE_challenge at hr
  refine kc_KE_79 hg hw S d_KE_challenge_0 ?_
  refine lv_aload_n hx hb d_KE_challenge_3 rfl (lv_at hl 0 rfl) ?_
  refine gf_KE_49 hg hw S hP 0 rfl rfl d_KE_challenge_4 ?_
  refine xg_read (xg_runSN (rest := []) (kw := 0) si_KE_81 hg hw S (ct_ST_mixIn l hg s.heap (7 : Int64) base ) ⟨by decide, by decide, by decide, by decide⟩ rfl hl.1 rfl (Nat.le_of_ble_eq_true rfl) d_KE_challenge_7) ?_
  refine lv_lload_n hx hb d_KE_challenge_10 rfl (lv_at hl 2 rfl) ?_
  refine xg_read (xg_runSN (rest := []) (kw := 0) si_KE_81 hg hw S (ct_ST_mixIn l hg s.heap (f_ST_mixIn (7 : Int64) base) u ) ⟨by decide, by decide, by decide, by decide⟩ rfl hl.1 rfl (Nat.le_of_ble_eq_true rfl) d_KE_challenge_11) ?_
  refine lv_aload_n hx hb d_KE_challenge_14 rfl (lv_at hl 0 rfl) ?_
  refine gf_KE_15 hg hw S hP 0 rfl rfl d_KE_challenge_15 ?_
  refine lv_iload_n hx hb d_KE_challenge_18 rfl (lv_at hl 1 rfl) ?_
  refine va_lald hx hb (xg_k hg hw) hP 1 1 rfl rfl hT d_KE_challenge_19 ?_
  refine xg_read (xg_runSN (rest := []) (kw := 0) si_KE_81 hg hw S (ct_ST_mixIn l hg s.heap (f_ST_mixIn (f_ST_mixIn (7 : Int64) base) u) (checks trustee.toNatClampNeg) ) ⟨by decide, by decide, by decide, by decide⟩ rfl hl.1 rfl (Nat.le_of_ble_eq_true rfl) d_KE_challenge_20) ?_
  refine lv_lstore hx hb d_KE_challenge_23 hl (by decide) rfl (fun ls hl => ?_)
  have hl : lv_has ls 12 [(10, .long (f_ST_mixIn (f_ST_mixIn (f_ST_mixIn (7 : Int64) base) u) (checks trustee.toNatClampNeg))), (0, .ref k), (1, .int trustee), (2, .long u), (4, .long w), (6, .long ofBase), (8, .long ofBlock)] := hl
  refine lv_lload hx hb d_KE_challenge_25 (lv_at hl 0 rfl) ?_
  refine lv_lload hx hb d_KE_challenge_27 (lv_at hl 4 rfl) ?_
  refine xg_read (xg_runSN (rest := []) (kw := 0) si_KE_81 hg hw S (ct_ST_mixIn l hg s.heap (f_ST_mixIn (f_ST_mixIn (f_ST_mixIn (7 : Int64) base) u) (checks trustee.toNatClampNeg)) w ) ⟨by decide, by decide, by decide, by decide⟩ rfl hl.1 rfl (Nat.le_of_ble_eq_true rfl) d_KE_challenge_29) ?_
  refine lv_lload hx hb d_KE_challenge_32 (lv_at hl 5 rfl) ?_
  refine xg_read (xg_runSN (rest := []) (kw := 0) si_KE_81 hg hw S (ct_ST_mixIn l hg s.heap (f_ST_mixIn (f_ST_mixIn (f_ST_mixIn (f_ST_mixIn (7 : Int64) base) u) (checks trustee.toNatClampNeg)) w) ofBase ) ⟨by decide, by decide, by decide, by decide⟩ rfl hl.1 rfl (Nat.le_of_ble_eq_true rfl) d_KE_challenge_34) ?_
  refine lv_lload hx hb d_KE_challenge_37 (lv_at hl 6 rfl) ?_
  refine xg_read (xg_runSN (rest := []) (kw := 0) si_KE_81 hg hw S (ct_ST_mixIn l hg s.heap (f_ST_mixIn (f_ST_mixIn (f_ST_mixIn (f_ST_mixIn (f_ST_mixIn (7 : Int64) base) u) (checks trustee.toNatClampNeg)) w) ofBase) ofBlock ) ⟨by decide, by decide, by decide, by decide⟩ rfl hl.1 rfl (Nat.le_of_ble_eq_true rfl) d_KE_challenge_39) ?_
  refine lv_lstore hx hb d_KE_challenge_42 hl (by decide) rfl (fun ls hl => ?_)
  have hl : lv_has ls 12 [(10, .long (f_ST_mixIn (f_ST_mixIn (f_ST_mixIn (f_ST_mixIn (f_ST_mixIn (f_ST_mixIn (7 : Int64) base) u) (checks trustee.toNatClampNeg)) w) ofBase) ofBlock)), (0, .ref k), (1, .int trustee), (2, .long u), (4, .long w), (6, .long ofBase), (8, .long ofBlock)] := hl
  refine lv_lload hx hb d_KE_challenge_44 (lv_at hl 0 rfl) ?_
  refine xg_read (xg_runSN (rest := []) (kw := 0) si_KE_84 hg hw S (ct_ST_mixOf l hg s.heap (f_ST_mixIn (f_ST_mixIn (f_ST_mixIn (f_ST_mixIn (f_ST_mixIn (f_ST_mixIn (7 : Int64) base) u) (checks trustee.toNatClampNeg)) w) ofBase) ofBlock) ) ⟨by decide, by decide, by decide, by decide⟩ rfl hl.1 rfl (Nat.le_of_ble_eq_true rfl) d_KE_challenge_46) ?_
  refine lv_bipush (v := (15 : Int32)) hx hb d_KE_challenge_49 (by decide) ?_
  refine lv_lushr hx hb d_KE_challenge_51 rfl ?_
  refine lv_l2i hx hb d_KE_challenge_52 rfl ?_
  exact xg_iret hx hb ht hl0 hr d_KE_challenge_53
def f_KE_isGood (trustee : Int32) (powers : Nat → Int64) (challenges : Nat → Int32) (answers : Nat → Int64) (block : Int64) (base : Int64) (checks : Nat → Int64) (pp : Int64) (qq : Int64) (modulus : Int64) (order : Int64) : Int32 := if (f_KE_isBelowModulus (powers trustee.toNatClampNeg) modulus) = 0 then (0 : Int32) else (if (challenges trustee.toNatClampNeg) < 0 then (0 : Int32) else (if (65535 : Int32) < (challenges trustee.toNatClampNeg) then (0 : Int32) else (if (0 : Int64) ≤ (answers trustee.toNatClampNeg) then (if (f_KE_isPrimeToModulus (powers trustee.toNatClampNeg) pp qq) = 0 then (0 : Int32) else (if (f_KE_isPrimeToModulus block pp qq) = 0 then (0 : Int32) else (if (f_KE_challenge trustee (f_KE_power block (2880 : Int64) modulus) (f_KE_times (powers trustee.toNatClampNeg) (powers trustee.toNatClampNeg) modulus) (f_KE_times (f_KE_power base (answers trustee.toNatClampNeg) modulus) (f_KE_inversePower (checks trustee.toNatClampNeg) ((challenges trustee.toNatClampNeg).toInt64) modulus order) modulus) (f_KE_times (f_KE_power (f_KE_power block (2880 : Int64) modulus) (answers trustee.toNatClampNeg) modulus) (f_KE_inversePower (f_KE_times (powers trustee.toNatClampNeg) (powers trustee.toNatClampNeg) modulus) ((challenges trustee.toNatClampNeg).toInt64) modulus order) modulus) base checks) = (challenges trustee.toNatClampNeg) then (1 : Int32) else (0 : Int32)))) else (0 : Int32))))
set_option maxHeartbeats 4000000 in
set_option maxRecDepth 100000 in
theorem ct_KE_isGood (l : Launch) {G : xg_G} (hg : xg_F G) (H : Heap) (k : Nat) (mo : Nat) (trustee : Int32) (sh : Nat) (ch : Nat) (dealt : Int32) (epoch : Int64) (base : Int64) (whole : Int64) (signing : Int64) (pp : Int64) (qq : Int64) (modulus : Int64) (order : Int64) (checks : Nat → Int64) (pw : Nat) (cg : Nat) (an : Nat) (standing : Int32) (block : Int64) (partials : Int32) (objections : Int32) (signature : Int64) (powers : Nat → Int64) (challenges : Nat → Int32) (answers : Nat → Int64) (hP : va_P G.2.1 cl_all [(k, .inr (1, [.ref sh, .ref ch, .int dealt, .long epoch, .long base, .long whole, .long signing, .long pp, .long qq, .long modulus, .long order])), (ch, .inl (G.2.2.2.1, 6, .inr (.inl checks))), (mo, .inr (2, [.ref pw, .ref cg, .ref an, .int standing, .long block, .int partials, .int objections, .long signature])), (pw, .inl (G.2.2.2.1, 6, .inr (.inl powers))), (cg, .inl (G.2.2.1, 6, .inl challenges)), (an, .inl (G.2.2.2.1, 6, .inr (.inl answers)))] H) (hT : vp_in trustee 6) : xc_Met l y_KE_isGood (.code y_KE_isGood b_KE_isGood 16 (some .boolean)) ({ frames := 4, cells := 0, slots := 0, locals := 76 } : Room) (xg_Pc G [.ref k, .ref mo, .int trustee] H) (xc_ro (some (.int (f_KE_isGood trustee powers challenges answers block base checks pp qq modulus order))) H) (fun _ => False) := by
  refine xc_ofW (by decide) ?_
  intro p e s m args below meth c s₁ B hml hE hv
  obtain ⟨rfl, rfl, hw⟩ := hv
  have hx := B.exec
  have hb := B.bytes
  have ht := B.returns
  have hl0 := B.notSynchronized
  have S : xc_Fix p m c b_KE_isGood 16 s "SealTrust$Key" := ⟨hx, hb, hml, findClass_of_methodNamed B.named⟩
  have hl := lv_entry ([.ref k, .ref mo, .int trustee]) (n := 16) (Nat.le_of_ble_eq_true rfl)
  rw [lg_entry_eq]
  generalize (lg_sl ([.ref k, .ref mo, .int trustee]) ++ List.replicate (16 - (lg_sl ([.ref k, .ref mo, .int trustee])).length) Slot.unset).toArray = ls at hl ⊢
  have hl : lv_has ls 16 [(0, .ref k), (1, .ref mo), (2, .int trustee)] := hl
  obtain ⟨r, hr⟩ : ∃ r, f_KE_isGood trustee powers challenges answers block base checks pp qq modulus order = r := ⟨_, rfl⟩
  rw [hr]
  unfold f_KE_isGood at hr
  refine lv_aload_n hx hb d_KE_isGood_0 rfl (lv_at hl 1 rfl) ?_
  refine gf_KE_103 hg hw S hP 2 rfl rfl d_KE_isGood_1 ?_
  refine lv_iload_n hx hb d_KE_isGood_4 rfl (lv_at hl 2 rfl) ?_
  refine va_lald hx hb (xg_k hg hw) hP 3 1 rfl rfl hT d_KE_isGood_5 ?_
  refine lv_lstore_n hx hb d_KE_isGood_6 rfl hl (by decide) rfl (fun ls hl => ?_)
  have hl : lv_has ls 16 [(3, .long (powers trustee.toNatClampNeg)), (0, .ref k), (1, .ref mo), (2, .int trustee)] := hl
  refine lv_aload_n hx hb d_KE_isGood_7 rfl (lv_at hl 2 rfl) ?_
  refine gf_KE_106 hg hw S hP 2 rfl rfl d_KE_isGood_8 ?_
  refine lv_iload_n hx hb d_KE_isGood_11 rfl (lv_at hl 3 rfl) ?_
  refine va_iald hx hb (xg_k hg hw) hP 4 0 rfl rfl hT d_KE_isGood_12 ?_
  refine lv_istore hx hb d_KE_isGood_13 hl (by decide) rfl (fun ls hl => ?_)
  have hl : lv_has ls 16 [(5, .int (challenges trustee.toNatClampNeg)), (3, .long (powers trustee.toNatClampNeg)), (0, .ref k), (1, .ref mo), (2, .int trustee)] := hl
  refine lv_aload_n hx hb d_KE_isGood_15 rfl (lv_at hl 3 rfl) ?_
  refine gf_KE_110 hg hw S hP 2 rfl rfl d_KE_isGood_16 ?_
  refine lv_iload_n hx hb d_KE_isGood_19 rfl (lv_at hl 4 rfl) ?_
  refine va_lald hx hb (xg_k hg hw) hP 5 1 rfl rfl hT d_KE_isGood_20 ?_
  refine lv_lstore hx hb d_KE_isGood_21 hl (by decide) rfl (fun ls hl => ?_)
  have hl : lv_has ls 16 [(6, .long (answers trustee.toNatClampNeg)), (5, .int (challenges trustee.toNatClampNeg)), (3, .long (powers trustee.toNatClampNeg)), (0, .ref k), (1, .ref mo), (2, .int trustee)] := hl
  refine lv_aload_n hx hb d_KE_isGood_23 rfl (lv_at hl 3 rfl) ?_
  refine lv_lload_n hx hb d_KE_isGood_24 rfl (lv_at hl 2 rfl) ?_
  refine xg_read (xg_runV (rest := []) (kw := 0) si_KE_70 hg hw S (va_recv (xg_k hg hw) hP (ci := 1) rfl (q0 := 0) rfl) (ct_KE_isBelowModulus l hg s.heap k (powers trustee.toNatClampNeg) sh ch dealt epoch base whole signing pp qq modulus order (hP.sub [0] rfl) ) ⟨by decide, by decide, by decide, by decide⟩ rfl hl.1 rfl (Nat.le_of_ble_eq_true rfl) d_KE_isGood_25) ?_
  refine lv_if_eq hx hb d_KE_isGood_28 (tgt := 50) (by decide) (fun h28 => ?_) (fun h28 => ?_)
  · rw [if_pos h28] at hr
    refine lv_iconst (v := (0 : Int32)) hx hb d_KE_isGood_50 (by decide) ?_
    exact xg_zret hx hb ht hl0 rfl hr d_KE_isGood_51
  · rw [if_neg h28] at hr
    refine lv_iload hx hb d_KE_isGood_31 (lv_at hl 1 rfl) ?_
    refine lv_if_lt hx hb d_KE_isGood_33 (tgt := 50) (by decide) (fun h33 => ?_) (fun h33 => ?_)
    · rw [if_pos h33] at hr
      refine lv_iconst (v := (0 : Int32)) hx hb d_KE_isGood_50 (by decide) ?_
      exact xg_zret hx hb ht hl0 rfl hr d_KE_isGood_51
    · rw [if_neg h33] at hr
      refine lv_iload hx hb d_KE_isGood_36 (lv_at hl 1 rfl) ?_
      refine kc_KE_113 hg hw S d_KE_isGood_38 ?_
      refine lv_icmp_gt hx hb d_KE_isGood_40 (tgt := 50) (by decide) (fun h40 => ?_) (fun h40 => ?_)
      · rw [if_pos h40] at hr
        refine lv_iconst (v := (0 : Int32)) hx hb d_KE_isGood_50 (by decide) ?_
        exact xg_zret hx hb ht hl0 rfl hr d_KE_isGood_51
      · rw [if_neg h40] at hr
        refine lv_lload hx hb d_KE_isGood_43 (lv_at hl 0 rfl) ?_
        refine lv_lconst (v := (0 : Int64)) hx hb d_KE_isGood_45 (by decide) ?_
        refine W.lcmp hx hb d_KE_isGood_46 ?_
        refine lv_if_ge hx hb d_KE_isGood_47 (tgt := 52) (by decide) (fun h47 => ?_) (fun h47 => ?_)
        · rw [lg_cmp_ge] at h47
          rw [if_pos h47] at hr
          refine lv_aload_n hx hb d_KE_isGood_52 rfl (lv_at hl 3 rfl) ?_
          refine lv_lload_n hx hb d_KE_isGood_53 rfl (lv_at hl 2 rfl) ?_
          refine xg_read (xg_runV (rest := []) (kw := 0) si_KE_114 hg hw S (va_recv (xg_k hg hw) hP (ci := 1) rfl (q0 := 0) rfl) (ct_KE_isPrimeToModulus l hg s.heap k (powers trustee.toNatClampNeg) sh ch dealt epoch base whole signing pp qq modulus order (hP.sub [0] rfl) ) ⟨by decide, by decide, by decide, by decide⟩ rfl hl.1 rfl (Nat.le_of_ble_eq_true rfl) d_KE_isGood_54) ?_
          refine lv_if_eq hx hb d_KE_isGood_57 (tgt := 71) (by decide) (fun h57 => ?_) (fun h57 => ?_)
          · rw [if_pos h57] at hr
            refine lv_iconst (v := (0 : Int32)) hx hb d_KE_isGood_71 (by decide) ?_
            exact xg_zret hx hb ht hl0 rfl hr d_KE_isGood_72
          · rw [if_neg h57] at hr
            refine lv_aload_n hx hb d_KE_isGood_60 rfl (lv_at hl 3 rfl) ?_
            refine lv_aload_n hx hb d_KE_isGood_61 rfl (lv_at hl 4 rfl) ?_
            refine gf_KE_74 hg hw S hP 2 rfl rfl d_KE_isGood_62 ?_
            refine xg_read (xg_runV (rest := []) (kw := 0) si_KE_114 hg hw S (va_recv (xg_k hg hw) hP (ci := 1) rfl (q0 := 0) rfl) (ct_KE_isPrimeToModulus l hg s.heap k block sh ch dealt epoch base whole signing pp qq modulus order (hP.sub [0] rfl) ) ⟨by decide, by decide, by decide, by decide⟩ rfl hl.1 rfl (Nat.le_of_ble_eq_true rfl) d_KE_isGood_65) ?_
            refine lv_if_ne hx hb d_KE_isGood_68 (tgt := 73) (by decide) (fun h68 => ?_) (fun h68 => ?_)
            · rw [if_neg h68] at hr
              refine lv_aload_n hx hb d_KE_isGood_73 rfl (lv_at hl 3 rfl) ?_
              refine lv_aload_n hx hb d_KE_isGood_74 rfl (lv_at hl 4 rfl) ?_
              refine gf_KE_74 hg hw S hP 2 rfl rfl d_KE_isGood_75 ?_
              refine kc_KE_90 hg hw S d_KE_isGood_78 ?_
              refine xg_read (xg_runV (rest := []) (kw := 0) si_KE_59 hg hw S (va_recv (xg_k hg hw) hP (ci := 1) rfl (q0 := 0) rfl) (ct_KE_power l hg s.heap k block (2880 : Int64) sh ch dealt epoch base whole signing pp qq modulus order (hP.sub [0] rfl) ) ⟨by decide, by decide, by decide, by decide⟩ rfl hl.1 rfl (Nat.le_of_ble_eq_true rfl) d_KE_isGood_81) ?_
              refine lv_lstore hx hb d_KE_isGood_84 hl (by decide) rfl (fun ls hl => ?_)
              have hl : lv_has ls 16 [(8, .long (f_KE_power block (2880 : Int64) modulus)), (6, .long (answers trustee.toNatClampNeg)), (5, .int (challenges trustee.toNatClampNeg)), (3, .long (powers trustee.toNatClampNeg)), (0, .ref k), (1, .ref mo), (2, .int trustee)] := hl
              refine lv_aload_n hx hb d_KE_isGood_86 rfl (lv_at hl 4 rfl) ?_
              refine lv_lload_n hx hb d_KE_isGood_87 rfl (lv_at hl 3 rfl) ?_
              refine lv_lload_n hx hb d_KE_isGood_88 rfl (lv_at hl 3 rfl) ?_
              refine xg_read (xg_runV (rest := []) (kw := 0) si_KE_92 hg hw S (va_recv (xg_k hg hw) hP (ci := 1) rfl (q0 := 0) rfl) (ct_KE_times l hg s.heap k (powers trustee.toNatClampNeg) (powers trustee.toNatClampNeg) sh ch dealt epoch base whole signing pp qq modulus order (hP.sub [0] rfl) ) ⟨by decide, by decide, by decide, by decide⟩ rfl hl.1 rfl (Nat.le_of_ble_eq_true rfl) d_KE_isGood_89) ?_
              refine lv_lstore hx hb d_KE_isGood_92 hl (by decide) rfl (fun ls hl => ?_)
              have hl : lv_has ls 16 [(10, .long (f_KE_times (powers trustee.toNatClampNeg) (powers trustee.toNatClampNeg) modulus)), (8, .long (f_KE_power block (2880 : Int64) modulus)), (6, .long (answers trustee.toNatClampNeg)), (5, .int (challenges trustee.toNatClampNeg)), (3, .long (powers trustee.toNatClampNeg)), (0, .ref k), (1, .ref mo), (2, .int trustee)] := hl
              refine lv_aload_n hx hb d_KE_isGood_94 rfl (lv_at hl 5 rfl) ?_
              refine lv_aload_n hx hb d_KE_isGood_95 rfl (lv_at hl 5 rfl) ?_
              refine lv_aload_n hx hb d_KE_isGood_96 rfl (lv_at hl 5 rfl) ?_
              refine gf_KE_49 hg hw S hP 0 rfl rfl d_KE_isGood_97 ?_
              refine lv_lload hx hb d_KE_isGood_100 (lv_at hl 2 rfl) ?_
              refine xg_read (xg_runV (rest := [.ref k]) (kw := 1) si_KE_59 hg hw S (va_recv (xg_k hg hw) hP (ci := 1) rfl (q0 := 0) rfl) (ct_KE_power l hg s.heap k base (answers trustee.toNatClampNeg) sh ch dealt epoch base whole signing pp qq modulus order (hP.sub [0] rfl) ) ⟨by decide, by decide, by decide, by decide⟩ rfl hl.1 rfl (Nat.le_of_ble_eq_true rfl) d_KE_isGood_102) ?_
              refine lv_aload_n hx hb d_KE_isGood_105 rfl (lv_at hl 5 rfl) ?_
              refine lv_aload_n hx hb d_KE_isGood_106 rfl (lv_at hl 5 rfl) ?_
              refine gf_KE_15 hg hw S hP 0 rfl rfl d_KE_isGood_107 ?_
              refine lv_iload_n hx hb d_KE_isGood_110 rfl (lv_at hl 7 rfl) ?_
              refine va_lald hx hb (xg_k hg hw) hP 1 1 rfl rfl hT d_KE_isGood_111 ?_
              refine lv_iload hx hb d_KE_isGood_112 (lv_at hl 3 rfl) ?_
              refine lv_i2l hx hb d_KE_isGood_114 rfl ?_
              refine xg_read (xg_runV (rest := [.long (f_KE_power base (answers trustee.toNatClampNeg) modulus), .ref k]) (kw := 3) si_KE_117 hg hw S (va_recv (xg_k hg hw) hP (ci := 1) rfl (q0 := 0) rfl) (ct_KE_inversePower l hg s.heap k (checks trustee.toNatClampNeg) ((challenges trustee.toNatClampNeg).toInt64) sh ch dealt epoch base whole signing pp qq modulus order (hP.sub [0] rfl) ) ⟨by decide, by decide, by decide, by decide⟩ rfl hl.1 rfl (Nat.le_of_ble_eq_true rfl) d_KE_isGood_115) ?_
              refine xg_read (xg_runV (rest := []) (kw := 0) si_KE_92 hg hw S (va_recv (xg_k hg hw) hP (ci := 1) rfl (q0 := 0) rfl) (ct_KE_times l hg s.heap k (f_KE_power base (answers trustee.toNatClampNeg) modulus) (f_KE_inversePower (checks trustee.toNatClampNeg) ((challenges trustee.toNatClampNeg).toInt64) modulus order) sh ch dealt epoch base whole signing pp qq modulus order (hP.sub [0] rfl) ) ⟨by decide, by decide, by decide, by decide⟩ rfl hl.1 rfl (Nat.le_of_ble_eq_true rfl) d_KE_isGood_118) ?_
              refine lv_lstore hx hb d_KE_isGood_121 hl (by decide) rfl (fun ls hl => ?_)
              have hl : lv_has ls 16 [(12, .long (f_KE_times (f_KE_power base (answers trustee.toNatClampNeg) modulus) (f_KE_inversePower (checks trustee.toNatClampNeg) ((challenges trustee.toNatClampNeg).toInt64) modulus order) modulus)), (10, .long (f_KE_times (powers trustee.toNatClampNeg) (powers trustee.toNatClampNeg) modulus)), (8, .long (f_KE_power block (2880 : Int64) modulus)), (6, .long (answers trustee.toNatClampNeg)), (5, .int (challenges trustee.toNatClampNeg)), (3, .long (powers trustee.toNatClampNeg)), (0, .ref k), (1, .ref mo), (2, .int trustee)] := hl
              refine lv_aload_n hx hb d_KE_isGood_123 rfl (lv_at hl 6 rfl) ?_
              refine lv_aload_n hx hb d_KE_isGood_124 rfl (lv_at hl 6 rfl) ?_
              refine lv_lload hx hb d_KE_isGood_125 (lv_at hl 2 rfl) ?_
              refine lv_lload hx hb d_KE_isGood_127 (lv_at hl 3 rfl) ?_
              refine xg_read (xg_runV (rest := [.ref k]) (kw := 1) si_KE_59 hg hw S (va_recv (xg_k hg hw) hP (ci := 1) rfl (q0 := 0) rfl) (ct_KE_power l hg s.heap k (f_KE_power block (2880 : Int64) modulus) (answers trustee.toNatClampNeg) sh ch dealt epoch base whole signing pp qq modulus order (hP.sub [0] rfl) ) ⟨by decide, by decide, by decide, by decide⟩ rfl hl.1 rfl (Nat.le_of_ble_eq_true rfl) d_KE_isGood_129) ?_
              refine lv_aload_n hx hb d_KE_isGood_132 rfl (lv_at hl 6 rfl) ?_
              refine lv_lload hx hb d_KE_isGood_133 (lv_at hl 1 rfl) ?_
              refine lv_iload hx hb d_KE_isGood_135 (lv_at hl 4 rfl) ?_
              refine lv_i2l hx hb d_KE_isGood_137 rfl ?_
              refine xg_read (xg_runV (rest := [.long (f_KE_power (f_KE_power block (2880 : Int64) modulus) (answers trustee.toNatClampNeg) modulus), .ref k]) (kw := 3) si_KE_117 hg hw S (va_recv (xg_k hg hw) hP (ci := 1) rfl (q0 := 0) rfl) (ct_KE_inversePower l hg s.heap k (f_KE_times (powers trustee.toNatClampNeg) (powers trustee.toNatClampNeg) modulus) ((challenges trustee.toNatClampNeg).toInt64) sh ch dealt epoch base whole signing pp qq modulus order (hP.sub [0] rfl) ) ⟨by decide, by decide, by decide, by decide⟩ rfl hl.1 rfl (Nat.le_of_ble_eq_true rfl) d_KE_isGood_138) ?_
              refine xg_read (xg_runV (rest := []) (kw := 0) si_KE_92 hg hw S (va_recv (xg_k hg hw) hP (ci := 1) rfl (q0 := 0) rfl) (ct_KE_times l hg s.heap k (f_KE_power (f_KE_power block (2880 : Int64) modulus) (answers trustee.toNatClampNeg) modulus) (f_KE_inversePower (f_KE_times (powers trustee.toNatClampNeg) (powers trustee.toNatClampNeg) modulus) ((challenges trustee.toNatClampNeg).toInt64) modulus order) sh ch dealt epoch base whole signing pp qq modulus order (hP.sub [0] rfl) ) ⟨by decide, by decide, by decide, by decide⟩ rfl hl.1 rfl (Nat.le_of_ble_eq_true rfl) d_KE_isGood_141) ?_
              refine lv_lstore hx hb d_KE_isGood_144 hl (by decide) rfl (fun ls hl => ?_)
              have hl : lv_has ls 16 [(14, .long (f_KE_times (f_KE_power (f_KE_power block (2880 : Int64) modulus) (answers trustee.toNatClampNeg) modulus) (f_KE_inversePower (f_KE_times (powers trustee.toNatClampNeg) (powers trustee.toNatClampNeg) modulus) ((challenges trustee.toNatClampNeg).toInt64) modulus order) modulus)), (12, .long (f_KE_times (f_KE_power base (answers trustee.toNatClampNeg) modulus) (f_KE_inversePower (checks trustee.toNatClampNeg) ((challenges trustee.toNatClampNeg).toInt64) modulus order) modulus)), (10, .long (f_KE_times (powers trustee.toNatClampNeg) (powers trustee.toNatClampNeg) modulus)), (8, .long (f_KE_power block (2880 : Int64) modulus)), (6, .long (answers trustee.toNatClampNeg)), (5, .int (challenges trustee.toNatClampNeg)), (3, .long (powers trustee.toNatClampNeg)), (0, .ref k), (1, .ref mo), (2, .int trustee)] := hl
              refine lv_aload_n hx hb d_KE_isGood_146 rfl (lv_at hl 7 rfl) ?_
              refine lv_iload_n hx hb d_KE_isGood_147 rfl (lv_at hl 9 rfl) ?_
              refine lv_lload hx hb d_KE_isGood_148 (lv_at hl 3 rfl) ?_
              refine lv_lload hx hb d_KE_isGood_150 (lv_at hl 2 rfl) ?_
              refine lv_lload hx hb d_KE_isGood_152 (lv_at hl 1 rfl) ?_
              refine lv_lload hx hb d_KE_isGood_154 (lv_at hl 0 rfl) ?_
              refine xg_read (xg_runV (rest := []) (kw := 0) si_KE_95 hg hw S (va_recv (xg_k hg hw) hP (ci := 1) rfl (q0 := 0) rfl) (ct_KE_challenge l hg s.heap k trustee (f_KE_power block (2880 : Int64) modulus) (f_KE_times (powers trustee.toNatClampNeg) (powers trustee.toNatClampNeg) modulus) (f_KE_times (f_KE_power base (answers trustee.toNatClampNeg) modulus) (f_KE_inversePower (checks trustee.toNatClampNeg) ((challenges trustee.toNatClampNeg).toInt64) modulus order) modulus) (f_KE_times (f_KE_power (f_KE_power block (2880 : Int64) modulus) (answers trustee.toNatClampNeg) modulus) (f_KE_inversePower (f_KE_times (powers trustee.toNatClampNeg) (powers trustee.toNatClampNeg) modulus) ((challenges trustee.toNatClampNeg).toInt64) modulus order) modulus) sh ch dealt epoch base whole signing pp qq modulus order checks (hP.sub [0, 1] rfl) hT) ⟨by decide, by decide, by decide, by decide⟩ rfl hl.1 rfl (Nat.le_of_ble_eq_true rfl) d_KE_isGood_156) ?_
              refine lv_iload hx hb d_KE_isGood_159 (lv_at hl 5 rfl) ?_
              refine lv_icmp_ne hx hb d_KE_isGood_161 (tgt := 168) (by decide) (fun h161 => ?_) (fun h161 => ?_)
              · rw [if_neg h161] at hr
                refine lv_iconst (v := (0 : Int32)) hx hb d_KE_isGood_168 (by decide) ?_
                exact xg_zret hx hb ht hl0 rfl hr d_KE_isGood_169
              · rw [if_pos h161] at hr
                refine lv_iconst (v := (1 : Int32)) hx hb d_KE_isGood_164 (by decide) ?_
                refine lv_goto hx hb d_KE_isGood_165 (tgt := 169) (by decide) ?_
                exact xg_zret hx hb ht hl0 rfl hr d_KE_isGood_169
            · rw [if_pos h68] at hr
              refine lv_iconst (v := (0 : Int32)) hx hb d_KE_isGood_71 (by decide) ?_
              exact xg_zret hx hb ht hl0 rfl hr d_KE_isGood_72
        · rw [lg_cmp_ge] at h47
          rw [if_neg h47] at hr
          refine lv_iconst (v := (0 : Int32)) hx hb d_KE_isGood_50 (by decide) ?_
          exact xg_zret hx hb ht hl0 rfl hr d_KE_isGood_51
def lf_KE_isWholeBy_5 (mask : Int32) (shares : Nat → Int64) (whole : Int64) (order : Int64) : Nat → Int64 → Int32 → Int32
  | 0, _, _ => 0
  | n + 1, sum, i => if (6 : Int32) ≤ i then (if (f_ST_rest sum order) = (f_ST_rest ((720 : Int64) * whole) order) then (1 : Int32) else (0 : Int32)) else (if (f_ST_isIn mask i) = 0 then (lf_KE_isWholeBy_5 mask shares whole order n sum (i + (1 : Int32))) else (lf_KE_isWholeBy_5 mask shares whole order n (sum + ((shares i.toNatClampNeg) * (f_KE_weight mask i))) (i + (1 : Int32))))
def f_KE_isWholeBy (mask : Int32) (shares : Nat → Int64) (whole : Int64) (order : Int64) : Int32 := lf_KE_isWholeBy_5 mask shares whole order 7 (0 : Int64) (0 : Int32)
set_option maxHeartbeats 4000000 in
set_option maxRecDepth 100000 in
theorem wl_KE_isWholeBy_5 {p : Program} {l : Launch} {e : Env} {s : State} {m : MethodId} {args : Array Value} {below : List Frame} {meth : Method} {c : Code} {G : xg_G} {k : Nat} {mask : Int32} {sh : Nat} {ch : Nat} {dealt : Int32} {epoch : Int64} {base : Int64} {whole : Int64} {signing : Int64} {pp : Int64} {qq : Int64} {modulus : Int64} {order : Int64} {shares : Nat → Int64} (hg : xg_F G) (hw : G.1.WarmedH s.vm) (S : xc_Fix p m c b_KE_isWholeBy 5 s "SealTrust$Key") (hP : va_P G.2.1 cl_all [(k, .inr (1, [.ref sh, .ref ch, .int dealt, .long epoch, .long base, .long whole, .long signing, .long pp, .long qq, .long modulus, .long order])), (sh, .inl (G.2.2.2.1, 6, .inr (.inl shares)))] s.heap) (hl0 : meth.locks = false) (ht : meth.sig.returnType = (some .boolean))  : ∀ (n : Nat) (sum : Int64) (i : Int32) (r : Int32) (ls : Array Slot), lf_KE_isWholeBy_5 mask shares whole order n sum i = r → (0 ≤ i.toInt ∧ ((6 : Int32).toInt - i.toInt).toNat < n) → lv_has ls 5 [(4, .int i), (2, .long sum), (0, .ref k), (1, .int mask)] → W p l e ({ frames := 2, cells := 0, slots := 0, locals := 35 } : Room) s m args below meth c s.heap [] 0 0 (xg_Z below (some (.int r)) args s) (F0 m 5 ls []) := by
  have hx := S.1
  have hb := S.2.1
  intro n
  induction n with
  | zero =>
    intro sum i r ls hr hmu hl
    omega
  | succ n ih =>
    intro sum i r ls hr hmu hl
    rw [lf_KE_isWholeBy_5] at hr
    refine lv_iload hx hb d_KE_isWholeBy_5 (lv_at hl 0 rfl) ?_
    refine lv_bipush (v := (6 : Int32)) hx hb d_KE_isWholeBy_7 (by decide) ?_
    refine lv_icmp_ge hx hb d_KE_isWholeBy_9 (tgt := 44) (by decide) (fun h9 => ?_) (fun h9 => ?_)
    · rw [if_pos h9] at hr
      refine lv_lload_n hx hb d_KE_isWholeBy_44 rfl (lv_at hl 1 rfl) ?_
      refine lv_aload_n hx hb d_KE_isWholeBy_45 rfl (lv_at hl 2 rfl) ?_
      refine gf_KE_30 hg hw S hP 0 rfl rfl d_KE_isWholeBy_46 ?_
      refine xg_read (xg_runSN (rest := []) (kw := 0) si_KE_42 hg hw S (ct_ST_rest l hg s.heap sum order ) ⟨by decide, by decide, by decide, by decide⟩ rfl hl.1 rfl (Nat.le_of_ble_eq_true rfl) d_KE_isWholeBy_49) ?_
      refine kc_KE_128 hg hw S d_KE_isWholeBy_52 ?_
      refine lv_aload_n hx hb d_KE_isWholeBy_55 rfl (lv_at hl 2 rfl) ?_
      refine gf_KE_46 hg hw S hP 0 rfl rfl d_KE_isWholeBy_56 ?_
      refine lv_lmul hx hb d_KE_isWholeBy_59 ?_
      refine lv_aload_n hx hb d_KE_isWholeBy_60 rfl (lv_at hl 2 rfl) ?_
      refine gf_KE_30 hg hw S hP 0 rfl rfl d_KE_isWholeBy_61 ?_
      refine xg_read (xg_runSN (rest := [.long (f_ST_rest sum order)]) (kw := 2) si_KE_42 hg hw S (ct_ST_rest l hg s.heap ((720 : Int64) * whole) order ) ⟨by decide, by decide, by decide, by decide⟩ rfl hl.1 rfl (Nat.le_of_ble_eq_true rfl) d_KE_isWholeBy_64) ?_
      refine W.lcmp hx hb d_KE_isWholeBy_67 ?_
      refine lv_if_ne hx hb d_KE_isWholeBy_68 (tgt := 75) (by decide) (fun h68 => ?_) (fun h68 => ?_)
      · rw [lg_cmp_eq] at h68
        rw [if_neg h68] at hr
        refine lv_iconst (v := (0 : Int32)) hx hb d_KE_isWholeBy_75 (by decide) ?_
        exact xg_zret hx hb ht hl0 rfl hr d_KE_isWholeBy_76
      · rw [lg_cmp_eq] at h68
        rw [if_pos h68] at hr
        refine lv_iconst (v := (1 : Int32)) hx hb d_KE_isWholeBy_71 (by decide) ?_
        refine lv_goto hx hb d_KE_isWholeBy_72 (tgt := 76) (by decide) ?_
        exact xg_zret hx hb ht hl0 rfl hr d_KE_isWholeBy_76
    · rw [if_neg h9] at hr
      refine lv_iload_n hx hb d_KE_isWholeBy_12 rfl (lv_at hl 3 rfl) ?_
      refine lv_iload hx hb d_KE_isWholeBy_13 (lv_at hl 0 rfl) ?_
      refine xg_read (xg_runSN (rest := []) (kw := 0) si_KE_120 hg hw S (ct_ST_isIn l hg s.heap mask i ) ⟨by decide, by decide, by decide, by decide⟩ rfl hl.1 rfl (Nat.le_of_ble_eq_true rfl) d_KE_isWholeBy_15) ?_
      refine lv_if_eq hx hb d_KE_isWholeBy_18 (tgt := 38) (by decide) (fun h18 => ?_) (fun h18 => ?_)
      · rw [if_pos h18] at hr
        refine lv_iinc (v := i + (1 : Int32)) hx hb d_KE_isWholeBy_38 hl (k := 0) rfl rfl (by decide) rfl (fun ls hl => ?_)
        have hl : lv_has ls 5 [(4, .int (i + (1 : Int32))), (2, .long sum), (0, .ref k), (1, .int mask)] := hl
        refine lv_goto hx hb d_KE_isWholeBy_41 (tgt := 5) (by decide) ?_
        exact ih sum (i + (1 : Int32)) r ls hr (xi_up0 h9 hmu) (lv_sub hl [0, 1, 2, 3] rfl)
      · rw [if_neg h18] at hr
        refine lv_lload_n hx hb d_KE_isWholeBy_21 rfl (lv_at hl 1 rfl) ?_
        refine lv_aload_n hx hb d_KE_isWholeBy_22 rfl (lv_at hl 2 rfl) ?_
        refine gf_KE_9 hg hw S hP 0 rfl rfl d_KE_isWholeBy_23 ?_
        refine lv_iload hx hb d_KE_isWholeBy_26 (lv_at hl 0 rfl) ?_
        refine va_lald hx hb (xg_k hg hw) hP 1 1 rfl rfl (xi_in h9 hmu.1 (by decide)) d_KE_isWholeBy_28 ?_
        refine lv_iload_n hx hb d_KE_isWholeBy_29 rfl (lv_at hl 3 rfl) ?_
        refine lv_iload hx hb d_KE_isWholeBy_30 (lv_at hl 0 rfl) ?_
        refine xg_read (xg_runS (rest := [.long (shares i.toNatClampNeg), .long sum]) (kw := 4) si_KE_124 hg hw S (ct_KE_weight l hg s.heap mask i ) ⟨by decide, by decide, by decide, by decide⟩ rfl hl.1 rfl (Nat.le_of_ble_eq_true rfl) d_KE_isWholeBy_32) ?_
        refine lv_lmul hx hb d_KE_isWholeBy_35 ?_
        refine lv_ladd hx hb d_KE_isWholeBy_36 ?_
        refine lv_lstore_n hx hb d_KE_isWholeBy_37 rfl hl (by decide) rfl (fun ls hl => ?_)
        have hl : lv_has ls 5 [(2, .long (sum + ((shares i.toNatClampNeg) * (f_KE_weight mask i)))), (4, .int i), (0, .ref k), (1, .int mask)] := hl
        refine lv_iinc (v := i + (1 : Int32)) hx hb d_KE_isWholeBy_38 hl (k := 1) rfl rfl (by decide) rfl (fun ls hl => ?_)
        have hl : lv_has ls 5 [(4, .int (i + (1 : Int32))), (2, .long (sum + ((shares i.toNatClampNeg) * (f_KE_weight mask i)))), (0, .ref k), (1, .int mask)] := hl
        refine lv_goto hx hb d_KE_isWholeBy_41 (tgt := 5) (by decide) ?_
        exact ih (sum + ((shares i.toNatClampNeg) * (f_KE_weight mask i))) (i + (1 : Int32)) r ls hr (xi_up0 h9 hmu) (lv_sub hl [0, 1, 2, 3] rfl)
set_option maxHeartbeats 4000000 in
set_option maxRecDepth 100000 in
theorem ct_KE_isWholeBy (l : Launch) {G : xg_G} (hg : xg_F G) (H : Heap) (k : Nat) (mask : Int32) (sh : Nat) (ch : Nat) (dealt : Int32) (epoch : Int64) (base : Int64) (whole : Int64) (signing : Int64) (pp : Int64) (qq : Int64) (modulus : Int64) (order : Int64) (shares : Nat → Int64) (hP : va_P G.2.1 cl_all [(k, .inr (1, [.ref sh, .ref ch, .int dealt, .long epoch, .long base, .long whole, .long signing, .long pp, .long qq, .long modulus, .long order])), (sh, .inl (G.2.2.2.1, 6, .inr (.inl shares)))] H)  : xc_Met l y_KE_isWholeBy (.code y_KE_isWholeBy b_KE_isWholeBy 5 (some .boolean)) ({ frames := 2, cells := 0, slots := 0, locals := 35 } : Room) (xg_Pc G [.ref k, .int mask] H) (xc_ro (some (.int (f_KE_isWholeBy mask shares whole order))) H) (fun _ => False) := by
  refine xc_ofW (by decide) ?_
  intro p e s m args below meth c s₁ B hml hE hv
  obtain ⟨rfl, rfl, hw⟩ := hv
  have hx := B.exec
  have hb := B.bytes
  have ht := B.returns
  have hl0 := B.notSynchronized
  have S : xc_Fix p m c b_KE_isWholeBy 5 s "SealTrust$Key" := ⟨hx, hb, hml, findClass_of_methodNamed B.named⟩
  have hl := lv_entry ([.ref k, .int mask]) (n := 5) (Nat.le_of_ble_eq_true rfl)
  rw [lg_entry_eq]
  generalize (lg_sl ([.ref k, .int mask]) ++ List.replicate (5 - (lg_sl ([.ref k, .int mask])).length) Slot.unset).toArray = ls at hl ⊢
  have hl : lv_has ls 5 [(0, .ref k), (1, .int mask)] := hl
  obtain ⟨r, hr⟩ : ∃ r, f_KE_isWholeBy mask shares whole order = r := ⟨_, rfl⟩
  rw [hr]
  unfold f_KE_isWholeBy at hr
  refine lv_lconst (v := (0 : Int64)) hx hb d_KE_isWholeBy_0 (by decide) ?_
  refine lv_lstore_n hx hb d_KE_isWholeBy_1 rfl hl (by decide) rfl (fun ls hl => ?_)
  have hl : lv_has ls 5 [(2, .long (0 : Int64)), (0, .ref k), (1, .int mask)] := hl
  refine lv_iconst (v := (0 : Int32)) hx hb d_KE_isWholeBy_2 (by decide) ?_
  refine lv_istore hx hb d_KE_isWholeBy_3 hl (by decide) rfl (fun ls hl => ?_)
  have hl : lv_has ls 5 [(4, .int (0 : Int32)), (2, .long (0 : Int64)), (0, .ref k), (1, .int mask)] := hl
  exact wl_KE_isWholeBy_5 hg hw S hP hl0 ht  7 (0 : Int64) (0 : Int32) r ls hr (by decide) (lv_sub hl [0, 1, 2, 3] rfl)
end
section
/-! methods that write: their contract's end, calls of them, ends of bodies -/
section XWR
/-- it gave back v, and the cells are ws -/
def xw_post (G : xg_G) (A : Nat → Prop) (v : Option Value) (ws : va_W) : xc_R → Heap → Prop := fun r H1 => r = .inl v ∧ va_P G.2.1 cl_all ws H1 ∧ va_D A ws
theorem xw_S {A Ac : Nat → Prop} {H0 H H1 : Heap} {locs L : List Loc} (hS : va_S A H0 H locs) (hF : xc_F Ac H H1) (hAc : ∀ q, Ac q → A q) (hL : ∀ q ∈ L, Ac q.base) : va_S A H0 H1 (locs ++ L) :=
  ⟨Nat.le_trans hS.1 hF.1, fun q h1 h2 => (hF.2 q (Nat.lt_of_lt_of_le h1 hS.1) (fun z => h2 (hAc q z))).trans (hS.2.1 q h1 h2), fun q hq => (List.mem_append.mp hq).elim (hS.2.2 q) (fun h => hAc _ (hL q h))⟩
theorem xw_F {A : Nat → Prop} {H0 H : Heap} {locs : List Loc} (hS : va_S A H0 H locs) : xc_F A H0 H := ⟨hS.1, hS.2.1⟩
variable {p : Program} {l : Launch} {e : Env} {R : Room} {s : State} {m : MethodId} {args : Array Value} {below : List Frame} {meth : Method} {c : Code} {H H0 : Heap} {locs : List Loc} {cells slots : Nat} {Q : State → Prop} {pc : Nat} {ls : Array Slot} {rest st0 : List Value} {cc : ByteArray} {G : xg_G} {A : Nat → Prop} {ws wc wr wn : va_W} {v : Option Value} {mc ms : Nat}
theorem xw_use (hr : xc_Run p l e R s m args below meth c H locs cells slots (F0 m pc ls st0) rest mc ms (xw_post G (va_A wc H.size) v wn) (va_A wc H.size))
    (hP : va_P G.2.1 cl_all ws H) (hD : va_D A ws) (hS : va_S A H0 H locs) (hA : ∀ q, H0.size ≤ q → A q) (isC isR : List Nat) (hC : isC.map (fun i => ws[i]?) = wc.map some) (hR : isR.map (fun i => ws[i]?) = wr.map some) (hn : va_nd isR = true) (hdis : ∀ i ∈ isR, i ∉ isC)
    (k : ∀ (H1 : Heap) (locs1 : List Loc), va_P G.2.1 cl_all (wr ++ wn) H1 → va_D A (wr ++ wn) → va_S A H0 H1 locs1 → W p l e R s m args below meth c H1 locs1 (cells + mc) (slots + ms) Q (F0 m (pc + 3) ls (v.toList ++ rest))) :
    W p l e R s m args below meth c H locs cells slots Q (F0 m pc ls st0) := by
  have hFc := va_free (wc := wc) hD hS hA isC hC
  refine xc_use hr (fun v' H1 L hp hF hL => ?_) (fun q E ce H1 L hp => nomatch hp.1)
  obtain ⟨h1, hP1, hD1⟩ := hp
  cases h1
  obtain ⟨hP2, hD2⟩ := va_join (wr := wr) (w1 := wn) hP hD isC isR hC hR hn hdis hF.2 hFc hP1 hD1
  exact k H1 _ hP2 hD2 (xw_S hS hF hFc hL)
abbrev xw_Z (G : xg_G) (below : List Frame) (A : Nat → Prop) (v : Option Value) (ws : va_W) (args : Array Value) (s : State) (mc ms : Nat) : State → Prop := xc_Z below (xw_post G A v ws) A args s mc ms
theorem xw_vret (hx : p.tables.exec = Jvm.exec) (hb : c.code = cc) (ht : meth.sig.returnType = none) (hl : meth.locks = false) (hP : va_P G.2.1 cl_all ws H) (hD : va_D A ws) (hS : va_S A s.heap H locs) (hdg : decode cc pc = .ok (.return_, 1)) :
    W p l e R s m args below meth c H locs cells slots (xw_Z G below A none ws args s cells slots) (F0 m pc ls []) :=
  xc_vret hx hb ht hl (xw_F hS) hS.2.2 ⟨rfl, hP, hD⟩ hdg
theorem xw_iret {v : Int32} (hx : p.tables.exec = Jvm.exec) (hb : c.code = cc) (ht : meth.sig.returnType = some .int) (hl : meth.locks = false) (hP : va_P G.2.1 cl_all ws H) (hD : va_D A ws) (hS : va_S A s.heap H locs) (hdg : decode cc pc = .ok (.ireturn, 1)) :
    W p l e R s m args below meth c H locs cells slots (xw_Z G below A (some (.int v)) ws args s cells slots) (F0 m pc ls [.int v]) :=
  xc_iret hx hb ht hl (xw_F hS) hS.2.2 ⟨rfl, hP, hD⟩ hdg
theorem xw_lret {v : Int64} (hx : p.tables.exec = Jvm.exec) (hb : c.code = cc) (ht : meth.sig.returnType = some .long) (hl : meth.locks = false) (hP : va_P G.2.1 cl_all ws H) (hD : va_D A ws) (hS : va_S A s.heap H locs) (hdg : decode cc pc = .ok (.lreturn, 1)) :
    W p l e R s m args below meth c H locs cells slots (xw_Z G below A (some (.long v)) ws args s cells slots) (F0 m pc ls [.long v]) :=
  xc_lret hx hb ht hl (xw_F hS) hS.2.2 ⟨rfl, hP, hD⟩ hdg
theorem xw_zret {v : Int32} (hx : p.tables.exec = Jvm.exec) (hb : c.code = cc) (ht : meth.sig.returnType = some .boolean) (hl : meth.locks = false) (hn : narrow .boolean (.int v) = .int v) (hP : va_P G.2.1 cl_all ws H) (hD : va_D A ws) (hS : va_S A s.heap H locs) (hdg : decode cc pc = .ok (.ireturn, 1)) :
    W p l e R s m args below meth c H locs cells slots (xw_Z G below A (some (.int v)) ws args s cells slots) (F0 m pc ls [.int v]) :=
  xc_zret hx hb ht hn hl (xw_F hS) hS.2.2 ⟨rfl, hP, hD⟩ hdg
end XWR
end
section
/-! motion and buffer: methods that write -/
def f_MO_begin_standing (newBlock : Int64) : Int32 := (0 : Int32)
def f_MO_begin_block (newBlock : Int64) : Int64 := newBlock
def f_MO_begin_partials (newBlock : Int64) : Int32 := (0 : Int32)
def f_MO_begin_objections (newBlock : Int64) : Int32 := (0 : Int32)
def f_MO_begin_signature (newBlock : Int64) : Int64 := (0 : Int64)
set_option maxHeartbeats 4000000 in
set_option maxRecDepth 100000 in
theorem ct_MO_begin (l : Launch) {G : xg_G} (hg : xg_F G) (H : Heap) (mo : Nat) (newBlock : Int64) (pw : Nat) (cg : Nat) (an : Nat) (standing : Int32) (block : Int64) (partials : Int32) (objections : Int32) (signature : Int64) (hP : va_P G.2.1 cl_all [(mo, .inr (2, [.ref pw, .ref cg, .ref an, .int standing, .long block, .int partials, .int objections, .long signature]))] H) (hD0 : va_D (fun _ => True) [(mo, .inr (2, [.ref pw, .ref cg, .ref an, .int standing, .long block, .int partials, .int objections, .long signature]))])  : xc_Met l y_MO_begin (.code y_MO_begin b_MO_begin 3 none) ({ frames := 0, cells := 0, slots := 0, locals := 0 } : Room) (xg_Pc G [.ref mo, .long newBlock] H) (xw_post G (va_A [(mo, .inr (2, [.ref pw, .ref cg, .ref an, .int standing, .long block, .int partials, .int objections, .long signature]))] H.size) none [(mo, .inr (2, [.ref pw, .ref cg, .ref an, .int (f_MO_begin_standing newBlock), .long (f_MO_begin_block newBlock), .int (f_MO_begin_partials newBlock), .int (f_MO_begin_objections newBlock), .long (f_MO_begin_signature newBlock)]))]) (va_A [(mo, .inr (2, [.ref pw, .ref cg, .ref an, .int standing, .long block, .int partials, .int objections, .long signature]))] H.size) := by
  refine xc_ofW (by decide) ?_
  intro p e s m args below meth c s₁ B hml hE hv
  obtain ⟨rfl, rfl, hw⟩ := hv
  have hx := B.exec
  have hb := B.bytes
  have ht := B.returns
  have hl0 := B.notSynchronized
  have S : xc_Fix p m c b_MO_begin 3 s "SealTrust$Motion" := ⟨hx, hb, hml, findClass_of_methodNamed B.named⟩
  have hD := hD0.self (sz := s.heap.size)
  generalize hAe : va_A [(mo, .inr (2, [.ref pw, .ref cg, .ref an, .int standing, .long block, .int partials, .int objections, .long signature]))] s.heap.size = A at hD ⊢
  have hA : ∀ q : Nat, s.heap.size ≤ q → A q := fun q h => by rw [← hAe]; exact Or.inr h
  have hS : va_S A s.heap s.heap [] := va_S.rf
  have hl := lv_entry ([.ref mo, .long newBlock]) (n := 3) (Nat.le_of_ble_eq_true rfl)
  rw [lg_entry_eq]
  generalize (lg_sl ([.ref mo, .long newBlock]) ++ List.replicate (3 - (lg_sl ([.ref mo, .long newBlock])).length) Slot.unset).toArray = ls at hl ⊢
  have hl : lv_has ls 3 [(0, .ref mo), (1, .long newBlock)] := hl
  obtain ⟨r0, hr0⟩ : ∃ r, f_MO_begin_standing newBlock = r := ⟨_, rfl⟩
  rw [hr0]
  unfold f_MO_begin_standing at hr0
  obtain ⟨r1, hr1⟩ : ∃ r, f_MO_begin_block newBlock = r := ⟨_, rfl⟩
  rw [hr1]
  unfold f_MO_begin_block at hr1
  obtain ⟨r2, hr2⟩ : ∃ r, f_MO_begin_partials newBlock = r := ⟨_, rfl⟩
  rw [hr2]
  unfold f_MO_begin_partials at hr2
  obtain ⟨r3, hr3⟩ : ∃ r, f_MO_begin_objections newBlock = r := ⟨_, rfl⟩
  rw [hr3]
  unfold f_MO_begin_objections at hr3
  obtain ⟨r4, hr4⟩ : ∃ r, f_MO_begin_signature newBlock = r := ⟨_, rfl⟩
  rw [hr4]
  unfold f_MO_begin_signature at hr4
  refine lv_aload_n hx hb d_MO_begin_0 rfl (lv_at hl 0 rfl) ?_
  refine lv_iconst (v := (0 : Int32)) hx hb d_MO_begin_1 (by decide) ?_
  refine pf_MO_22 hg hw S hP hD hS 0 rfl rfl rfl (Nat.le_of_ble_eq_true rfl) d_MO_begin_2 (fun H1 L1 hP hD hS => ?_)
  have hP : va_P G.2.1 cl_all [(mo, .inr (2, [.ref pw, .ref cg, .ref an, .int (0 : Int32), .long block, .int partials, .int objections, .long signature]))] H1 := hP
  have hD : va_D A [(mo, .inr (2, [.ref pw, .ref cg, .ref an, .int (0 : Int32), .long block, .int partials, .int objections, .long signature]))] := hD
  refine lv_aload_n hx hb d_MO_begin_5 rfl (lv_at hl 0 rfl) ?_
  refine lv_lload_n hx hb d_MO_begin_6 rfl (lv_at hl 1 rfl) ?_
  refine pf_MO_26 hg hw S hP hD hS 0 rfl rfl rfl (Nat.le_of_ble_eq_true rfl) d_MO_begin_7 (fun H2 L2 hP hD hS => ?_)
  have hP : va_P G.2.1 cl_all [(mo, .inr (2, [.ref pw, .ref cg, .ref an, .int (0 : Int32), .long newBlock, .int partials, .int objections, .long signature]))] H2 := hP
  have hD : va_D A [(mo, .inr (2, [.ref pw, .ref cg, .ref an, .int (0 : Int32), .long newBlock, .int partials, .int objections, .long signature]))] := hD
  refine lv_aload_n hx hb d_MO_begin_10 rfl (lv_at hl 0 rfl) ?_
  refine lv_iconst (v := (0 : Int32)) hx hb d_MO_begin_11 (by decide) ?_
  refine pf_MO_30 hg hw S hP hD hS 0 rfl rfl rfl (Nat.le_of_ble_eq_true rfl) d_MO_begin_12 (fun H3 L3 hP hD hS => ?_)
  have hP : va_P G.2.1 cl_all [(mo, .inr (2, [.ref pw, .ref cg, .ref an, .int (0 : Int32), .long newBlock, .int (0 : Int32), .int objections, .long signature]))] H3 := hP
  have hD : va_D A [(mo, .inr (2, [.ref pw, .ref cg, .ref an, .int (0 : Int32), .long newBlock, .int (0 : Int32), .int objections, .long signature]))] := hD
  refine lv_aload_n hx hb d_MO_begin_15 rfl (lv_at hl 0 rfl) ?_
  refine lv_iconst (v := (0 : Int32)) hx hb d_MO_begin_16 (by decide) ?_
  refine pf_MO_33 hg hw S hP hD hS 0 rfl rfl rfl (Nat.le_of_ble_eq_true rfl) d_MO_begin_17 (fun H4 L4 hP hD hS => ?_)
  have hP : va_P G.2.1 cl_all [(mo, .inr (2, [.ref pw, .ref cg, .ref an, .int (0 : Int32), .long newBlock, .int (0 : Int32), .int (0 : Int32), .long signature]))] H4 := hP
  have hD : va_D A [(mo, .inr (2, [.ref pw, .ref cg, .ref an, .int (0 : Int32), .long newBlock, .int (0 : Int32), .int (0 : Int32), .long signature]))] := hD
  refine lv_aload_n hx hb d_MO_begin_20 rfl (lv_at hl 0 rfl) ?_
  refine lv_lconst (v := (0 : Int64)) hx hb d_MO_begin_21 (by decide) ?_
  refine pf_MO_36 hg hw S hP hD hS 0 rfl rfl rfl (Nat.le_of_ble_eq_true rfl) d_MO_begin_22 (fun H5 L5 hP hD hS => ?_)
  have hP : va_P G.2.1 cl_all [(mo, .inr (2, [.ref pw, .ref cg, .ref an, .int (0 : Int32), .long newBlock, .int (0 : Int32), .int (0 : Int32), .long (0 : Int64)]))] H5 := hP
  have hD : va_D A [(mo, .inr (2, [.ref pw, .ref cg, .ref an, .int (0 : Int32), .long newBlock, .int (0 : Int32), .int (0 : Int32), .long (0 : Int64)]))] := hD
  subst hr0
  subst hr1
  subst hr2
  subst hr3
  subst hr4
  exact xw_vret hx hb ht hl0 hP hD hS d_MO_begin_25
def f_MO_dropPartials_partials  : Int32 := (0 : Int32)
set_option maxHeartbeats 4000000 in
set_option maxRecDepth 100000 in
theorem ct_MO_dropPartials (l : Launch) {G : xg_G} (hg : xg_F G) (H : Heap) (mo : Nat) (pw : Nat) (cg : Nat) (an : Nat) (standing : Int32) (block : Int64) (partials : Int32) (objections : Int32) (signature : Int64) (hP : va_P G.2.1 cl_all [(mo, .inr (2, [.ref pw, .ref cg, .ref an, .int standing, .long block, .int partials, .int objections, .long signature]))] H) (hD0 : va_D (fun _ => True) [(mo, .inr (2, [.ref pw, .ref cg, .ref an, .int standing, .long block, .int partials, .int objections, .long signature]))])  : xc_Met l y_MO_dropPartials (.code y_MO_dropPartials b_MO_dropPartials 1 none) ({ frames := 0, cells := 0, slots := 0, locals := 0 } : Room) (xg_Pc G [.ref mo] H) (xw_post G (va_A [(mo, .inr (2, [.ref pw, .ref cg, .ref an, .int standing, .long block, .int partials, .int objections, .long signature]))] H.size) none [(mo, .inr (2, [.ref pw, .ref cg, .ref an, .int standing, .long block, .int f_MO_dropPartials_partials, .int objections, .long signature]))]) (va_A [(mo, .inr (2, [.ref pw, .ref cg, .ref an, .int standing, .long block, .int partials, .int objections, .long signature]))] H.size) := by
  refine xc_ofW (by decide) ?_
  intro p e s m args below meth c s₁ B hml hE hv
  obtain ⟨rfl, rfl, hw⟩ := hv
  have hx := B.exec
  have hb := B.bytes
  have ht := B.returns
  have hl0 := B.notSynchronized
  have S : xc_Fix p m c b_MO_dropPartials 1 s "SealTrust$Motion" := ⟨hx, hb, hml, findClass_of_methodNamed B.named⟩
  have hD := hD0.self (sz := s.heap.size)
  generalize hAe : va_A [(mo, .inr (2, [.ref pw, .ref cg, .ref an, .int standing, .long block, .int partials, .int objections, .long signature]))] s.heap.size = A at hD ⊢
  have hA : ∀ q : Nat, s.heap.size ≤ q → A q := fun q h => by rw [← hAe]; exact Or.inr h
  have hS : va_S A s.heap s.heap [] := va_S.rf
  have hl := lv_entry ([.ref mo]) (n := 1) (Nat.le_of_ble_eq_true rfl)
  rw [lg_entry_eq]
  generalize (lg_sl ([.ref mo]) ++ List.replicate (1 - (lg_sl ([.ref mo])).length) Slot.unset).toArray = ls at hl ⊢
  have hl : lv_has ls 1 [(0, .ref mo)] := hl
  obtain ⟨r0, hr0⟩ : ∃ r, f_MO_dropPartials_partials  = r := ⟨_, rfl⟩
  rw [hr0]
  unfold f_MO_dropPartials_partials at hr0
  refine lv_aload_n hx hb d_MO_dropPartials_0 rfl (lv_at hl 0 rfl) ?_
  refine lv_iconst (v := (0 : Int32)) hx hb d_MO_dropPartials_1 (by decide) ?_
  refine pf_MO_30 hg hw S hP hD hS 0 rfl rfl rfl (Nat.le_of_ble_eq_true rfl) d_MO_dropPartials_2 (fun H1 L1 hP hD hS => ?_)
  have hP : va_P G.2.1 cl_all [(mo, .inr (2, [.ref pw, .ref cg, .ref an, .int standing, .long block, .int (0 : Int32), .int objections, .long signature]))] H1 := hP
  have hD : va_D A [(mo, .inr (2, [.ref pw, .ref cg, .ref an, .int standing, .long block, .int (0 : Int32), .int objections, .long signature]))] := hD
  subst hr0
  exact xw_vret hx hb ht hl0 hP hD hS d_MO_dropPartials_5
def f_MO_seal_standing (newSignature : Int64) : Int32 := (1 : Int32)
def f_MO_seal_signature (newSignature : Int64) : Int64 := newSignature
set_option maxHeartbeats 4000000 in
set_option maxRecDepth 100000 in
theorem ct_MO_seal (l : Launch) {G : xg_G} (hg : xg_F G) (H : Heap) (mo : Nat) (newSignature : Int64) (pw : Nat) (cg : Nat) (an : Nat) (standing : Int32) (block : Int64) (partials : Int32) (objections : Int32) (signature : Int64) (hP : va_P G.2.1 cl_all [(mo, .inr (2, [.ref pw, .ref cg, .ref an, .int standing, .long block, .int partials, .int objections, .long signature]))] H) (hD0 : va_D (fun _ => True) [(mo, .inr (2, [.ref pw, .ref cg, .ref an, .int standing, .long block, .int partials, .int objections, .long signature]))])  : xc_Met l y_MO_seal (.code y_MO_seal b_MO_seal 3 none) ({ frames := 0, cells := 0, slots := 0, locals := 0 } : Room) (xg_Pc G [.ref mo, .long newSignature] H) (xw_post G (va_A [(mo, .inr (2, [.ref pw, .ref cg, .ref an, .int standing, .long block, .int partials, .int objections, .long signature]))] H.size) none [(mo, .inr (2, [.ref pw, .ref cg, .ref an, .int (f_MO_seal_standing newSignature), .long block, .int partials, .int objections, .long (f_MO_seal_signature newSignature)]))]) (va_A [(mo, .inr (2, [.ref pw, .ref cg, .ref an, .int standing, .long block, .int partials, .int objections, .long signature]))] H.size) := by
  refine xc_ofW (by decide) ?_
  intro p e s m args below meth c s₁ B hml hE hv
  obtain ⟨rfl, rfl, hw⟩ := hv
  have hx := B.exec
  have hb := B.bytes
  have ht := B.returns
  have hl0 := B.notSynchronized
  have S : xc_Fix p m c b_MO_seal 3 s "SealTrust$Motion" := ⟨hx, hb, hml, findClass_of_methodNamed B.named⟩
  have hD := hD0.self (sz := s.heap.size)
  generalize hAe : va_A [(mo, .inr (2, [.ref pw, .ref cg, .ref an, .int standing, .long block, .int partials, .int objections, .long signature]))] s.heap.size = A at hD ⊢
  have hA : ∀ q : Nat, s.heap.size ≤ q → A q := fun q h => by rw [← hAe]; exact Or.inr h
  have hS : va_S A s.heap s.heap [] := va_S.rf
  have hl := lv_entry ([.ref mo, .long newSignature]) (n := 3) (Nat.le_of_ble_eq_true rfl)
  rw [lg_entry_eq]
  generalize (lg_sl ([.ref mo, .long newSignature]) ++ List.replicate (3 - (lg_sl ([.ref mo, .long newSignature])).length) Slot.unset).toArray = ls at hl ⊢
  have hl : lv_has ls 3 [(0, .ref mo), (1, .long newSignature)] := hl
  obtain ⟨r0, hr0⟩ : ∃ r, f_MO_seal_standing newSignature = r := ⟨_, rfl⟩
  rw [hr0]
  unfold f_MO_seal_standing at hr0
  obtain ⟨r1, hr1⟩ : ∃ r, f_MO_seal_signature newSignature = r := ⟨_, rfl⟩
  rw [hr1]
  unfold f_MO_seal_signature at hr1
  refine lv_aload_n hx hb d_MO_seal_0 rfl (lv_at hl 0 rfl) ?_
  refine lv_lload_n hx hb d_MO_seal_1 rfl (lv_at hl 1 rfl) ?_
  refine pf_MO_36 hg hw S hP hD hS 0 rfl rfl rfl (Nat.le_of_ble_eq_true rfl) d_MO_seal_2 (fun H1 L1 hP hD hS => ?_)
  have hP : va_P G.2.1 cl_all [(mo, .inr (2, [.ref pw, .ref cg, .ref an, .int standing, .long block, .int partials, .int objections, .long newSignature]))] H1 := hP
  have hD : va_D A [(mo, .inr (2, [.ref pw, .ref cg, .ref an, .int standing, .long block, .int partials, .int objections, .long newSignature]))] := hD
  refine lv_aload_n hx hb d_MO_seal_5 rfl (lv_at hl 0 rfl) ?_
  refine lv_iconst (v := (1 : Int32)) hx hb d_MO_seal_6 (by decide) ?_
  refine pf_MO_22 hg hw S hP hD hS 0 rfl rfl rfl (Nat.le_of_ble_eq_true rfl) d_MO_seal_7 (fun H2 L2 hP hD hS => ?_)
  have hP : va_P G.2.1 cl_all [(mo, .inr (2, [.ref pw, .ref cg, .ref an, .int (1 : Int32), .long block, .int partials, .int objections, .long newSignature]))] H2 := hP
  have hD : va_D A [(mo, .inr (2, [.ref pw, .ref cg, .ref an, .int (1 : Int32), .long block, .int partials, .int objections, .long newSignature]))] := hD
  subst hr0
  subst hr1
  exact xw_vret hx hb ht hl0 hP hD hS d_MO_seal_10
def f_MO_takePartial_PW (trustee : Int32) (power : Int64) (powers : Nat → Int64) : Nat → Int64 := vp_updL powers trustee.toNatClampNeg power
def f_MO_takePartial_CG (trustee : Int32) (challenge : Int32) (challenges : Nat → Int32) : Nat → Int32 := upd challenges trustee.toNatClampNeg challenge
def f_MO_takePartial_AN (trustee : Int32) (answer : Int64) (answers : Nat → Int64) : Nat → Int64 := vp_updL answers trustee.toNatClampNeg answer
def f_MO_takePartial_partials (trustee : Int32) (partials : Int32) : Int32 := partials ||| ((1 : Int32) <<< (trustee &&& 31))
set_option maxHeartbeats 4000000 in
set_option maxRecDepth 100000 in
theorem ct_MO_takePartial (l : Launch) {G : xg_G} (hg : xg_F G) (H : Heap) (mo : Nat) (trustee : Int32) (power : Int64) (challenge : Int32) (answer : Int64) (pw : Nat) (cg : Nat) (an : Nat) (standing : Int32) (block : Int64) (partials : Int32) (objections : Int32) (signature : Int64) (powers : Nat → Int64) (challenges : Nat → Int32) (answers : Nat → Int64) (hP : va_P G.2.1 cl_all [(mo, .inr (2, [.ref pw, .ref cg, .ref an, .int standing, .long block, .int partials, .int objections, .long signature])), (pw, .inl (G.2.2.2.1, 6, .inr (.inl powers))), (cg, .inl (G.2.2.1, 6, .inl challenges)), (an, .inl (G.2.2.2.1, 6, .inr (.inl answers)))] H) (hD0 : va_D (fun _ => True) [(mo, .inr (2, [.ref pw, .ref cg, .ref an, .int standing, .long block, .int partials, .int objections, .long signature])), (pw, .inl (G.2.2.2.1, 6, .inr (.inl powers))), (cg, .inl (G.2.2.1, 6, .inl challenges)), (an, .inl (G.2.2.2.1, 6, .inr (.inl answers)))]) (hT : vp_in trustee 6) : xc_Met l y_MO_takePartial (.code y_MO_takePartial b_MO_takePartial 7 none) ({ frames := 0, cells := 0, slots := 0, locals := 0 } : Room) (xg_Pc G [.ref mo, .int trustee, .long power, .int challenge, .long answer] H) (xw_post G (va_A [(mo, .inr (2, [.ref pw, .ref cg, .ref an, .int standing, .long block, .int partials, .int objections, .long signature])), (pw, .inl (G.2.2.2.1, 6, .inr (.inl powers))), (cg, .inl (G.2.2.1, 6, .inl challenges)), (an, .inl (G.2.2.2.1, 6, .inr (.inl answers)))] H.size) none [(mo, .inr (2, [.ref pw, .ref cg, .ref an, .int standing, .long block, .int (f_MO_takePartial_partials trustee partials), .int objections, .long signature])), (pw, .inl (G.2.2.2.1, 6, .inr (.inl (f_MO_takePartial_PW trustee power powers)))), (cg, .inl (G.2.2.1, 6, .inl (f_MO_takePartial_CG trustee challenge challenges))), (an, .inl (G.2.2.2.1, 6, .inr (.inl (f_MO_takePartial_AN trustee answer answers))))]) (va_A [(mo, .inr (2, [.ref pw, .ref cg, .ref an, .int standing, .long block, .int partials, .int objections, .long signature])), (pw, .inl (G.2.2.2.1, 6, .inr (.inl powers))), (cg, .inl (G.2.2.1, 6, .inl challenges)), (an, .inl (G.2.2.2.1, 6, .inr (.inl answers)))] H.size) := by
  refine xc_ofW (by decide) ?_
  intro p e s m args below meth c s₁ B hml hE hv
  obtain ⟨rfl, rfl, hw⟩ := hv
  have hx := B.exec
  have hb := B.bytes
  have ht := B.returns
  have hl0 := B.notSynchronized
  have S : xc_Fix p m c b_MO_takePartial 7 s "SealTrust$Motion" := ⟨hx, hb, hml, findClass_of_methodNamed B.named⟩
  have hD := hD0.self (sz := s.heap.size)
  generalize hAe : va_A [(mo, .inr (2, [.ref pw, .ref cg, .ref an, .int standing, .long block, .int partials, .int objections, .long signature])), (pw, .inl (G.2.2.2.1, 6, .inr (.inl powers))), (cg, .inl (G.2.2.1, 6, .inl challenges)), (an, .inl (G.2.2.2.1, 6, .inr (.inl answers)))] s.heap.size = A at hD ⊢
  have hA : ∀ q : Nat, s.heap.size ≤ q → A q := fun q h => by rw [← hAe]; exact Or.inr h
  have hS : va_S A s.heap s.heap [] := va_S.rf
  have hl := lv_entry ([.ref mo, .int trustee, .long power, .int challenge, .long answer]) (n := 7) (Nat.le_of_ble_eq_true rfl)
  rw [lg_entry_eq]
  generalize (lg_sl ([.ref mo, .int trustee, .long power, .int challenge, .long answer]) ++ List.replicate (7 - (lg_sl ([.ref mo, .int trustee, .long power, .int challenge, .long answer])).length) Slot.unset).toArray = ls at hl ⊢
  have hl : lv_has ls 7 [(0, .ref mo), (1, .int trustee), (2, .long power), (4, .int challenge), (5, .long answer)] := hl
  obtain ⟨r0, hr0⟩ : ∃ r, f_MO_takePartial_PW trustee power powers = r := ⟨_, rfl⟩
  rw [hr0]
  unfold f_MO_takePartial_PW at hr0
  obtain ⟨r1, hr1⟩ : ∃ r, f_MO_takePartial_CG trustee challenge challenges = r := ⟨_, rfl⟩
  rw [hr1]
  unfold f_MO_takePartial_CG at hr1
  obtain ⟨r2, hr2⟩ : ∃ r, f_MO_takePartial_AN trustee answer answers = r := ⟨_, rfl⟩
  rw [hr2]
  unfold f_MO_takePartial_AN at hr2
  obtain ⟨r3, hr3⟩ : ∃ r, f_MO_takePartial_partials trustee partials = r := ⟨_, rfl⟩
  rw [hr3]
  unfold f_MO_takePartial_partials at hr3
  refine lv_aload_n hx hb d_MO_takePartial_0 rfl (lv_at hl 0 rfl) ?_
  refine gf_MO_9 hg hw S hP 0 rfl rfl d_MO_takePartial_1 ?_
  refine lv_iload_n hx hb d_MO_takePartial_4 rfl (lv_at hl 1 rfl) ?_
  refine lv_lload_n hx hb d_MO_takePartial_5 rfl (lv_at hl 2 rfl) ?_
  refine va_last hx hb (xg_k hg hw) hP hD hS 1 1 rfl rfl hT d_MO_takePartial_6 (fun H1 L1 hP hD hS => ?_)
  have hP : va_P G.2.1 cl_all [(mo, .inr (2, [.ref pw, .ref cg, .ref an, .int standing, .long block, .int partials, .int objections, .long signature])), (pw, .inl (G.2.2.2.1, 6, .inr (.inl (vp_updL powers trustee.toNatClampNeg power)))), (cg, .inl (G.2.2.1, 6, .inl challenges)), (an, .inl (G.2.2.2.1, 6, .inr (.inl answers)))] H1 := hP
  have hD : va_D A [(mo, .inr (2, [.ref pw, .ref cg, .ref an, .int standing, .long block, .int partials, .int objections, .long signature])), (pw, .inl (G.2.2.2.1, 6, .inr (.inl (vp_updL powers trustee.toNatClampNeg power)))), (cg, .inl (G.2.2.1, 6, .inl challenges)), (an, .inl (G.2.2.2.1, 6, .inr (.inl answers)))] := hD
  refine lv_aload_n hx hb d_MO_takePartial_7 rfl (lv_at hl 0 rfl) ?_
  refine gf_MO_15 hg hw S hP 0 rfl rfl d_MO_takePartial_8 ?_
  refine lv_iload_n hx hb d_MO_takePartial_11 rfl (lv_at hl 1 rfl) ?_
  refine lv_iload hx hb d_MO_takePartial_12 (lv_at hl 3 rfl) ?_
  refine va_iast hx hb (xg_k hg hw) hP hD hS 2 0 rfl rfl hT d_MO_takePartial_14 (fun H2 L2 hP hD hS => ?_)
  have hP : va_P G.2.1 cl_all [(mo, .inr (2, [.ref pw, .ref cg, .ref an, .int standing, .long block, .int partials, .int objections, .long signature])), (pw, .inl (G.2.2.2.1, 6, .inr (.inl (vp_updL powers trustee.toNatClampNeg power)))), (cg, .inl (G.2.2.1, 6, .inl (upd challenges trustee.toNatClampNeg challenge))), (an, .inl (G.2.2.2.1, 6, .inr (.inl answers)))] H2 := hP
  have hD : va_D A [(mo, .inr (2, [.ref pw, .ref cg, .ref an, .int standing, .long block, .int partials, .int objections, .long signature])), (pw, .inl (G.2.2.2.1, 6, .inr (.inl (vp_updL powers trustee.toNatClampNeg power)))), (cg, .inl (G.2.2.1, 6, .inl (upd challenges trustee.toNatClampNeg challenge))), (an, .inl (G.2.2.2.1, 6, .inr (.inl answers)))] := hD
  refine lv_aload_n hx hb d_MO_takePartial_15 rfl (lv_at hl 0 rfl) ?_
  refine gf_MO_19 hg hw S hP 0 rfl rfl d_MO_takePartial_16 ?_
  refine lv_iload_n hx hb d_MO_takePartial_19 rfl (lv_at hl 1 rfl) ?_
  refine lv_lload hx hb d_MO_takePartial_20 (lv_at hl 4 rfl) ?_
  refine va_last hx hb (xg_k hg hw) hP hD hS 3 1 rfl rfl hT d_MO_takePartial_22 (fun H3 L3 hP hD hS => ?_)
  have hP : va_P G.2.1 cl_all [(mo, .inr (2, [.ref pw, .ref cg, .ref an, .int standing, .long block, .int partials, .int objections, .long signature])), (pw, .inl (G.2.2.2.1, 6, .inr (.inl (vp_updL powers trustee.toNatClampNeg power)))), (cg, .inl (G.2.2.1, 6, .inl (upd challenges trustee.toNatClampNeg challenge))), (an, .inl (G.2.2.2.1, 6, .inr (.inl (vp_updL answers trustee.toNatClampNeg answer))))] H3 := hP
  have hD : va_D A [(mo, .inr (2, [.ref pw, .ref cg, .ref an, .int standing, .long block, .int partials, .int objections, .long signature])), (pw, .inl (G.2.2.2.1, 6, .inr (.inl (vp_updL powers trustee.toNatClampNeg power)))), (cg, .inl (G.2.2.1, 6, .inl (upd challenges trustee.toNatClampNeg challenge))), (an, .inl (G.2.2.2.1, 6, .inr (.inl (vp_updL answers trustee.toNatClampNeg answer))))] := hD
  refine lv_aload_n hx hb d_MO_takePartial_23 rfl (lv_at hl 0 rfl) ?_
  refine lv_dup hx hb d_MO_takePartial_24 rfl ?_
  refine gf_MO_30 hg hw S hP 0 rfl rfl d_MO_takePartial_25 ?_
  refine lv_iconst (v := (1 : Int32)) hx hb d_MO_takePartial_28 (by decide) ?_
  refine lv_iload_n hx hb d_MO_takePartial_29 rfl (lv_at hl 1 rfl) ?_
  refine lv_ishl hx hb d_MO_takePartial_30 ?_
  refine lv_ior hx hb d_MO_takePartial_31 ?_
  refine pf_MO_30 hg hw S hP hD hS 0 rfl rfl rfl (Nat.le_of_ble_eq_true rfl) d_MO_takePartial_32 (fun H4 L4 hP hD hS => ?_)
  have hP : va_P G.2.1 cl_all [(mo, .inr (2, [.ref pw, .ref cg, .ref an, .int standing, .long block, .int (partials ||| ((1 : Int32) <<< (trustee &&& 31))), .int objections, .long signature])), (pw, .inl (G.2.2.2.1, 6, .inr (.inl (vp_updL powers trustee.toNatClampNeg power)))), (cg, .inl (G.2.2.1, 6, .inl (upd challenges trustee.toNatClampNeg challenge))), (an, .inl (G.2.2.2.1, 6, .inr (.inl (vp_updL answers trustee.toNatClampNeg answer))))] H4 := hP
  have hD : va_D A [(mo, .inr (2, [.ref pw, .ref cg, .ref an, .int standing, .long block, .int (partials ||| ((1 : Int32) <<< (trustee &&& 31))), .int objections, .long signature])), (pw, .inl (G.2.2.2.1, 6, .inr (.inl (vp_updL powers trustee.toNatClampNeg power)))), (cg, .inl (G.2.2.1, 6, .inl (upd challenges trustee.toNatClampNeg challenge))), (an, .inl (G.2.2.2.1, 6, .inr (.inl (vp_updL answers trustee.toNatClampNeg answer))))] := hD
  subst hr0
  subst hr1
  subst hr2
  subst hr3
  exact xw_vret hx hb ht hl0 hP hD hS d_MO_takePartial_35
def f_BU_clear_size  : Int32 := (0 : Int32)
set_option maxHeartbeats 4000000 in
set_option maxRecDepth 100000 in
theorem ct_BU_clear (l : Launch) {G : xg_G} (hg : xg_F G) (H : Heap) (bu : Nat) (bys : Nat) (size : Int32) (hP : va_P G.2.1 cl_all [(bu, .inr (0, [.ref bys, .int size]))] H) (hD0 : va_D (fun _ => True) [(bu, .inr (0, [.ref bys, .int size]))])  : xc_Met l y_BU_clear (.code y_BU_clear b_BU_clear 1 none) ({ frames := 0, cells := 0, slots := 0, locals := 0 } : Room) (xg_Pc G [.ref bu] H) (xw_post G (va_A [(bu, .inr (0, [.ref bys, .int size]))] H.size) none [(bu, .inr (0, [.ref bys, .int f_BU_clear_size]))]) (va_A [(bu, .inr (0, [.ref bys, .int size]))] H.size) := by
  refine xc_ofW (by decide) ?_
  intro p e s m args below meth c s₁ B hml hE hv
  obtain ⟨rfl, rfl, hw⟩ := hv
  have hx := B.exec
  have hb := B.bytes
  have ht := B.returns
  have hl0 := B.notSynchronized
  have S : xc_Fix p m c b_BU_clear 1 s "SealTrust$Buffer" := ⟨hx, hb, hml, findClass_of_methodNamed B.named⟩
  have hD := hD0.self (sz := s.heap.size)
  generalize hAe : va_A [(bu, .inr (0, [.ref bys, .int size]))] s.heap.size = A at hD ⊢
  have hA : ∀ q : Nat, s.heap.size ≤ q → A q := fun q h => by rw [← hAe]; exact Or.inr h
  have hS : va_S A s.heap s.heap [] := va_S.rf
  have hl := lv_entry ([.ref bu]) (n := 1) (Nat.le_of_ble_eq_true rfl)
  rw [lg_entry_eq]
  generalize (lg_sl ([.ref bu]) ++ List.replicate (1 - (lg_sl ([.ref bu])).length) Slot.unset).toArray = ls at hl ⊢
  have hl : lv_has ls 1 [(0, .ref bu)] := hl
  obtain ⟨r0, hr0⟩ : ∃ r, f_BU_clear_size  = r := ⟨_, rfl⟩
  rw [hr0]
  unfold f_BU_clear_size at hr0
  refine lv_aload_n hx hb d_BU_clear_0 rfl (lv_at hl 0 rfl) ?_
  refine lv_iconst (v := (0 : Int32)) hx hb d_BU_clear_1 (by decide) ?_
  refine pf_BU_15 hg hw S hP hD hS 0 rfl rfl rfl (Nat.le_of_ble_eq_true rfl) d_BU_clear_2 (fun H1 L1 hP hD hS => ?_)
  have hP : va_P G.2.1 cl_all [(bu, .inr (0, [.ref bys, .int (0 : Int32)]))] H1 := hP
  have hD : va_D A [(bu, .inr (0, [.ref bys, .int (0 : Int32)]))] := hD
  subst hr0
  exact xw_vret hx hb ht hl0 hP hD hS d_BU_clear_5
def lf_BU_append_4_0 (word : Int32) (n_ : Int32) (size : Int32) (bytes : Nat → Int32) : Nat → Int32 → Int32 → (Nat → Int32) → Int32
  | 0, _, _, _ => 0
  | n + 1, i, sz, bs => if i < 0 then sz else (if (24 : Int32) ≤ sz then sz else (lf_BU_append_4_0 word n_ size bytes n (i + (-1 : Int32)) (sz + (1 : Int32)) (upd bs sz.toNatClampNeg (((word.toUInt32 >>> (((8 : Int32) * i).toUInt32 &&& Int32.toUInt32 31)).toInt32) &&& (255 : Int32)))))
def lf_BU_append_4_1 (word : Int32) (n_ : Int32) (size : Int32) (bytes : Nat → Int32) : Nat → Int32 → Int32 → (Nat → Int32) → (Nat → Int32)
  | 0, _, _, _ => fun _ => 0
  | n + 1, i, sz, bs => if i < 0 then bs else (if (24 : Int32) ≤ sz then bs else (lf_BU_append_4_1 word n_ size bytes n (i + (-1 : Int32)) (sz + (1 : Int32)) (upd bs sz.toNatClampNeg (((word.toUInt32 >>> (((8 : Int32) * i).toUInt32 &&& Int32.toUInt32 31)).toInt32) &&& (255 : Int32)))))
def f_BU_append_size (word : Int32) (n_ : Int32) (size : Int32) (bytes : Nat → Int32) : Int32 := lf_BU_append_4_0 word n_ size bytes 6 (n_ - (1 : Int32)) size bytes
def f_BU_append_BY (word : Int32) (n_ : Int32) (size : Int32) (bytes : Nat → Int32) : Nat → Int32 := lf_BU_append_4_1 word n_ size bytes 6 (n_ - (1 : Int32)) size bytes
set_option maxHeartbeats 4000000 in
set_option maxRecDepth 100000 in
theorem wl_BU_append_4 {p : Program} {l : Launch} {e : Env} {s : State} {m : MethodId} {args : Array Value} {below : List Frame} {meth : Method} {c : Code} {G : xg_G} {A : Nat → Prop} {bu : Nat} {word : Int32} {n_ : Int32} {bys : Nat} {size : Int32} {bytes : Nat → Int32} (hg : xg_F G) (hw : G.1.WarmedH s.vm) (S : xc_Fix p m c b_BU_append 4 s "SealTrust$Buffer") (hl0 : meth.locks = false) (ht : meth.sig.returnType = none) (hA : ∀ q, s.heap.size ≤ q → A q)  : ∀ (n : Nat) (i : Int32) (sz : Int32) (bs : Nat → Int32) (r0 : Int32) (r1 : Nat → Int32) (ls : Array Slot) (H9 : Heap) (L9 : List Loc), lf_BU_append_4_0 word n_ size bytes n i sz bs = r0 → lf_BU_append_4_1 word n_ size bytes n i sz bs = r1 → (-1 ≤ i.toInt ∧ i.toInt < (n : Int) - 1 ∧ 0 ≤ sz.toInt) → lv_has ls 4 [(3, .int i), (0, .ref bu), (1, .int word), (2, .int n_)] → va_P G.2.1 cl_all [(bu, .inr (0, [.ref bys, .int sz])), (bys, .inl (G.2.2.1, 24, .inl bs))] H9 → va_D A [(bu, .inr (0, [.ref bys, .int sz])), (bys, .inl (G.2.2.1, 24, .inl bs))] → va_S A s.heap H9 L9 → W p l e ({ frames := 0, cells := 0, slots := 0, locals := 0 } : Room) s m args below meth c H9 L9 0 0 (xw_Z G below A none [(bu, .inr (0, [.ref bys, .int r0])), (bys, .inl (G.2.2.1, 24, .inl r1))] args s 0 0) (F0 m 4 ls []) := by
  have hx := S.1
  have hb := S.2.1
  intro n
  induction n with
  | zero =>
    intro i sz bs r0 r1 ls H9 L9 hr0 hr1 hmu
    omega
  | succ n ih =>
    intro i sz bs r0 r1 ls H9 L9 hr0 hr1 hmu hl hP hD hS
    rw [lf_BU_append_4_0] at hr0
    rw [lf_BU_append_4_1] at hr1
    refine lv_iload_n hx hb d_BU_append_4 rfl (lv_at hl 0 rfl) ?_
    refine lv_if_lt hx hb d_BU_append_5 (tgt := 52) (by decide) (fun h5 => ?_) (fun h5 => ?_)
    · rw [if_pos h5] at hr0
      rw [if_pos h5] at hr1
      subst hr0
      subst hr1
      exact xw_vret hx hb ht hl0 hP hD hS d_BU_append_52
    · rw [if_neg h5] at hr0
      rw [if_neg h5] at hr1
      refine lv_aload_n hx hb d_BU_append_8 rfl (lv_at hl 1 rfl) ?_
      refine gf_BU_15 hg hw S hP 0 rfl rfl d_BU_append_9 ?_
      refine lv_bipush (v := (24 : Int32)) hx hb d_BU_append_12 (by decide) ?_
      refine lv_icmp_ge hx hb d_BU_append_14 (tgt := 52) (by decide) (fun h14 => ?_) (fun h14 => ?_)
      · rw [if_pos h14] at hr0
        rw [if_pos h14] at hr1
        subst hr0
        subst hr1
        exact xw_vret hx hb ht hl0 hP hD hS d_BU_append_52
      · rw [if_neg h14] at hr0
        rw [if_neg h14] at hr1
        refine lv_aload_n hx hb d_BU_append_17 rfl (lv_at hl 1 rfl) ?_
        refine gf_BU_9 hg hw S hP 0 rfl rfl d_BU_append_18 ?_
        refine lv_aload_n hx hb d_BU_append_21 rfl (lv_at hl 1 rfl) ?_
        refine gf_BU_15 hg hw S hP 0 rfl rfl d_BU_append_22 ?_
        refine lv_iload_n hx hb d_BU_append_25 rfl (lv_at hl 2 rfl) ?_
        refine lv_bipush (v := (8 : Int32)) hx hb d_BU_append_26 (by decide) ?_
        refine lv_iload_n hx hb d_BU_append_28 rfl (lv_at hl 0 rfl) ?_
        refine lv_imul hx hb d_BU_append_29 ?_
        refine lv_iushr hx hb d_BU_append_30 rfl ?_
        refine lv_sipush (v := (255 : Int32)) hx hb d_BU_append_31 (by decide) ?_
        refine lv_iand hx hb d_BU_append_34 ?_
        refine va_iast hx hb (xg_k hg hw) hP hD hS 1 0 rfl rfl (xi_in h14 hmu.2.2 (by decide)) d_BU_append_35 (fun H1 L1 hP hD hS => ?_)
        have hP : va_P G.2.1 cl_all [(bu, .inr (0, [.ref bys, .int sz])), (bys, .inl (G.2.2.1, 24, .inl (upd bs sz.toNatClampNeg (((word.toUInt32 >>> (((8 : Int32) * i).toUInt32 &&& Int32.toUInt32 31)).toInt32) &&& (255 : Int32)))))] H1 := hP
        have hD : va_D A [(bu, .inr (0, [.ref bys, .int sz])), (bys, .inl (G.2.2.1, 24, .inl (upd bs sz.toNatClampNeg (((word.toUInt32 >>> (((8 : Int32) * i).toUInt32 &&& Int32.toUInt32 31)).toInt32) &&& (255 : Int32)))))] := hD
        refine lv_aload_n hx hb d_BU_append_36 rfl (lv_at hl 1 rfl) ?_
        refine lv_dup hx hb d_BU_append_37 rfl ?_
        refine gf_BU_15 hg hw S hP 0 rfl rfl d_BU_append_38 ?_
        refine lv_iconst (v := (1 : Int32)) hx hb d_BU_append_41 (by decide) ?_
        refine lv_iadd hx hb d_BU_append_42 ?_
        refine pf_BU_15 hg hw S hP hD hS 0 rfl rfl rfl (Nat.le_of_ble_eq_true rfl) d_BU_append_43 (fun H2 L2 hP hD hS => ?_)
        have hP : va_P G.2.1 cl_all [(bu, .inr (0, [.ref bys, .int (sz + (1 : Int32))])), (bys, .inl (G.2.2.1, 24, .inl (upd bs sz.toNatClampNeg (((word.toUInt32 >>> (((8 : Int32) * i).toUInt32 &&& Int32.toUInt32 31)).toInt32) &&& (255 : Int32)))))] H2 := hP
        have hD : va_D A [(bu, .inr (0, [.ref bys, .int (sz + (1 : Int32))])), (bys, .inl (G.2.2.1, 24, .inl (upd bs sz.toNatClampNeg (((word.toUInt32 >>> (((8 : Int32) * i).toUInt32 &&& Int32.toUInt32 31)).toInt32) &&& (255 : Int32)))))] := hD
        refine lv_iinc (v := i + (-1 : Int32)) hx hb d_BU_append_46 hl (k := 0) rfl rfl (by decide) rfl (fun ls hl => ?_)
        have hl : lv_has ls 4 [(3, .int (i + (-1 : Int32))), (0, .ref bu), (1, .int word), (2, .int n_)] := hl
        refine lv_goto hx hb d_BU_append_49 (tgt := 4) (by decide) ?_
        exact ih (i + (-1 : Int32)) (sz + (1 : Int32)) (upd bs sz.toNatClampNeg (((word.toUInt32 >>> (((8 : Int32) * i).toUInt32 &&& Int32.toUInt32 31)).toInt32) &&& (255 : Int32))) r0 r1 ls H2 L2 hr0 hr1 (xs_down h5 h14 hmu) (lv_sub hl [0, 1, 2, 3] rfl) hP hD hS
set_option maxHeartbeats 4000000 in
set_option maxRecDepth 100000 in
theorem ct_BU_append (l : Launch) {G : xg_G} (hg : xg_F G) (H : Heap) (bu : Nat) (word : Int32) (n_ : Int32) (bys : Nat) (size : Int32) (bytes : Nat → Int32) (hP : va_P G.2.1 cl_all [(bu, .inr (0, [.ref bys, .int size])), (bys, .inl (G.2.2.1, 24, .inl bytes))] H) (hD0 : va_D (fun _ => True) [(bu, .inr (0, [.ref bys, .int size])), (bys, .inl (G.2.2.1, 24, .inl bytes))]) (hZ : 0 ≤ size.toInt) (hN : 1 ≤ n_.toInt) (hN4 : n_.toInt ≤ 4) : xc_Met l y_BU_append (.code y_BU_append b_BU_append 4 none) ({ frames := 0, cells := 0, slots := 0, locals := 0 } : Room) (xg_Pc G [.ref bu, .int word, .int n_] H) (xw_post G (va_A [(bu, .inr (0, [.ref bys, .int size])), (bys, .inl (G.2.2.1, 24, .inl bytes))] H.size) none [(bu, .inr (0, [.ref bys, .int (f_BU_append_size word n_ size bytes)])), (bys, .inl (G.2.2.1, 24, .inl (f_BU_append_BY word n_ size bytes)))]) (va_A [(bu, .inr (0, [.ref bys, .int size])), (bys, .inl (G.2.2.1, 24, .inl bytes))] H.size) := by
  refine xc_ofW (by decide) ?_
  intro p e s m args below meth c s₁ B hml hE hv
  obtain ⟨rfl, rfl, hw⟩ := hv
  have hx := B.exec
  have hb := B.bytes
  have ht := B.returns
  have hl0 := B.notSynchronized
  have S : xc_Fix p m c b_BU_append 4 s "SealTrust$Buffer" := ⟨hx, hb, hml, findClass_of_methodNamed B.named⟩
  have hD := hD0.self (sz := s.heap.size)
  generalize hAe : va_A [(bu, .inr (0, [.ref bys, .int size])), (bys, .inl (G.2.2.1, 24, .inl bytes))] s.heap.size = A at hD ⊢
  have hA : ∀ q : Nat, s.heap.size ≤ q → A q := fun q h => by rw [← hAe]; exact Or.inr h
  have hS : va_S A s.heap s.heap [] := va_S.rf
  have hl := lv_entry ([.ref bu, .int word, .int n_]) (n := 4) (Nat.le_of_ble_eq_true rfl)
  rw [lg_entry_eq]
  generalize (lg_sl ([.ref bu, .int word, .int n_]) ++ List.replicate (4 - (lg_sl ([.ref bu, .int word, .int n_])).length) Slot.unset).toArray = ls at hl ⊢
  have hl : lv_has ls 4 [(0, .ref bu), (1, .int word), (2, .int n_)] := hl
  obtain ⟨r0, hr0⟩ : ∃ r, f_BU_append_size word n_ size bytes = r := ⟨_, rfl⟩
  rw [hr0]
  unfold f_BU_append_size at hr0
  obtain ⟨r1, hr1⟩ : ∃ r, f_BU_append_BY word n_ size bytes = r := ⟨_, rfl⟩
  rw [hr1]
  unfold f_BU_append_BY at hr1
  refine lv_iload_n hx hb d_BU_append_0 rfl (lv_at hl 2 rfl) ?_
  refine lv_iconst (v := (1 : Int32)) hx hb d_BU_append_1 (by decide) ?_
  refine lv_isub hx hb d_BU_append_2 ?_
  refine lv_istore_n hx hb d_BU_append_3 rfl hl (by decide) rfl (fun ls hl => ?_)
  have hl : lv_has ls 4 [(3, .int (n_ - (1 : Int32))), (0, .ref bu), (1, .int word), (2, .int n_)] := hl
  exact wl_BU_append_4 hg hw S hl0 ht hA  6 (n_ - (1 : Int32)) size bytes r0 r1 ls s.heap [] hr0 hr1 (xs_start hN hN4 hZ) (lv_sub hl [0, 1, 2, 3] rfl) hP hD hS
end
section
section XCF
variable {l : Launch} {y : MethodName} {rm : Room} {Pc : Array Value → State → Prop} {post : xc_R → Heap → Prop} {A : Nat → Prop} {cc : ByteArray} {maxL : Nat} {ret : Option FieldType}
/-- .. of a member that the machine has no entry for -/
theorem xc_ofWF (hy : plainFor y = true)
    (body : ∀ p e s m args below meth c s₁, BodyLoose p l y (headSpec [Cond.code y cc maxL ret] rm) cc maxL ret e s m args below meth c s₁ → c.maxLocals = maxL → c.exceptionTable.isEmpty = true → Pc args s →
      W p l e rm s m args below meth c s.heap [] 0 0 (xc_Z below post A args s rm.cells rm.slots) (entryFrame m args maxL)) : xc_Met l y (.code y cc maxL ret) rm Pc post A := by
  refine MetFree.of_bodySF (code := cc) (maxLocals := maxL) (ret := ret) hy ?_ ?_
  · intro args s m h hn
    obtain ⟨meth, c, h1, h2, h3, h4, h5, h6, -, -⟩ := Cond.code_spec hn (atoms_spec (ws := [Cond.code y cc maxL ret]) h _ List.mem_cons_self)
    exact ⟨meth, c, h1, h2, h3, h4, h5, h6⟩
  · intro p e s m args below meth c s₁ B hml hP _
    have hh0 : s₁.heap = s.heap := by rw [B.state]; rfl
    have hE := B.noHandlers (atoms_spec (ws := [Cond.code y cc maxL ret]) B.pre _ List.mem_cons_self)
    obtain ⟨t, a1, o, b1, b2, b3⟩ := body p e s m args below meth c s₁ B hml hE hP s₁ hh0 (Stand.of_body B)
    exact ⟨t, o, a1, b1, b2, b3⟩
end XCF
/-! Integer.bitCount: name, decode rows, sites -/
abbrev b_IN_bitCount : ByteArray := prog_11_method_49_code
def y_IN_bitCount : MethodName := ⟨"java/lang/Integer", "bitCount", "(I)I"⟩
theorem d_IN_bitCount_0 : decode b_IN_bitCount 0 = .ok (.iload_n 0, 1) := by decide +kernel
theorem d_IN_bitCount_1 : decode b_IN_bitCount 1 = .ok (.iload_n 0, 1) := by decide +kernel
theorem d_IN_bitCount_2 : decode b_IN_bitCount 2 = .ok (.iconst 1, 1) := by decide +kernel
theorem d_IN_bitCount_3 : decode b_IN_bitCount 3 = .ok (.iushr, 1) := by decide +kernel
theorem d_IN_bitCount_4 : decode b_IN_bitCount 4 = .ok (.ldc_w 265, 3) := by decide +kernel
theorem d_IN_bitCount_7 : decode b_IN_bitCount 7 = .ok (.iand, 1) := by decide +kernel
theorem d_IN_bitCount_8 : decode b_IN_bitCount 8 = .ok (.isub, 1) := by decide +kernel
theorem d_IN_bitCount_9 : decode b_IN_bitCount 9 = .ok (.istore_n 0, 1) := by decide +kernel
theorem d_IN_bitCount_10 : decode b_IN_bitCount 10 = .ok (.iload_n 0, 1) := by decide +kernel
theorem d_IN_bitCount_11 : decode b_IN_bitCount 11 = .ok (.ldc_w 266, 3) := by decide +kernel
theorem d_IN_bitCount_14 : decode b_IN_bitCount 14 = .ok (.iand, 1) := by decide +kernel
theorem d_IN_bitCount_15 : decode b_IN_bitCount 15 = .ok (.iload_n 0, 1) := by decide +kernel
theorem d_IN_bitCount_16 : decode b_IN_bitCount 16 = .ok (.iconst 2, 1) := by decide +kernel
theorem d_IN_bitCount_17 : decode b_IN_bitCount 17 = .ok (.iushr, 1) := by decide +kernel
theorem d_IN_bitCount_18 : decode b_IN_bitCount 18 = .ok (.ldc_w 266, 3) := by decide +kernel
theorem d_IN_bitCount_21 : decode b_IN_bitCount 21 = .ok (.iand, 1) := by decide +kernel
theorem d_IN_bitCount_22 : decode b_IN_bitCount 22 = .ok (.iadd, 1) := by decide +kernel
theorem d_IN_bitCount_23 : decode b_IN_bitCount 23 = .ok (.istore_n 0, 1) := by decide +kernel
theorem d_IN_bitCount_24 : decode b_IN_bitCount 24 = .ok (.iload_n 0, 1) := by decide +kernel
theorem d_IN_bitCount_25 : decode b_IN_bitCount 25 = .ok (.iload_n 0, 1) := by decide +kernel
theorem d_IN_bitCount_26 : decode b_IN_bitCount 26 = .ok (.iconst 4, 1) := by decide +kernel
theorem d_IN_bitCount_27 : decode b_IN_bitCount 27 = .ok (.iushr, 1) := by decide +kernel
theorem d_IN_bitCount_28 : decode b_IN_bitCount 28 = .ok (.iadd, 1) := by decide +kernel
theorem d_IN_bitCount_29 : decode b_IN_bitCount 29 = .ok (.ldc_w 267, 3) := by decide +kernel
theorem d_IN_bitCount_32 : decode b_IN_bitCount 32 = .ok (.iand, 1) := by decide +kernel
theorem d_IN_bitCount_33 : decode b_IN_bitCount 33 = .ok (.istore_n 0, 1) := by decide +kernel
theorem d_IN_bitCount_34 : decode b_IN_bitCount 34 = .ok (.iload_n 0, 1) := by decide +kernel
theorem d_IN_bitCount_35 : decode b_IN_bitCount 35 = .ok (.iload_n 0, 1) := by decide +kernel
theorem d_IN_bitCount_36 : decode b_IN_bitCount 36 = .ok (.bipush 8, 2) := by decide +kernel
theorem d_IN_bitCount_38 : decode b_IN_bitCount 38 = .ok (.iushr, 1) := by decide +kernel
theorem d_IN_bitCount_39 : decode b_IN_bitCount 39 = .ok (.iadd, 1) := by decide +kernel
theorem d_IN_bitCount_40 : decode b_IN_bitCount 40 = .ok (.istore_n 0, 1) := by decide +kernel
theorem d_IN_bitCount_41 : decode b_IN_bitCount 41 = .ok (.iload_n 0, 1) := by decide +kernel
theorem d_IN_bitCount_42 : decode b_IN_bitCount 42 = .ok (.iload_n 0, 1) := by decide +kernel
theorem d_IN_bitCount_43 : decode b_IN_bitCount 43 = .ok (.bipush 16, 2) := by decide +kernel
theorem d_IN_bitCount_45 : decode b_IN_bitCount 45 = .ok (.iushr, 1) := by decide +kernel
theorem d_IN_bitCount_46 : decode b_IN_bitCount 46 = .ok (.iadd, 1) := by decide +kernel
theorem d_IN_bitCount_47 : decode b_IN_bitCount 47 = .ok (.istore_n 0, 1) := by decide +kernel
theorem d_IN_bitCount_48 : decode b_IN_bitCount 48 = .ok (.iload_n 0, 1) := by decide +kernel
theorem d_IN_bitCount_49 : decode b_IN_bitCount 49 = .ok (.bipush 63, 2) := by decide +kernel
theorem d_IN_bitCount_51 : decode b_IN_bitCount 51 = .ok (.iand, 1) := by decide +kernel
theorem d_IN_bitCount_52 : decode b_IN_bitCount 52 = .ok (.ireturn, 1) := by decide +kernel
section XSJ
theorem wi_1 : (Cond.constant "java/lang/Integer" 265 1431655765) ∈ lw_tbl := List.mem_append_right _ (List.mem_append_right _ (List.mem_append_left _ (List.mem_of_getElem? (i := 172) rfl)))
theorem wi_2 : (Cond.constant "java/lang/Integer" 266 858993459) ∈ lw_tbl := List.mem_append_right _ (List.mem_append_right _ (List.mem_append_left _ (List.mem_of_getElem? (i := 173) rfl)))
theorem wi_3 : (Cond.constant "java/lang/Integer" 267 252645135) ∈ lw_tbl := List.mem_append_right _ (List.mem_append_right _ (List.mem_append_left _ (List.mem_of_getElem? (i := 174) rfl)))
theorem wi_4 : (Cond.static y_IN_bitCount) ∈ lw_tbl := List.mem_append_right _ (List.mem_append_right _ (List.mem_append_left _ (List.mem_of_getElem? (i := 170) rfl)))
theorem wi_5 : (Cond.initialized "java/lang/Integer") ∈ lw_tbl := List.mem_append_right _ (List.mem_append_left _ (List.mem_of_getElem? (i := 12) rfl))
theorem wi_6 : (Cond.code y_IN_bitCount prog_11_method_49_code 1 (some .int)) ∈ lw_tbl := List.mem_append_right _ (List.mem_append_right _ (List.mem_append_left _ (List.mem_of_getElem? (i := 171) rfl)))
theorem wi_7 : (Cond.methodLink "SealTrust" 172 y_IN_bitCount) ∈ lw_tbl := List.mem_append_right _ (List.mem_append_right _ (List.mem_append_right _ (List.mem_append_left _ (List.mem_of_getElem? (i := 6) rfl))))
theorem wi_8 : (Cond.methodLink "SealTrust$Motion" 39 y_IN_bitCount) ∈ lw_tbl := List.mem_append_right _ (List.mem_append_right _ (List.mem_append_left _ (List.mem_of_getElem? (i := 169) rfl)))
variable {p : Program} {l : Launch} {e : Env} {R : Room} {s : State} {m : MethodId} {args : Array Value} {below : List Frame} {meth : Method} {c : Code} {H H0 : Heap} {locs : List Loc} {cells slots : Nat} {Q : State → Prop} {G : xg_G} {cc : ByteArray} {nL pc : Nat} {ls : Array Slot} {rest : List Value} {ws : va_W} {A : Nat → Prop} {a : Nat} {fs : List Value} {v : Value}
theorem kc_IN_265 (hg : xg_F G) (hw : G.1.WarmedH s.vm) (S : xc_Fix p m c cc nL s "java/lang/Integer") (hdg : decode cc pc = .ok (.ldc_w 265, 3)) (k : W p l e R s m args below meth c H locs cells slots Q (F0 m (pc + 3) ls (.int 1431655765 :: rest))) : W p l e R s m args below meth c H locs cells slots Q (F0 m pc ls rest) :=
  lv_ldcw S.1 S.2.1 S.2.2.2 (xg_w hg hw wi_1 rfl args) hdg k
theorem kc_IN_266 (hg : xg_F G) (hw : G.1.WarmedH s.vm) (S : xc_Fix p m c cc nL s "java/lang/Integer") (hdg : decode cc pc = .ok (.ldc_w 266, 3)) (k : W p l e R s m args below meth c H locs cells slots Q (F0 m (pc + 3) ls (.int 858993459 :: rest))) : W p l e R s m args below meth c H locs cells slots Q (F0 m pc ls rest) :=
  lv_ldcw S.1 S.2.1 S.2.2.2 (xg_w hg hw wi_2 rfl args) hdg k
theorem kc_IN_267 (hg : xg_F G) (hw : G.1.WarmedH s.vm) (S : xc_Fix p m c cc nL s "java/lang/Integer") (hdg : decode cc pc = .ok (.ldc_w 267, 3)) (k : W p l e R s m args below meth c H locs cells slots Q (F0 m (pc + 3) ls (.int 252645135 :: rest))) : W p l e R s m args below meth c H locs cells slots Q (F0 m pc ls rest) :=
  lv_ldcw S.1 S.2.1 S.2.2.2 (xg_w hg hw wi_3 rfl args) hdg k
theorem si_ST_172 : xg_siteS "SealTrust" 172 y_IN_bitCount b_IN_bitCount 1 (some .int) 1 := ⟨wi_7, wi_4, wi_5, wi_6, ⟨by decide +kernel, by decide +kernel⟩, by decide +kernel⟩
theorem si_MO_39 : xg_siteS "SealTrust$Motion" 39 y_IN_bitCount b_IN_bitCount 1 (some .int) 1 := ⟨wi_8, wi_4, wi_5, wi_6, ⟨by decide +kernel, by decide +kernel⟩, by decide +kernel⟩
end XSJ
def f_IN_bitCount (i : Int32) : Int32 := (((((((i - (((i.toUInt32 >>> ((1 : Int32).toUInt32 &&& Int32.toUInt32 31)).toInt32) &&& (1431655765 : Int32))) &&& (858993459 : Int32)) + ((((i - (((i.toUInt32 >>> ((1 : Int32).toUInt32 &&& Int32.toUInt32 31)).toInt32) &&& (1431655765 : Int32))).toUInt32 >>> ((2 : Int32).toUInt32 &&& Int32.toUInt32 31)).toInt32) &&& (858993459 : Int32))) + (((((i - (((i.toUInt32 >>> ((1 : Int32).toUInt32 &&& Int32.toUInt32 31)).toInt32) &&& (1431655765 : Int32))) &&& (858993459 : Int32)) + ((((i - (((i.toUInt32 >>> ((1 : Int32).toUInt32 &&& Int32.toUInt32 31)).toInt32) &&& (1431655765 : Int32))).toUInt32 >>> ((2 : Int32).toUInt32 &&& Int32.toUInt32 31)).toInt32) &&& (858993459 : Int32))).toUInt32 >>> ((4 : Int32).toUInt32 &&& Int32.toUInt32 31)).toInt32)) &&& (252645135 : Int32)) + (((((((i - (((i.toUInt32 >>> ((1 : Int32).toUInt32 &&& Int32.toUInt32 31)).toInt32) &&& (1431655765 : Int32))) &&& (858993459 : Int32)) + ((((i - (((i.toUInt32 >>> ((1 : Int32).toUInt32 &&& Int32.toUInt32 31)).toInt32) &&& (1431655765 : Int32))).toUInt32 >>> ((2 : Int32).toUInt32 &&& Int32.toUInt32 31)).toInt32) &&& (858993459 : Int32))) + (((((i - (((i.toUInt32 >>> ((1 : Int32).toUInt32 &&& Int32.toUInt32 31)).toInt32) &&& (1431655765 : Int32))) &&& (858993459 : Int32)) + ((((i - (((i.toUInt32 >>> ((1 : Int32).toUInt32 &&& Int32.toUInt32 31)).toInt32) &&& (1431655765 : Int32))).toUInt32 >>> ((2 : Int32).toUInt32 &&& Int32.toUInt32 31)).toInt32) &&& (858993459 : Int32))).toUInt32 >>> ((4 : Int32).toUInt32 &&& Int32.toUInt32 31)).toInt32)) &&& (252645135 : Int32)).toUInt32 >>> ((8 : Int32).toUInt32 &&& Int32.toUInt32 31)).toInt32)) + ((((((((i - (((i.toUInt32 >>> ((1 : Int32).toUInt32 &&& Int32.toUInt32 31)).toInt32) &&& (1431655765 : Int32))) &&& (858993459 : Int32)) + ((((i - (((i.toUInt32 >>> ((1 : Int32).toUInt32 &&& Int32.toUInt32 31)).toInt32) &&& (1431655765 : Int32))).toUInt32 >>> ((2 : Int32).toUInt32 &&& Int32.toUInt32 31)).toInt32) &&& (858993459 : Int32))) + (((((i - (((i.toUInt32 >>> ((1 : Int32).toUInt32 &&& Int32.toUInt32 31)).toInt32) &&& (1431655765 : Int32))) &&& (858993459 : Int32)) + ((((i - (((i.toUInt32 >>> ((1 : Int32).toUInt32 &&& Int32.toUInt32 31)).toInt32) &&& (1431655765 : Int32))).toUInt32 >>> ((2 : Int32).toUInt32 &&& Int32.toUInt32 31)).toInt32) &&& (858993459 : Int32))).toUInt32 >>> ((4 : Int32).toUInt32 &&& Int32.toUInt32 31)).toInt32)) &&& (252645135 : Int32)) + (((((((i - (((i.toUInt32 >>> ((1 : Int32).toUInt32 &&& Int32.toUInt32 31)).toInt32) &&& (1431655765 : Int32))) &&& (858993459 : Int32)) + ((((i - (((i.toUInt32 >>> ((1 : Int32).toUInt32 &&& Int32.toUInt32 31)).toInt32) &&& (1431655765 : Int32))).toUInt32 >>> ((2 : Int32).toUInt32 &&& Int32.toUInt32 31)).toInt32) &&& (858993459 : Int32))) + (((((i - (((i.toUInt32 >>> ((1 : Int32).toUInt32 &&& Int32.toUInt32 31)).toInt32) &&& (1431655765 : Int32))) &&& (858993459 : Int32)) + ((((i - (((i.toUInt32 >>> ((1 : Int32).toUInt32 &&& Int32.toUInt32 31)).toInt32) &&& (1431655765 : Int32))).toUInt32 >>> ((2 : Int32).toUInt32 &&& Int32.toUInt32 31)).toInt32) &&& (858993459 : Int32))).toUInt32 >>> ((4 : Int32).toUInt32 &&& Int32.toUInt32 31)).toInt32)) &&& (252645135 : Int32)).toUInt32 >>> ((8 : Int32).toUInt32 &&& Int32.toUInt32 31)).toInt32)).toUInt32 >>> ((16 : Int32).toUInt32 &&& Int32.toUInt32 31)).toInt32)) &&& (63 : Int32)
set_option maxHeartbeats 4000000 in
set_option maxRecDepth 100000 in
theorem ct_IN_bitCount (l : Launch) {G : xg_G} (hg : xg_F G) (H : Heap) (i : Int32)  : xc_Met l y_IN_bitCount (.code y_IN_bitCount b_IN_bitCount 1 (some .int)) ({ frames := 0, cells := 0, slots := 0, locals := 0 } : Room) (xg_Pc G [.int i] H) (xc_ro (some (.int (f_IN_bitCount i))) H) (fun _ => False) := by
  refine xc_ofWF (by decide +kernel) ?_
  intro p e s m args below meth c s₁ B hml hE hv
  obtain ⟨rfl, rfl, hw⟩ := hv
  have hx := B.exec
  have hb := B.bytes
  have ht := B.returns
  have hl0 := B.notSynchronized
  have S : xc_Fix p m c b_IN_bitCount 1 s "java/lang/Integer" := ⟨hx, hb, hml, findClass_of_methodNamed B.named⟩
  have hl := lv_entry ([.int i]) (n := 1) (Nat.le_of_ble_eq_true rfl)
  rw [lg_entry_eq]
  generalize (lg_sl ([.int i]) ++ List.replicate (1 - (lg_sl ([.int i])).length) Slot.unset).toArray = ls at hl ⊢
  have hl : lv_has ls 1 [(0, .int i)] := hl
  obtain ⟨r, hr⟩ : ∃ r, f_IN_bitCount i = r := ⟨_, rfl⟩
  rw [hr]
  unfold f_IN_bitCount at hr
  refine lv_iload_n hx hb d_IN_bitCount_0 rfl (lv_at hl 0 rfl) ?_
  refine lv_iload_n hx hb d_IN_bitCount_1 rfl (lv_at hl 0 rfl) ?_
  refine lv_iconst (v := (1 : Int32)) hx hb d_IN_bitCount_2 (by decide) ?_
  refine lv_iushr hx hb d_IN_bitCount_3 rfl ?_
  refine kc_IN_265 hg hw S d_IN_bitCount_4 ?_
  refine lv_iand hx hb d_IN_bitCount_7 ?_
  refine lv_isub hx hb d_IN_bitCount_8 ?_
  refine lv_istore_n hx hb d_IN_bitCount_9 rfl hl (by decide) rfl (fun ls hl => ?_)
  have hl : lv_has ls 1 [(0, .int (i - (((i.toUInt32 >>> ((1 : Int32).toUInt32 &&& Int32.toUInt32 31)).toInt32) &&& (1431655765 : Int32))))] := hl
  refine lv_iload_n hx hb d_IN_bitCount_10 rfl (lv_at hl 0 rfl) ?_
  refine kc_IN_266 hg hw S d_IN_bitCount_11 ?_
  refine lv_iand hx hb d_IN_bitCount_14 ?_
  refine lv_iload_n hx hb d_IN_bitCount_15 rfl (lv_at hl 0 rfl) ?_
  refine lv_iconst (v := (2 : Int32)) hx hb d_IN_bitCount_16 (by decide) ?_
  refine lv_iushr hx hb d_IN_bitCount_17 rfl ?_
  refine kc_IN_266 hg hw S d_IN_bitCount_18 ?_
  refine lv_iand hx hb d_IN_bitCount_21 ?_
  refine lv_iadd hx hb d_IN_bitCount_22 ?_
  refine lv_istore_n hx hb d_IN_bitCount_23 rfl hl (by decide) rfl (fun ls hl => ?_)
  have hl : lv_has ls 1 [(0, .int (((i - (((i.toUInt32 >>> ((1 : Int32).toUInt32 &&& Int32.toUInt32 31)).toInt32) &&& (1431655765 : Int32))) &&& (858993459 : Int32)) + ((((i - (((i.toUInt32 >>> ((1 : Int32).toUInt32 &&& Int32.toUInt32 31)).toInt32) &&& (1431655765 : Int32))).toUInt32 >>> ((2 : Int32).toUInt32 &&& Int32.toUInt32 31)).toInt32) &&& (858993459 : Int32))))] := hl
  refine lv_iload_n hx hb d_IN_bitCount_24 rfl (lv_at hl 0 rfl) ?_
  refine lv_iload_n hx hb d_IN_bitCount_25 rfl (lv_at hl 0 rfl) ?_
  refine lv_iconst (v := (4 : Int32)) hx hb d_IN_bitCount_26 (by decide) ?_
  refine lv_iushr hx hb d_IN_bitCount_27 rfl ?_
  refine lv_iadd hx hb d_IN_bitCount_28 ?_
  refine kc_IN_267 hg hw S d_IN_bitCount_29 ?_
  refine lv_iand hx hb d_IN_bitCount_32 ?_
  refine lv_istore_n hx hb d_IN_bitCount_33 rfl hl (by decide) rfl (fun ls hl => ?_)
  have hl : lv_has ls 1 [(0, .int (((((i - (((i.toUInt32 >>> ((1 : Int32).toUInt32 &&& Int32.toUInt32 31)).toInt32) &&& (1431655765 : Int32))) &&& (858993459 : Int32)) + ((((i - (((i.toUInt32 >>> ((1 : Int32).toUInt32 &&& Int32.toUInt32 31)).toInt32) &&& (1431655765 : Int32))).toUInt32 >>> ((2 : Int32).toUInt32 &&& Int32.toUInt32 31)).toInt32) &&& (858993459 : Int32))) + (((((i - (((i.toUInt32 >>> ((1 : Int32).toUInt32 &&& Int32.toUInt32 31)).toInt32) &&& (1431655765 : Int32))) &&& (858993459 : Int32)) + ((((i - (((i.toUInt32 >>> ((1 : Int32).toUInt32 &&& Int32.toUInt32 31)).toInt32) &&& (1431655765 : Int32))).toUInt32 >>> ((2 : Int32).toUInt32 &&& Int32.toUInt32 31)).toInt32) &&& (858993459 : Int32))).toUInt32 >>> ((4 : Int32).toUInt32 &&& Int32.toUInt32 31)).toInt32)) &&& (252645135 : Int32)))] := hl
  refine lv_iload_n hx hb d_IN_bitCount_34 rfl (lv_at hl 0 rfl) ?_
  refine lv_iload_n hx hb d_IN_bitCount_35 rfl (lv_at hl 0 rfl) ?_
  refine lv_bipush (v := (8 : Int32)) hx hb d_IN_bitCount_36 (by decide) ?_
  refine lv_iushr hx hb d_IN_bitCount_38 rfl ?_
  refine lv_iadd hx hb d_IN_bitCount_39 ?_
  refine lv_istore_n hx hb d_IN_bitCount_40 rfl hl (by decide) rfl (fun ls hl => ?_)
  have hl : lv_has ls 1 [(0, .int ((((((i - (((i.toUInt32 >>> ((1 : Int32).toUInt32 &&& Int32.toUInt32 31)).toInt32) &&& (1431655765 : Int32))) &&& (858993459 : Int32)) + ((((i - (((i.toUInt32 >>> ((1 : Int32).toUInt32 &&& Int32.toUInt32 31)).toInt32) &&& (1431655765 : Int32))).toUInt32 >>> ((2 : Int32).toUInt32 &&& Int32.toUInt32 31)).toInt32) &&& (858993459 : Int32))) + (((((i - (((i.toUInt32 >>> ((1 : Int32).toUInt32 &&& Int32.toUInt32 31)).toInt32) &&& (1431655765 : Int32))) &&& (858993459 : Int32)) + ((((i - (((i.toUInt32 >>> ((1 : Int32).toUInt32 &&& Int32.toUInt32 31)).toInt32) &&& (1431655765 : Int32))).toUInt32 >>> ((2 : Int32).toUInt32 &&& Int32.toUInt32 31)).toInt32) &&& (858993459 : Int32))).toUInt32 >>> ((4 : Int32).toUInt32 &&& Int32.toUInt32 31)).toInt32)) &&& (252645135 : Int32)) + (((((((i - (((i.toUInt32 >>> ((1 : Int32).toUInt32 &&& Int32.toUInt32 31)).toInt32) &&& (1431655765 : Int32))) &&& (858993459 : Int32)) + ((((i - (((i.toUInt32 >>> ((1 : Int32).toUInt32 &&& Int32.toUInt32 31)).toInt32) &&& (1431655765 : Int32))).toUInt32 >>> ((2 : Int32).toUInt32 &&& Int32.toUInt32 31)).toInt32) &&& (858993459 : Int32))) + (((((i - (((i.toUInt32 >>> ((1 : Int32).toUInt32 &&& Int32.toUInt32 31)).toInt32) &&& (1431655765 : Int32))) &&& (858993459 : Int32)) + ((((i - (((i.toUInt32 >>> ((1 : Int32).toUInt32 &&& Int32.toUInt32 31)).toInt32) &&& (1431655765 : Int32))).toUInt32 >>> ((2 : Int32).toUInt32 &&& Int32.toUInt32 31)).toInt32) &&& (858993459 : Int32))).toUInt32 >>> ((4 : Int32).toUInt32 &&& Int32.toUInt32 31)).toInt32)) &&& (252645135 : Int32)).toUInt32 >>> ((8 : Int32).toUInt32 &&& Int32.toUInt32 31)).toInt32)))] := hl
  refine lv_iload_n hx hb d_IN_bitCount_41 rfl (lv_at hl 0 rfl) ?_
  refine lv_iload_n hx hb d_IN_bitCount_42 rfl (lv_at hl 0 rfl) ?_
  refine lv_bipush (v := (16 : Int32)) hx hb d_IN_bitCount_43 (by decide) ?_
  refine lv_iushr hx hb d_IN_bitCount_45 rfl ?_
  refine lv_iadd hx hb d_IN_bitCount_46 ?_
  refine lv_istore_n hx hb d_IN_bitCount_47 rfl hl (by decide) rfl (fun ls hl => ?_)
  have hl : lv_has ls 1 [(0, .int (((((((i - (((i.toUInt32 >>> ((1 : Int32).toUInt32 &&& Int32.toUInt32 31)).toInt32) &&& (1431655765 : Int32))) &&& (858993459 : Int32)) + ((((i - (((i.toUInt32 >>> ((1 : Int32).toUInt32 &&& Int32.toUInt32 31)).toInt32) &&& (1431655765 : Int32))).toUInt32 >>> ((2 : Int32).toUInt32 &&& Int32.toUInt32 31)).toInt32) &&& (858993459 : Int32))) + (((((i - (((i.toUInt32 >>> ((1 : Int32).toUInt32 &&& Int32.toUInt32 31)).toInt32) &&& (1431655765 : Int32))) &&& (858993459 : Int32)) + ((((i - (((i.toUInt32 >>> ((1 : Int32).toUInt32 &&& Int32.toUInt32 31)).toInt32) &&& (1431655765 : Int32))).toUInt32 >>> ((2 : Int32).toUInt32 &&& Int32.toUInt32 31)).toInt32) &&& (858993459 : Int32))).toUInt32 >>> ((4 : Int32).toUInt32 &&& Int32.toUInt32 31)).toInt32)) &&& (252645135 : Int32)) + (((((((i - (((i.toUInt32 >>> ((1 : Int32).toUInt32 &&& Int32.toUInt32 31)).toInt32) &&& (1431655765 : Int32))) &&& (858993459 : Int32)) + ((((i - (((i.toUInt32 >>> ((1 : Int32).toUInt32 &&& Int32.toUInt32 31)).toInt32) &&& (1431655765 : Int32))).toUInt32 >>> ((2 : Int32).toUInt32 &&& Int32.toUInt32 31)).toInt32) &&& (858993459 : Int32))) + (((((i - (((i.toUInt32 >>> ((1 : Int32).toUInt32 &&& Int32.toUInt32 31)).toInt32) &&& (1431655765 : Int32))) &&& (858993459 : Int32)) + ((((i - (((i.toUInt32 >>> ((1 : Int32).toUInt32 &&& Int32.toUInt32 31)).toInt32) &&& (1431655765 : Int32))).toUInt32 >>> ((2 : Int32).toUInt32 &&& Int32.toUInt32 31)).toInt32) &&& (858993459 : Int32))).toUInt32 >>> ((4 : Int32).toUInt32 &&& Int32.toUInt32 31)).toInt32)) &&& (252645135 : Int32)).toUInt32 >>> ((8 : Int32).toUInt32 &&& Int32.toUInt32 31)).toInt32)) + ((((((((i - (((i.toUInt32 >>> ((1 : Int32).toUInt32 &&& Int32.toUInt32 31)).toInt32) &&& (1431655765 : Int32))) &&& (858993459 : Int32)) + ((((i - (((i.toUInt32 >>> ((1 : Int32).toUInt32 &&& Int32.toUInt32 31)).toInt32) &&& (1431655765 : Int32))).toUInt32 >>> ((2 : Int32).toUInt32 &&& Int32.toUInt32 31)).toInt32) &&& (858993459 : Int32))) + (((((i - (((i.toUInt32 >>> ((1 : Int32).toUInt32 &&& Int32.toUInt32 31)).toInt32) &&& (1431655765 : Int32))) &&& (858993459 : Int32)) + ((((i - (((i.toUInt32 >>> ((1 : Int32).toUInt32 &&& Int32.toUInt32 31)).toInt32) &&& (1431655765 : Int32))).toUInt32 >>> ((2 : Int32).toUInt32 &&& Int32.toUInt32 31)).toInt32) &&& (858993459 : Int32))).toUInt32 >>> ((4 : Int32).toUInt32 &&& Int32.toUInt32 31)).toInt32)) &&& (252645135 : Int32)) + (((((((i - (((i.toUInt32 >>> ((1 : Int32).toUInt32 &&& Int32.toUInt32 31)).toInt32) &&& (1431655765 : Int32))) &&& (858993459 : Int32)) + ((((i - (((i.toUInt32 >>> ((1 : Int32).toUInt32 &&& Int32.toUInt32 31)).toInt32) &&& (1431655765 : Int32))).toUInt32 >>> ((2 : Int32).toUInt32 &&& Int32.toUInt32 31)).toInt32) &&& (858993459 : Int32))) + (((((i - (((i.toUInt32 >>> ((1 : Int32).toUInt32 &&& Int32.toUInt32 31)).toInt32) &&& (1431655765 : Int32))) &&& (858993459 : Int32)) + ((((i - (((i.toUInt32 >>> ((1 : Int32).toUInt32 &&& Int32.toUInt32 31)).toInt32) &&& (1431655765 : Int32))).toUInt32 >>> ((2 : Int32).toUInt32 &&& Int32.toUInt32 31)).toInt32) &&& (858993459 : Int32))).toUInt32 >>> ((4 : Int32).toUInt32 &&& Int32.toUInt32 31)).toInt32)) &&& (252645135 : Int32)).toUInt32 >>> ((8 : Int32).toUInt32 &&& Int32.toUInt32 31)).toInt32)).toUInt32 >>> ((16 : Int32).toUInt32 &&& Int32.toUInt32 31)).toInt32)))] := hl
  refine lv_iload_n hx hb d_IN_bitCount_48 rfl (lv_at hl 0 rfl) ?_
  refine lv_bipush (v := (63 : Int32)) hx hb d_IN_bitCount_49 (by decide) ?_
  refine lv_iand hx hb d_IN_bitCount_51 ?_
  exact xg_iret hx hb ht hl0 hr d_IN_bitCount_52
end
section
/-! the key: methods that write; motions: objections; the book -/
def f_MO_takeObjection_objections (trustee : Int32) (objections : Int32) (standing : Int32) : Int32 := if (f_IN_bitCount (objections ||| ((1 : Int32) <<< (trustee &&& 31)))) < (3 : Int32) then (objections ||| ((1 : Int32) <<< (trustee &&& 31))) else (objections ||| ((1 : Int32) <<< (trustee &&& 31)))
def f_MO_takeObjection_standing (trustee : Int32) (objections : Int32) (standing : Int32) : Int32 := if (f_IN_bitCount (objections ||| ((1 : Int32) <<< (trustee &&& 31)))) < (3 : Int32) then standing else (2 : Int32)
set_option maxHeartbeats 4000000 in
set_option maxRecDepth 100000 in
theorem ct_MO_takeObjection (l : Launch) {G : xg_G} (hg : xg_F G) (H : Heap) (mo : Nat) (trustee : Int32) (pw : Nat) (cg : Nat) (an : Nat) (standing : Int32) (block : Int64) (partials : Int32) (objections : Int32) (signature : Int64) (hP : va_P G.2.1 cl_all [(mo, .inr (2, [.ref pw, .ref cg, .ref an, .int standing, .long block, .int partials, .int objections, .long signature]))] H) (hD0 : va_D (fun _ => True) [(mo, .inr (2, [.ref pw, .ref cg, .ref an, .int standing, .long block, .int partials, .int objections, .long signature]))])  : xc_Met l y_MO_takeObjection (.code y_MO_takeObjection b_MO_takeObjection 2 none) ({ frames := 1, cells := 0, slots := 0, locals := 12 } : Room) (xg_Pc G [.ref mo, .int trustee] H) (xw_post G (va_A [(mo, .inr (2, [.ref pw, .ref cg, .ref an, .int standing, .long block, .int partials, .int objections, .long signature]))] H.size) none [(mo, .inr (2, [.ref pw, .ref cg, .ref an, .int (f_MO_takeObjection_standing trustee objections standing), .long block, .int partials, .int (f_MO_takeObjection_objections trustee objections standing), .long signature]))]) (va_A [(mo, .inr (2, [.ref pw, .ref cg, .ref an, .int standing, .long block, .int partials, .int objections, .long signature]))] H.size) := by
  refine xc_ofW (by decide) ?_
  intro p e s m args below meth c s₁ B hml hE hv
  obtain ⟨rfl, rfl, hw⟩ := hv
  have hx := B.exec
  have hb := B.bytes
  have ht := B.returns
  have hl0 := B.notSynchronized
  have S : xc_Fix p m c b_MO_takeObjection 2 s "SealTrust$Motion" := ⟨hx, hb, hml, findClass_of_methodNamed B.named⟩
  have hD := hD0.self (sz := s.heap.size)
  generalize hAe : va_A [(mo, .inr (2, [.ref pw, .ref cg, .ref an, .int standing, .long block, .int partials, .int objections, .long signature]))] s.heap.size = A at hD ⊢
  have hA : ∀ q : Nat, s.heap.size ≤ q → A q := fun q h => by rw [← hAe]; exact Or.inr h
  have hS : va_S A s.heap s.heap [] := va_S.rf
  have hl := lv_entry ([.ref mo, .int trustee]) (n := 2) (Nat.le_of_ble_eq_true rfl)
  rw [lg_entry_eq]
  generalize (lg_sl ([.ref mo, .int trustee]) ++ List.replicate (2 - (lg_sl ([.ref mo, .int trustee])).length) Slot.unset).toArray = ls at hl ⊢
  have hl : lv_has ls 2 [(0, .ref mo), (1, .int trustee)] := hl
  obtain ⟨r0, hr0⟩ : ∃ r, f_MO_takeObjection_objections trustee objections standing = r := ⟨_, rfl⟩
  rw [hr0]
  unfold f_MO_takeObjection_objections at hr0
  obtain ⟨r1, hr1⟩ : ∃ r, f_MO_takeObjection_standing trustee objections standing = r := ⟨_, rfl⟩
  rw [hr1]
  unfold f_MO_takeObjection_standing at hr1
  refine lv_aload_n hx hb d_MO_takeObjection_0 rfl (lv_at hl 0 rfl) ?_
  refine lv_dup hx hb d_MO_takeObjection_1 rfl ?_
  refine gf_MO_33 hg hw S hP 0 rfl rfl d_MO_takeObjection_2 ?_
  refine lv_iconst (v := (1 : Int32)) hx hb d_MO_takeObjection_5 (by decide) ?_
  refine lv_iload_n hx hb d_MO_takeObjection_6 rfl (lv_at hl 1 rfl) ?_
  refine lv_ishl hx hb d_MO_takeObjection_7 ?_
  refine lv_ior hx hb d_MO_takeObjection_8 ?_
  refine pf_MO_33 hg hw S hP hD hS 0 rfl rfl rfl (Nat.le_of_ble_eq_true rfl) d_MO_takeObjection_9 (fun H1 L1 hP hD hS => ?_)
  have hP : va_P G.2.1 cl_all [(mo, .inr (2, [.ref pw, .ref cg, .ref an, .int standing, .long block, .int partials, .int (objections ||| ((1 : Int32) <<< (trustee &&& 31))), .long signature]))] H1 := hP
  have hD : va_D A [(mo, .inr (2, [.ref pw, .ref cg, .ref an, .int standing, .long block, .int partials, .int (objections ||| ((1 : Int32) <<< (trustee &&& 31))), .long signature]))] := hD
  refine lv_aload_n hx hb d_MO_takeObjection_12 rfl (lv_at hl 0 rfl) ?_
  refine gf_MO_33 hg hw S hP 0 rfl rfl d_MO_takeObjection_13 ?_
  refine xg_read (xg_runS (rest := []) (kw := 0) si_MO_39 hg hw S (ct_IN_bitCount l hg H1 (objections ||| ((1 : Int32) <<< (trustee &&& 31))) ) ⟨by decide, by decide, by decide, by decide⟩ rfl hl.1 rfl (Nat.le_of_ble_eq_true rfl) d_MO_takeObjection_16) ?_
  refine lv_iconst (v := (3 : Int32)) hx hb d_MO_takeObjection_19 (by decide) ?_
  refine lv_icmp_lt hx hb d_MO_takeObjection_20 (tgt := 28) (by decide) (fun h20 => ?_) (fun h20 => ?_)
  · rw [if_pos h20] at hr0
    rw [if_pos h20] at hr1
    subst hr0
    subst hr1
    exact xw_vret hx hb ht hl0 hP hD hS d_MO_takeObjection_28
  · rw [if_neg h20] at hr0
    rw [if_neg h20] at hr1
    refine lv_aload_n hx hb d_MO_takeObjection_23 rfl (lv_at hl 0 rfl) ?_
    refine lv_iconst (v := (2 : Int32)) hx hb d_MO_takeObjection_24 (by decide) ?_
    refine pf_MO_22 hg hw S hP hD hS 0 rfl rfl rfl (Nat.le_of_ble_eq_true rfl) d_MO_takeObjection_25 (fun H2 L2 hP hD hS => ?_)
    have hP : va_P G.2.1 cl_all [(mo, .inr (2, [.ref pw, .ref cg, .ref an, .int (2 : Int32), .long block, .int partials, .int (objections ||| ((1 : Int32) <<< (trustee &&& 31))), .long signature]))] H2 := hP
    have hD : va_D A [(mo, .inr (2, [.ref pw, .ref cg, .ref an, .int (2 : Int32), .long block, .int partials, .int (objections ||| ((1 : Int32) <<< (trustee &&& 31))), .long signature]))] := hD
    subst hr0
    subst hr1
    exact xw_vret hx hb ht hl0 hP hD hS d_MO_takeObjection_28
def lf_KE_begin_129_9 (newP : Int64) (newQ : Int64) (root : Int64) (shares : Nat → Int64) : Nat → Int32 → (Nat → Int64) → (Nat → Int64)
  | 0, _, _ => fun _ => 0
  | n + 1, i, shv => if (6 : Int32) ≤ i then shv else (lf_KE_begin_129_9 newP newQ root shares n (i + (1 : Int32)) (vp_updL shv i.toNatClampNeg (f_ST_rest (f_ST_powerModulo (65537 : Int64) (((((newP - (1 : Int64)) / (2 : Int64)) - (1 : Int64)) * (((newQ - (1 : Int64)) / (2 : Int64)) - (1 : Int64))) - (1 : Int64)) ((2 : Int64) * (((newP - (1 : Int64)) / (2 : Int64)) * ((newQ - (1 : Int64)) / (2 : Int64))))) (((newP - (1 : Int64)) / (2 : Int64)) * ((newQ - (1 : Int64)) / (2 : Int64))))))
def f_KE_begin_dealt (newP : Int64) (newQ : Int64) (root : Int64) : Int32 := (1 : Int32)
def f_KE_begin_epoch (newP : Int64) (newQ : Int64) (root : Int64) : Int64 := (0 : Int64)
def f_KE_begin_base (newP : Int64) (newQ : Int64) (root : Int64) : Int64 := f_ST_rest (root * root) (newP * newQ)
def f_KE_begin_whole (newP : Int64) (newQ : Int64) (root : Int64) : Int64 := f_ST_rest (f_ST_powerModulo (65537 : Int64) (((((newP - (1 : Int64)) / (2 : Int64)) - (1 : Int64)) * (((newQ - (1 : Int64)) / (2 : Int64)) - (1 : Int64))) - (1 : Int64)) ((2 : Int64) * (((newP - (1 : Int64)) / (2 : Int64)) * ((newQ - (1 : Int64)) / (2 : Int64))))) (((newP - (1 : Int64)) / (2 : Int64)) * ((newQ - (1 : Int64)) / (2 : Int64)))
def f_KE_begin_signing (newP : Int64) (newQ : Int64) (root : Int64) : Int64 := f_ST_powerModulo (65537 : Int64) (((((newP - (1 : Int64)) / (2 : Int64)) - (1 : Int64)) * (((newQ - (1 : Int64)) / (2 : Int64)) - (1 : Int64))) - (1 : Int64)) ((2 : Int64) * (((newP - (1 : Int64)) / (2 : Int64)) * ((newQ - (1 : Int64)) / (2 : Int64))))
def f_KE_begin_p (newP : Int64) (newQ : Int64) (root : Int64) : Int64 := newP
def f_KE_begin_q (newP : Int64) (newQ : Int64) (root : Int64) : Int64 := newQ
def f_KE_begin_modulus (newP : Int64) (newQ : Int64) (root : Int64) : Int64 := newP * newQ
def f_KE_begin_order (newP : Int64) (newQ : Int64) (root : Int64) : Int64 := ((newP - (1 : Int64)) / (2 : Int64)) * ((newQ - (1 : Int64)) / (2 : Int64))
def f_KE_begin_SH (newP : Int64) (newQ : Int64) (root : Int64) (shares : Nat → Int64) : Nat → Int64 := lf_KE_begin_129_9 newP newQ root shares 7 (0 : Int32) shares
set_option maxHeartbeats 4000000 in
set_option maxRecDepth 100000 in
theorem wl_KE_begin_129 {p : Program} {l : Launch} {e : Env} {s : State} {m : MethodId} {args : Array Value} {below : List Frame} {meth : Method} {c : Code} {G : xg_G} {A : Nat → Prop} {k : Nat} {newP : Int64} {newQ : Int64} {root : Int64} {sh : Nat} {ch : Nat} {dealt : Int32} {epoch : Int64} {base : Int64} {whole : Int64} {signing : Int64} {pp : Int64} {qq : Int64} {modulus : Int64} {order : Int64} {shares : Nat → Int64} (hg : xg_F G) (hw : G.1.WarmedH s.vm) (S : xc_Fix p m c b_KE_begin 12 s "SealTrust$Key") (hl0 : meth.locks = false) (ht : meth.sig.returnType = none) (hA : ∀ q, s.heap.size ≤ q → A q)  : ∀ (n : Nat) (i : Int32) (shv : Nat → Int64) (r9 : Nat → Int64) (ls : Array Slot) (H9 : Heap) (L9 : List Loc), lf_KE_begin_129_9 newP newQ root shares n i shv = r9 → (0 ≤ i.toInt ∧ ((6 : Int32).toInt - i.toInt).toNat < n) → lv_has ls 12 [(11, .int i), (9, .long ((newQ - (1 : Int64)) / (2 : Int64))), (7, .long ((newP - (1 : Int64)) / (2 : Int64))), (0, .ref k), (1, .long newP), (3, .long newQ), (5, .long root)] → va_P G.2.1 cl_all [(k, .inr (1, [.ref sh, .ref ch, .int (1 : Int32), .long (0 : Int64), .long (f_ST_rest (root * root) (newP * newQ)), .long (f_ST_rest (f_ST_powerModulo (65537 : Int64) (((((newP - (1 : Int64)) / (2 : Int64)) - (1 : Int64)) * (((newQ - (1 : Int64)) / (2 : Int64)) - (1 : Int64))) - (1 : Int64)) ((2 : Int64) * (((newP - (1 : Int64)) / (2 : Int64)) * ((newQ - (1 : Int64)) / (2 : Int64))))) (((newP - (1 : Int64)) / (2 : Int64)) * ((newQ - (1 : Int64)) / (2 : Int64)))), .long (f_ST_powerModulo (65537 : Int64) (((((newP - (1 : Int64)) / (2 : Int64)) - (1 : Int64)) * (((newQ - (1 : Int64)) / (2 : Int64)) - (1 : Int64))) - (1 : Int64)) ((2 : Int64) * (((newP - (1 : Int64)) / (2 : Int64)) * ((newQ - (1 : Int64)) / (2 : Int64))))), .long newP, .long newQ, .long (newP * newQ), .long (((newP - (1 : Int64)) / (2 : Int64)) * ((newQ - (1 : Int64)) / (2 : Int64)))])), (sh, .inl (G.2.2.2.1, 6, .inr (.inl shv)))] H9 → va_D A [(k, .inr (1, [.ref sh, .ref ch, .int (1 : Int32), .long (0 : Int64), .long (f_ST_rest (root * root) (newP * newQ)), .long (f_ST_rest (f_ST_powerModulo (65537 : Int64) (((((newP - (1 : Int64)) / (2 : Int64)) - (1 : Int64)) * (((newQ - (1 : Int64)) / (2 : Int64)) - (1 : Int64))) - (1 : Int64)) ((2 : Int64) * (((newP - (1 : Int64)) / (2 : Int64)) * ((newQ - (1 : Int64)) / (2 : Int64))))) (((newP - (1 : Int64)) / (2 : Int64)) * ((newQ - (1 : Int64)) / (2 : Int64)))), .long (f_ST_powerModulo (65537 : Int64) (((((newP - (1 : Int64)) / (2 : Int64)) - (1 : Int64)) * (((newQ - (1 : Int64)) / (2 : Int64)) - (1 : Int64))) - (1 : Int64)) ((2 : Int64) * (((newP - (1 : Int64)) / (2 : Int64)) * ((newQ - (1 : Int64)) / (2 : Int64))))), .long newP, .long newQ, .long (newP * newQ), .long (((newP - (1 : Int64)) / (2 : Int64)) * ((newQ - (1 : Int64)) / (2 : Int64)))])), (sh, .inl (G.2.2.2.1, 6, .inr (.inl shv)))] → va_S A s.heap H9 L9 → W p l e ({ frames := 2, cells := 0, slots := 0, locals := 42 } : Room) s m args below meth c H9 L9 0 0 (xw_Z G below A none [(k, .inr (1, [.ref sh, .ref ch, .int (1 : Int32), .long (0 : Int64), .long (f_ST_rest (root * root) (newP * newQ)), .long (f_ST_rest (f_ST_powerModulo (65537 : Int64) (((((newP - (1 : Int64)) / (2 : Int64)) - (1 : Int64)) * (((newQ - (1 : Int64)) / (2 : Int64)) - (1 : Int64))) - (1 : Int64)) ((2 : Int64) * (((newP - (1 : Int64)) / (2 : Int64)) * ((newQ - (1 : Int64)) / (2 : Int64))))) (((newP - (1 : Int64)) / (2 : Int64)) * ((newQ - (1 : Int64)) / (2 : Int64)))), .long (f_ST_powerModulo (65537 : Int64) (((((newP - (1 : Int64)) / (2 : Int64)) - (1 : Int64)) * (((newQ - (1 : Int64)) / (2 : Int64)) - (1 : Int64))) - (1 : Int64)) ((2 : Int64) * (((newP - (1 : Int64)) / (2 : Int64)) * ((newQ - (1 : Int64)) / (2 : Int64))))), .long newP, .long newQ, .long (newP * newQ), .long (((newP - (1 : Int64)) / (2 : Int64)) * ((newQ - (1 : Int64)) / (2 : Int64)))])), (sh, .inl (G.2.2.2.1, 6, .inr (.inl r9)))] args s 0 0) (F0 m 129 ls []) := by
  have hx := S.1
  have hb := S.2.1
  intro n
  induction n with
  | zero =>
    intro i shv r9 ls H9 L9 hr9 hmu
    omega
  | succ n ih =>
    intro i shv r9 ls H9 L9 hr9 hmu hl hP hD hS
    rw [lf_KE_begin_129_9] at hr9
    refine lv_iload hx hb d_KE_begin_129 (lv_at hl 0 rfl) ?_
    refine lv_bipush (v := (6 : Int32)) hx hb d_KE_begin_131 (by decide) ?_
    refine lv_icmp_ge hx hb d_KE_begin_133 (tgt := 153) (by decide) (fun h133 => ?_) (fun h133 => ?_)
    · rw [if_pos h133] at hr9
      subst hr9
      exact xw_vret hx hb ht hl0 hP hD hS d_KE_begin_153
    · rw [if_neg h133] at hr9
      refine lv_aload_n hx hb d_KE_begin_136 rfl (lv_at hl 3 rfl) ?_
      refine gf_KE_9 hg hw S hP 0 rfl rfl d_KE_begin_137 ?_
      refine lv_iload hx hb d_KE_begin_140 (lv_at hl 0 rfl) ?_
      refine lv_aload_n hx hb d_KE_begin_142 rfl (lv_at hl 3 rfl) ?_
      refine gf_KE_46 hg hw S hP 0 rfl rfl d_KE_begin_143 ?_
      refine va_last hx hb (xg_k hg hw) hP hD hS 1 1 rfl rfl (xi_in h133 hmu.1 (by decide)) d_KE_begin_146 (fun H10 L10 hP hD hS => ?_)
      have hP : va_P G.2.1 cl_all [(k, .inr (1, [.ref sh, .ref ch, .int (1 : Int32), .long (0 : Int64), .long (f_ST_rest (root * root) (newP * newQ)), .long (f_ST_rest (f_ST_powerModulo (65537 : Int64) (((((newP - (1 : Int64)) / (2 : Int64)) - (1 : Int64)) * (((newQ - (1 : Int64)) / (2 : Int64)) - (1 : Int64))) - (1 : Int64)) ((2 : Int64) * (((newP - (1 : Int64)) / (2 : Int64)) * ((newQ - (1 : Int64)) / (2 : Int64))))) (((newP - (1 : Int64)) / (2 : Int64)) * ((newQ - (1 : Int64)) / (2 : Int64)))), .long (f_ST_powerModulo (65537 : Int64) (((((newP - (1 : Int64)) / (2 : Int64)) - (1 : Int64)) * (((newQ - (1 : Int64)) / (2 : Int64)) - (1 : Int64))) - (1 : Int64)) ((2 : Int64) * (((newP - (1 : Int64)) / (2 : Int64)) * ((newQ - (1 : Int64)) / (2 : Int64))))), .long newP, .long newQ, .long (newP * newQ), .long (((newP - (1 : Int64)) / (2 : Int64)) * ((newQ - (1 : Int64)) / (2 : Int64)))])), (sh, .inl (G.2.2.2.1, 6, .inr (.inl (vp_updL shv i.toNatClampNeg (f_ST_rest (f_ST_powerModulo (65537 : Int64) (((((newP - (1 : Int64)) / (2 : Int64)) - (1 : Int64)) * (((newQ - (1 : Int64)) / (2 : Int64)) - (1 : Int64))) - (1 : Int64)) ((2 : Int64) * (((newP - (1 : Int64)) / (2 : Int64)) * ((newQ - (1 : Int64)) / (2 : Int64))))) (((newP - (1 : Int64)) / (2 : Int64)) * ((newQ - (1 : Int64)) / (2 : Int64))))))))] H10 := hP
      have hD : va_D A [(k, .inr (1, [.ref sh, .ref ch, .int (1 : Int32), .long (0 : Int64), .long (f_ST_rest (root * root) (newP * newQ)), .long (f_ST_rest (f_ST_powerModulo (65537 : Int64) (((((newP - (1 : Int64)) / (2 : Int64)) - (1 : Int64)) * (((newQ - (1 : Int64)) / (2 : Int64)) - (1 : Int64))) - (1 : Int64)) ((2 : Int64) * (((newP - (1 : Int64)) / (2 : Int64)) * ((newQ - (1 : Int64)) / (2 : Int64))))) (((newP - (1 : Int64)) / (2 : Int64)) * ((newQ - (1 : Int64)) / (2 : Int64)))), .long (f_ST_powerModulo (65537 : Int64) (((((newP - (1 : Int64)) / (2 : Int64)) - (1 : Int64)) * (((newQ - (1 : Int64)) / (2 : Int64)) - (1 : Int64))) - (1 : Int64)) ((2 : Int64) * (((newP - (1 : Int64)) / (2 : Int64)) * ((newQ - (1 : Int64)) / (2 : Int64))))), .long newP, .long newQ, .long (newP * newQ), .long (((newP - (1 : Int64)) / (2 : Int64)) * ((newQ - (1 : Int64)) / (2 : Int64)))])), (sh, .inl (G.2.2.2.1, 6, .inr (.inl (vp_updL shv i.toNatClampNeg (f_ST_rest (f_ST_powerModulo (65537 : Int64) (((((newP - (1 : Int64)) / (2 : Int64)) - (1 : Int64)) * (((newQ - (1 : Int64)) / (2 : Int64)) - (1 : Int64))) - (1 : Int64)) ((2 : Int64) * (((newP - (1 : Int64)) / (2 : Int64)) * ((newQ - (1 : Int64)) / (2 : Int64))))) (((newP - (1 : Int64)) / (2 : Int64)) * ((newQ - (1 : Int64)) / (2 : Int64))))))))] := hD
      refine lv_iinc (v := i + (1 : Int32)) hx hb d_KE_begin_147 hl (k := 0) rfl rfl (by decide) rfl (fun ls hl => ?_)
      have hl : lv_has ls 12 [(11, .int (i + (1 : Int32))), (9, .long ((newQ - (1 : Int64)) / (2 : Int64))), (7, .long ((newP - (1 : Int64)) / (2 : Int64))), (0, .ref k), (1, .long newP), (3, .long newQ), (5, .long root)] := hl
      refine lv_goto hx hb d_KE_begin_150 (tgt := 129) (by decide) ?_
      exact ih (i + (1 : Int32)) (vp_updL shv i.toNatClampNeg (f_ST_rest (f_ST_powerModulo (65537 : Int64) (((((newP - (1 : Int64)) / (2 : Int64)) - (1 : Int64)) * (((newQ - (1 : Int64)) / (2 : Int64)) - (1 : Int64))) - (1 : Int64)) ((2 : Int64) * (((newP - (1 : Int64)) / (2 : Int64)) * ((newQ - (1 : Int64)) / (2 : Int64))))) (((newP - (1 : Int64)) / (2 : Int64)) * ((newQ - (1 : Int64)) / (2 : Int64))))) r9 ls H10 L10 hr9 (xi_up0 h133 hmu) (lv_sub hl [0, 1, 2, 3, 4, 5, 6] rfl) hP hD hS
set_option maxHeartbeats 4000000 in
set_option maxRecDepth 100000 in
theorem ct_KE_begin (l : Launch) {G : xg_G} (hg : xg_F G) (H : Heap) (k : Nat) (newP : Int64) (newQ : Int64) (root : Int64) (sh : Nat) (ch : Nat) (dealt : Int32) (epoch : Int64) (base : Int64) (whole : Int64) (signing : Int64) (pp : Int64) (qq : Int64) (modulus : Int64) (order : Int64) (shares : Nat → Int64) (hP : va_P G.2.1 cl_all [(k, .inr (1, [.ref sh, .ref ch, .int dealt, .long epoch, .long base, .long whole, .long signing, .long pp, .long qq, .long modulus, .long order])), (sh, .inl (G.2.2.2.1, 6, .inr (.inl shares)))] H) (hD0 : va_D (fun _ => True) [(k, .inr (1, [.ref sh, .ref ch, .int dealt, .long epoch, .long base, .long whole, .long signing, .long pp, .long qq, .long modulus, .long order])), (sh, .inl (G.2.2.2.1, 6, .inr (.inl shares)))])  : xc_Met l y_KE_begin (.code y_KE_begin b_KE_begin 12 none) ({ frames := 2, cells := 0, slots := 0, locals := 42 } : Room) (xg_Pc G [.ref k, .long newP, .long newQ, .long root] H) (xw_post G (va_A [(k, .inr (1, [.ref sh, .ref ch, .int dealt, .long epoch, .long base, .long whole, .long signing, .long pp, .long qq, .long modulus, .long order])), (sh, .inl (G.2.2.2.1, 6, .inr (.inl shares)))] H.size) none [(k, .inr (1, [.ref sh, .ref ch, .int (f_KE_begin_dealt newP newQ root), .long (f_KE_begin_epoch newP newQ root), .long (f_KE_begin_base newP newQ root), .long (f_KE_begin_whole newP newQ root), .long (f_KE_begin_signing newP newQ root), .long (f_KE_begin_p newP newQ root), .long (f_KE_begin_q newP newQ root), .long (f_KE_begin_modulus newP newQ root), .long (f_KE_begin_order newP newQ root)])), (sh, .inl (G.2.2.2.1, 6, .inr (.inl (f_KE_begin_SH newP newQ root shares))))]) (va_A [(k, .inr (1, [.ref sh, .ref ch, .int dealt, .long epoch, .long base, .long whole, .long signing, .long pp, .long qq, .long modulus, .long order])), (sh, .inl (G.2.2.2.1, 6, .inr (.inl shares)))] H.size) := by
  refine xc_ofW (by decide) ?_
  intro p e s m args below meth c s₁ B hml hE hv
  obtain ⟨rfl, rfl, hw⟩ := hv
  have hx := B.exec
  have hb := B.bytes
  have ht := B.returns
  have hl0 := B.notSynchronized
  have S : xc_Fix p m c b_KE_begin 12 s "SealTrust$Key" := ⟨hx, hb, hml, findClass_of_methodNamed B.named⟩
  have hD := hD0.self (sz := s.heap.size)
  generalize hAe : va_A [(k, .inr (1, [.ref sh, .ref ch, .int dealt, .long epoch, .long base, .long whole, .long signing, .long pp, .long qq, .long modulus, .long order])), (sh, .inl (G.2.2.2.1, 6, .inr (.inl shares)))] s.heap.size = A at hD ⊢
  have hA : ∀ q : Nat, s.heap.size ≤ q → A q := fun q h => by rw [← hAe]; exact Or.inr h
  have hS : va_S A s.heap s.heap [] := va_S.rf
  have hl := lv_entry ([.ref k, .long newP, .long newQ, .long root]) (n := 12) (Nat.le_of_ble_eq_true rfl)
  rw [lg_entry_eq]
  generalize (lg_sl ([.ref k, .long newP, .long newQ, .long root]) ++ List.replicate (12 - (lg_sl ([.ref k, .long newP, .long newQ, .long root])).length) Slot.unset).toArray = ls at hl ⊢
  have hl : lv_has ls 12 [(0, .ref k), (1, .long newP), (3, .long newQ), (5, .long root)] := hl
  obtain ⟨r0, hr0⟩ : ∃ r, f_KE_begin_dealt newP newQ root = r := ⟨_, rfl⟩
  rw [hr0]
  unfold f_KE_begin_dealt at hr0
  obtain ⟨r1, hr1⟩ : ∃ r, f_KE_begin_epoch newP newQ root = r := ⟨_, rfl⟩
  rw [hr1]
  unfold f_KE_begin_epoch at hr1
  obtain ⟨r2, hr2⟩ : ∃ r, f_KE_begin_base newP newQ root = r := ⟨_, rfl⟩
  rw [hr2]
  unfold f_KE_begin_base at hr2
  obtain ⟨r3, hr3⟩ : ∃ r, f_KE_begin_whole newP newQ root = r := ⟨_, rfl⟩
  rw [hr3]
  unfold f_KE_begin_whole at hr3
  obtain ⟨r4, hr4⟩ : ∃ r, f_KE_begin_signing newP newQ root = r := ⟨_, rfl⟩
  rw [hr4]
  unfold f_KE_begin_signing at hr4
  obtain ⟨r5, hr5⟩ : ∃ r, f_KE_begin_p newP newQ root = r := ⟨_, rfl⟩
  rw [hr5]
  unfold f_KE_begin_p at hr5
  obtain ⟨r6, hr6⟩ : ∃ r, f_KE_begin_q newP newQ root = r := ⟨_, rfl⟩
  rw [hr6]
  unfold f_KE_begin_q at hr6
  obtain ⟨r7, hr7⟩ : ∃ r, f_KE_begin_modulus newP newQ root = r := ⟨_, rfl⟩
  rw [hr7]
  unfold f_KE_begin_modulus at hr7
  obtain ⟨r8, hr8⟩ : ∃ r, f_KE_begin_order newP newQ root = r := ⟨_, rfl⟩
  rw [hr8]
  unfold f_KE_begin_order at hr8
  obtain ⟨r9, hr9⟩ : ∃ r, f_KE_begin_SH newP newQ root shares = r := ⟨_, rfl⟩
  rw [hr9]
  unfold f_KE_begin_SH at hr9
  refine lv_aload_n hx hb d_KE_begin_0 rfl (lv_at hl 0 rfl) ?_
  refine lv_lload_n hx hb d_KE_begin_1 rfl (lv_at hl 1 rfl) ?_
  refine pf_KE_18 hg hw S hP hD hS 0 rfl rfl rfl (Nat.le_of_ble_eq_true rfl) d_KE_begin_2 (fun H1 L1 hP hD hS => ?_)
  have hP : va_P G.2.1 cl_all [(k, .inr (1, [.ref sh, .ref ch, .int dealt, .long epoch, .long base, .long whole, .long signing, .long newP, .long qq, .long modulus, .long order])), (sh, .inl (G.2.2.2.1, 6, .inr (.inl shares)))] H1 := hP
  have hD : va_D A [(k, .inr (1, [.ref sh, .ref ch, .int dealt, .long epoch, .long base, .long whole, .long signing, .long newP, .long qq, .long modulus, .long order])), (sh, .inl (G.2.2.2.1, 6, .inr (.inl shares)))] := hD
  refine lv_aload_n hx hb d_KE_begin_5 rfl (lv_at hl 0 rfl) ?_
  refine lv_lload_n hx hb d_KE_begin_6 rfl (lv_at hl 2 rfl) ?_
  refine pf_KE_22 hg hw S hP hD hS 0 rfl rfl rfl (Nat.le_of_ble_eq_true rfl) d_KE_begin_7 (fun H2 L2 hP hD hS => ?_)
  have hP : va_P G.2.1 cl_all [(k, .inr (1, [.ref sh, .ref ch, .int dealt, .long epoch, .long base, .long whole, .long signing, .long newP, .long newQ, .long modulus, .long order])), (sh, .inl (G.2.2.2.1, 6, .inr (.inl shares)))] H2 := hP
  have hD : va_D A [(k, .inr (1, [.ref sh, .ref ch, .int dealt, .long epoch, .long base, .long whole, .long signing, .long newP, .long newQ, .long modulus, .long order])), (sh, .inl (G.2.2.2.1, 6, .inr (.inl shares)))] := hD
  refine lv_aload_n hx hb d_KE_begin_10 rfl (lv_at hl 0 rfl) ?_
  refine lv_aload_n hx hb d_KE_begin_11 rfl (lv_at hl 0 rfl) ?_
  refine gf_KE_18 hg hw S hP 0 rfl rfl d_KE_begin_12 ?_
  refine lv_aload_n hx hb d_KE_begin_15 rfl (lv_at hl 0 rfl) ?_
  refine gf_KE_22 hg hw S hP 0 rfl rfl d_KE_begin_16 ?_
  refine lv_lmul hx hb d_KE_begin_19 ?_
  refine pf_KE_25 hg hw S hP hD hS 0 rfl rfl rfl (Nat.le_of_ble_eq_true rfl) d_KE_begin_20 (fun H3 L3 hP hD hS => ?_)
  have hP : va_P G.2.1 cl_all [(k, .inr (1, [.ref sh, .ref ch, .int dealt, .long epoch, .long base, .long whole, .long signing, .long newP, .long newQ, .long (newP * newQ), .long order])), (sh, .inl (G.2.2.2.1, 6, .inr (.inl shares)))] H3 := hP
  have hD : va_D A [(k, .inr (1, [.ref sh, .ref ch, .int dealt, .long epoch, .long base, .long whole, .long signing, .long newP, .long newQ, .long (newP * newQ), .long order])), (sh, .inl (G.2.2.2.1, 6, .inr (.inl shares)))] := hD
  refine lv_aload_n hx hb d_KE_begin_23 rfl (lv_at hl 0 rfl) ?_
  refine gf_KE_18 hg hw S hP 0 rfl rfl d_KE_begin_24 ?_
  refine lv_lconst (v := (1 : Int64)) hx hb d_KE_begin_27 (by decide) ?_
  refine lv_lsub hx hb d_KE_begin_28 ?_
  refine kc_KE_28 hg hw S d_KE_begin_29 ?_
  refine lv_ldiv hx hb d_KE_begin_32 (by decide) ?_
  refine lv_lstore hx hb d_KE_begin_33 hl (by decide) rfl (fun ls hl => ?_)
  have hl : lv_has ls 12 [(7, .long ((newP - (1 : Int64)) / (2 : Int64))), (0, .ref k), (1, .long newP), (3, .long newQ), (5, .long root)] := hl
  refine lv_aload_n hx hb d_KE_begin_35 rfl (lv_at hl 1 rfl) ?_
  refine gf_KE_22 hg hw S hP 0 rfl rfl d_KE_begin_36 ?_
  refine lv_lconst (v := (1 : Int64)) hx hb d_KE_begin_39 (by decide) ?_
  refine lv_lsub hx hb d_KE_begin_40 ?_
  refine kc_KE_28 hg hw S d_KE_begin_41 ?_
  refine lv_ldiv hx hb d_KE_begin_44 (by decide) ?_
  refine lv_lstore hx hb d_KE_begin_45 hl (by decide) rfl (fun ls hl => ?_)
  have hl : lv_has ls 12 [(9, .long ((newQ - (1 : Int64)) / (2 : Int64))), (7, .long ((newP - (1 : Int64)) / (2 : Int64))), (0, .ref k), (1, .long newP), (3, .long newQ), (5, .long root)] := hl
  refine lv_aload_n hx hb d_KE_begin_47 rfl (lv_at hl 2 rfl) ?_
  refine lv_lload hx hb d_KE_begin_48 (lv_at hl 1 rfl) ?_
  refine lv_lload hx hb d_KE_begin_50 (lv_at hl 0 rfl) ?_
  refine lv_lmul hx hb d_KE_begin_52 ?_
  refine pf_KE_30 hg hw S hP hD hS 0 rfl rfl rfl (Nat.le_of_ble_eq_true rfl) d_KE_begin_53 (fun H4 L4 hP hD hS => ?_)
  have hP : va_P G.2.1 cl_all [(k, .inr (1, [.ref sh, .ref ch, .int dealt, .long epoch, .long base, .long whole, .long signing, .long newP, .long newQ, .long (newP * newQ), .long (((newP - (1 : Int64)) / (2 : Int64)) * ((newQ - (1 : Int64)) / (2 : Int64)))])), (sh, .inl (G.2.2.2.1, 6, .inr (.inl shares)))] H4 := hP
  have hD : va_D A [(k, .inr (1, [.ref sh, .ref ch, .int dealt, .long epoch, .long base, .long whole, .long signing, .long newP, .long newQ, .long (newP * newQ), .long (((newP - (1 : Int64)) / (2 : Int64)) * ((newQ - (1 : Int64)) / (2 : Int64)))])), (sh, .inl (G.2.2.2.1, 6, .inr (.inl shares)))] := hD
  refine lv_aload_n hx hb d_KE_begin_56 rfl (lv_at hl 2 rfl) ?_
  refine kc_KE_33 hg hw S d_KE_begin_57 ?_
  refine lv_lload hx hb d_KE_begin_60 (lv_at hl 1 rfl) ?_
  refine lv_lconst (v := (1 : Int64)) hx hb d_KE_begin_62 (by decide) ?_
  refine lv_lsub hx hb d_KE_begin_63 ?_
  refine lv_lload hx hb d_KE_begin_64 (lv_at hl 0 rfl) ?_
  refine lv_lconst (v := (1 : Int64)) hx hb d_KE_begin_66 (by decide) ?_
  refine lv_lsub hx hb d_KE_begin_67 ?_
  refine lv_lmul hx hb d_KE_begin_68 ?_
  refine lv_lconst (v := (1 : Int64)) hx hb d_KE_begin_69 (by decide) ?_
  refine lv_lsub hx hb d_KE_begin_70 ?_
  refine kc_KE_28 hg hw S d_KE_begin_71 ?_
  refine lv_aload_n hx hb d_KE_begin_74 rfl (lv_at hl 2 rfl) ?_
  refine gf_KE_30 hg hw S hP 0 rfl rfl d_KE_begin_75 ?_
  refine lv_lmul hx hb d_KE_begin_78 ?_
  refine xg_read (xg_runSN (rest := [.ref k]) (kw := 1) si_KE_35 hg hw S (ct_ST_powerModulo l hg H4 (65537 : Int64) (((((newP - (1 : Int64)) / (2 : Int64)) - (1 : Int64)) * (((newQ - (1 : Int64)) / (2 : Int64)) - (1 : Int64))) - (1 : Int64)) ((2 : Int64) * (((newP - (1 : Int64)) / (2 : Int64)) * ((newQ - (1 : Int64)) / (2 : Int64)))) ) ⟨by decide, by decide, by decide, by decide⟩ rfl hl.1 rfl (Nat.le_of_ble_eq_true rfl) d_KE_begin_79) ?_
  refine pf_KE_39 hg hw S hP hD hS 0 rfl rfl rfl (Nat.le_of_ble_eq_true rfl) d_KE_begin_82 (fun H5 L5 hP hD hS => ?_)
  have hP : va_P G.2.1 cl_all [(k, .inr (1, [.ref sh, .ref ch, .int dealt, .long epoch, .long base, .long whole, .long (f_ST_powerModulo (65537 : Int64) (((((newP - (1 : Int64)) / (2 : Int64)) - (1 : Int64)) * (((newQ - (1 : Int64)) / (2 : Int64)) - (1 : Int64))) - (1 : Int64)) ((2 : Int64) * (((newP - (1 : Int64)) / (2 : Int64)) * ((newQ - (1 : Int64)) / (2 : Int64))))), .long newP, .long newQ, .long (newP * newQ), .long (((newP - (1 : Int64)) / (2 : Int64)) * ((newQ - (1 : Int64)) / (2 : Int64)))])), (sh, .inl (G.2.2.2.1, 6, .inr (.inl shares)))] H5 := hP
  have hD : va_D A [(k, .inr (1, [.ref sh, .ref ch, .int dealt, .long epoch, .long base, .long whole, .long (f_ST_powerModulo (65537 : Int64) (((((newP - (1 : Int64)) / (2 : Int64)) - (1 : Int64)) * (((newQ - (1 : Int64)) / (2 : Int64)) - (1 : Int64))) - (1 : Int64)) ((2 : Int64) * (((newP - (1 : Int64)) / (2 : Int64)) * ((newQ - (1 : Int64)) / (2 : Int64))))), .long newP, .long newQ, .long (newP * newQ), .long (((newP - (1 : Int64)) / (2 : Int64)) * ((newQ - (1 : Int64)) / (2 : Int64)))])), (sh, .inl (G.2.2.2.1, 6, .inr (.inl shares)))] := hD
  refine lv_aload_n hx hb d_KE_begin_85 rfl (lv_at hl 2 rfl) ?_
  refine lv_aload_n hx hb d_KE_begin_86 rfl (lv_at hl 2 rfl) ?_
  refine gf_KE_39 hg hw S hP 0 rfl rfl d_KE_begin_87 ?_
  refine lv_aload_n hx hb d_KE_begin_90 rfl (lv_at hl 2 rfl) ?_
  refine gf_KE_30 hg hw S hP 0 rfl rfl d_KE_begin_91 ?_
  refine xg_read (xg_runSN (rest := [.ref k]) (kw := 1) si_KE_42 hg hw S (ct_ST_rest l hg H5 (f_ST_powerModulo (65537 : Int64) (((((newP - (1 : Int64)) / (2 : Int64)) - (1 : Int64)) * (((newQ - (1 : Int64)) / (2 : Int64)) - (1 : Int64))) - (1 : Int64)) ((2 : Int64) * (((newP - (1 : Int64)) / (2 : Int64)) * ((newQ - (1 : Int64)) / (2 : Int64))))) (((newP - (1 : Int64)) / (2 : Int64)) * ((newQ - (1 : Int64)) / (2 : Int64))) ) ⟨by decide, by decide, by decide, by decide⟩ rfl hl.1 rfl (Nat.le_of_ble_eq_true rfl) d_KE_begin_94) ?_
  refine pf_KE_46 hg hw S hP hD hS 0 rfl rfl rfl (Nat.le_of_ble_eq_true rfl) d_KE_begin_97 (fun H6 L6 hP hD hS => ?_)
  have hP : va_P G.2.1 cl_all [(k, .inr (1, [.ref sh, .ref ch, .int dealt, .long epoch, .long base, .long (f_ST_rest (f_ST_powerModulo (65537 : Int64) (((((newP - (1 : Int64)) / (2 : Int64)) - (1 : Int64)) * (((newQ - (1 : Int64)) / (2 : Int64)) - (1 : Int64))) - (1 : Int64)) ((2 : Int64) * (((newP - (1 : Int64)) / (2 : Int64)) * ((newQ - (1 : Int64)) / (2 : Int64))))) (((newP - (1 : Int64)) / (2 : Int64)) * ((newQ - (1 : Int64)) / (2 : Int64)))), .long (f_ST_powerModulo (65537 : Int64) (((((newP - (1 : Int64)) / (2 : Int64)) - (1 : Int64)) * (((newQ - (1 : Int64)) / (2 : Int64)) - (1 : Int64))) - (1 : Int64)) ((2 : Int64) * (((newP - (1 : Int64)) / (2 : Int64)) * ((newQ - (1 : Int64)) / (2 : Int64))))), .long newP, .long newQ, .long (newP * newQ), .long (((newP - (1 : Int64)) / (2 : Int64)) * ((newQ - (1 : Int64)) / (2 : Int64)))])), (sh, .inl (G.2.2.2.1, 6, .inr (.inl shares)))] H6 := hP
  have hD : va_D A [(k, .inr (1, [.ref sh, .ref ch, .int dealt, .long epoch, .long base, .long (f_ST_rest (f_ST_powerModulo (65537 : Int64) (((((newP - (1 : Int64)) / (2 : Int64)) - (1 : Int64)) * (((newQ - (1 : Int64)) / (2 : Int64)) - (1 : Int64))) - (1 : Int64)) ((2 : Int64) * (((newP - (1 : Int64)) / (2 : Int64)) * ((newQ - (1 : Int64)) / (2 : Int64))))) (((newP - (1 : Int64)) / (2 : Int64)) * ((newQ - (1 : Int64)) / (2 : Int64)))), .long (f_ST_powerModulo (65537 : Int64) (((((newP - (1 : Int64)) / (2 : Int64)) - (1 : Int64)) * (((newQ - (1 : Int64)) / (2 : Int64)) - (1 : Int64))) - (1 : Int64)) ((2 : Int64) * (((newP - (1 : Int64)) / (2 : Int64)) * ((newQ - (1 : Int64)) / (2 : Int64))))), .long newP, .long newQ, .long (newP * newQ), .long (((newP - (1 : Int64)) / (2 : Int64)) * ((newQ - (1 : Int64)) / (2 : Int64)))])), (sh, .inl (G.2.2.2.1, 6, .inr (.inl shares)))] := hD
  refine lv_aload_n hx hb d_KE_begin_100 rfl (lv_at hl 2 rfl) ?_
  refine lv_lload hx hb d_KE_begin_101 (lv_at hl 5 rfl) ?_
  refine lv_lload hx hb d_KE_begin_103 (lv_at hl 5 rfl) ?_
  refine lv_lmul hx hb d_KE_begin_105 ?_
  refine lv_aload_n hx hb d_KE_begin_106 rfl (lv_at hl 2 rfl) ?_
  refine gf_KE_25 hg hw S hP 0 rfl rfl d_KE_begin_107 ?_
  refine xg_read (xg_runSN (rest := [.ref k]) (kw := 1) si_KE_42 hg hw S (ct_ST_rest l hg H6 (root * root) (newP * newQ) ) ⟨by decide, by decide, by decide, by decide⟩ rfl hl.1 rfl (Nat.le_of_ble_eq_true rfl) d_KE_begin_110) ?_
  refine pf_KE_49 hg hw S hP hD hS 0 rfl rfl rfl (Nat.le_of_ble_eq_true rfl) d_KE_begin_113 (fun H7 L7 hP hD hS => ?_)
  have hP : va_P G.2.1 cl_all [(k, .inr (1, [.ref sh, .ref ch, .int dealt, .long epoch, .long (f_ST_rest (root * root) (newP * newQ)), .long (f_ST_rest (f_ST_powerModulo (65537 : Int64) (((((newP - (1 : Int64)) / (2 : Int64)) - (1 : Int64)) * (((newQ - (1 : Int64)) / (2 : Int64)) - (1 : Int64))) - (1 : Int64)) ((2 : Int64) * (((newP - (1 : Int64)) / (2 : Int64)) * ((newQ - (1 : Int64)) / (2 : Int64))))) (((newP - (1 : Int64)) / (2 : Int64)) * ((newQ - (1 : Int64)) / (2 : Int64)))), .long (f_ST_powerModulo (65537 : Int64) (((((newP - (1 : Int64)) / (2 : Int64)) - (1 : Int64)) * (((newQ - (1 : Int64)) / (2 : Int64)) - (1 : Int64))) - (1 : Int64)) ((2 : Int64) * (((newP - (1 : Int64)) / (2 : Int64)) * ((newQ - (1 : Int64)) / (2 : Int64))))), .long newP, .long newQ, .long (newP * newQ), .long (((newP - (1 : Int64)) / (2 : Int64)) * ((newQ - (1 : Int64)) / (2 : Int64)))])), (sh, .inl (G.2.2.2.1, 6, .inr (.inl shares)))] H7 := hP
  have hD : va_D A [(k, .inr (1, [.ref sh, .ref ch, .int dealt, .long epoch, .long (f_ST_rest (root * root) (newP * newQ)), .long (f_ST_rest (f_ST_powerModulo (65537 : Int64) (((((newP - (1 : Int64)) / (2 : Int64)) - (1 : Int64)) * (((newQ - (1 : Int64)) / (2 : Int64)) - (1 : Int64))) - (1 : Int64)) ((2 : Int64) * (((newP - (1 : Int64)) / (2 : Int64)) * ((newQ - (1 : Int64)) / (2 : Int64))))) (((newP - (1 : Int64)) / (2 : Int64)) * ((newQ - (1 : Int64)) / (2 : Int64)))), .long (f_ST_powerModulo (65537 : Int64) (((((newP - (1 : Int64)) / (2 : Int64)) - (1 : Int64)) * (((newQ - (1 : Int64)) / (2 : Int64)) - (1 : Int64))) - (1 : Int64)) ((2 : Int64) * (((newP - (1 : Int64)) / (2 : Int64)) * ((newQ - (1 : Int64)) / (2 : Int64))))), .long newP, .long newQ, .long (newP * newQ), .long (((newP - (1 : Int64)) / (2 : Int64)) * ((newQ - (1 : Int64)) / (2 : Int64)))])), (sh, .inl (G.2.2.2.1, 6, .inr (.inl shares)))] := hD
  refine lv_aload_n hx hb d_KE_begin_116 rfl (lv_at hl 2 rfl) ?_
  refine lv_lconst (v := (0 : Int64)) hx hb d_KE_begin_117 (by decide) ?_
  refine pf_KE_52 hg hw S hP hD hS 0 rfl rfl rfl (Nat.le_of_ble_eq_true rfl) d_KE_begin_118 (fun H8 L8 hP hD hS => ?_)
  have hP : va_P G.2.1 cl_all [(k, .inr (1, [.ref sh, .ref ch, .int dealt, .long (0 : Int64), .long (f_ST_rest (root * root) (newP * newQ)), .long (f_ST_rest (f_ST_powerModulo (65537 : Int64) (((((newP - (1 : Int64)) / (2 : Int64)) - (1 : Int64)) * (((newQ - (1 : Int64)) / (2 : Int64)) - (1 : Int64))) - (1 : Int64)) ((2 : Int64) * (((newP - (1 : Int64)) / (2 : Int64)) * ((newQ - (1 : Int64)) / (2 : Int64))))) (((newP - (1 : Int64)) / (2 : Int64)) * ((newQ - (1 : Int64)) / (2 : Int64)))), .long (f_ST_powerModulo (65537 : Int64) (((((newP - (1 : Int64)) / (2 : Int64)) - (1 : Int64)) * (((newQ - (1 : Int64)) / (2 : Int64)) - (1 : Int64))) - (1 : Int64)) ((2 : Int64) * (((newP - (1 : Int64)) / (2 : Int64)) * ((newQ - (1 : Int64)) / (2 : Int64))))), .long newP, .long newQ, .long (newP * newQ), .long (((newP - (1 : Int64)) / (2 : Int64)) * ((newQ - (1 : Int64)) / (2 : Int64)))])), (sh, .inl (G.2.2.2.1, 6, .inr (.inl shares)))] H8 := hP
  have hD : va_D A [(k, .inr (1, [.ref sh, .ref ch, .int dealt, .long (0 : Int64), .long (f_ST_rest (root * root) (newP * newQ)), .long (f_ST_rest (f_ST_powerModulo (65537 : Int64) (((((newP - (1 : Int64)) / (2 : Int64)) - (1 : Int64)) * (((newQ - (1 : Int64)) / (2 : Int64)) - (1 : Int64))) - (1 : Int64)) ((2 : Int64) * (((newP - (1 : Int64)) / (2 : Int64)) * ((newQ - (1 : Int64)) / (2 : Int64))))) (((newP - (1 : Int64)) / (2 : Int64)) * ((newQ - (1 : Int64)) / (2 : Int64)))), .long (f_ST_powerModulo (65537 : Int64) (((((newP - (1 : Int64)) / (2 : Int64)) - (1 : Int64)) * (((newQ - (1 : Int64)) / (2 : Int64)) - (1 : Int64))) - (1 : Int64)) ((2 : Int64) * (((newP - (1 : Int64)) / (2 : Int64)) * ((newQ - (1 : Int64)) / (2 : Int64))))), .long newP, .long newQ, .long (newP * newQ), .long (((newP - (1 : Int64)) / (2 : Int64)) * ((newQ - (1 : Int64)) / (2 : Int64)))])), (sh, .inl (G.2.2.2.1, 6, .inr (.inl shares)))] := hD
  refine lv_aload_n hx hb d_KE_begin_121 rfl (lv_at hl 2 rfl) ?_
  refine lv_iconst (v := (1 : Int32)) hx hb d_KE_begin_122 (by decide) ?_
  refine pf_KE_55 hg hw S hP hD hS 0 rfl rfl rfl (Nat.le_of_ble_eq_true rfl) d_KE_begin_123 (fun H9 L9 hP hD hS => ?_)
  have hP : va_P G.2.1 cl_all [(k, .inr (1, [.ref sh, .ref ch, .int (1 : Int32), .long (0 : Int64), .long (f_ST_rest (root * root) (newP * newQ)), .long (f_ST_rest (f_ST_powerModulo (65537 : Int64) (((((newP - (1 : Int64)) / (2 : Int64)) - (1 : Int64)) * (((newQ - (1 : Int64)) / (2 : Int64)) - (1 : Int64))) - (1 : Int64)) ((2 : Int64) * (((newP - (1 : Int64)) / (2 : Int64)) * ((newQ - (1 : Int64)) / (2 : Int64))))) (((newP - (1 : Int64)) / (2 : Int64)) * ((newQ - (1 : Int64)) / (2 : Int64)))), .long (f_ST_powerModulo (65537 : Int64) (((((newP - (1 : Int64)) / (2 : Int64)) - (1 : Int64)) * (((newQ - (1 : Int64)) / (2 : Int64)) - (1 : Int64))) - (1 : Int64)) ((2 : Int64) * (((newP - (1 : Int64)) / (2 : Int64)) * ((newQ - (1 : Int64)) / (2 : Int64))))), .long newP, .long newQ, .long (newP * newQ), .long (((newP - (1 : Int64)) / (2 : Int64)) * ((newQ - (1 : Int64)) / (2 : Int64)))])), (sh, .inl (G.2.2.2.1, 6, .inr (.inl shares)))] H9 := hP
  have hD : va_D A [(k, .inr (1, [.ref sh, .ref ch, .int (1 : Int32), .long (0 : Int64), .long (f_ST_rest (root * root) (newP * newQ)), .long (f_ST_rest (f_ST_powerModulo (65537 : Int64) (((((newP - (1 : Int64)) / (2 : Int64)) - (1 : Int64)) * (((newQ - (1 : Int64)) / (2 : Int64)) - (1 : Int64))) - (1 : Int64)) ((2 : Int64) * (((newP - (1 : Int64)) / (2 : Int64)) * ((newQ - (1 : Int64)) / (2 : Int64))))) (((newP - (1 : Int64)) / (2 : Int64)) * ((newQ - (1 : Int64)) / (2 : Int64)))), .long (f_ST_powerModulo (65537 : Int64) (((((newP - (1 : Int64)) / (2 : Int64)) - (1 : Int64)) * (((newQ - (1 : Int64)) / (2 : Int64)) - (1 : Int64))) - (1 : Int64)) ((2 : Int64) * (((newP - (1 : Int64)) / (2 : Int64)) * ((newQ - (1 : Int64)) / (2 : Int64))))), .long newP, .long newQ, .long (newP * newQ), .long (((newP - (1 : Int64)) / (2 : Int64)) * ((newQ - (1 : Int64)) / (2 : Int64)))])), (sh, .inl (G.2.2.2.1, 6, .inr (.inl shares)))] := hD
  refine lv_iconst (v := (0 : Int32)) hx hb d_KE_begin_126 (by decide) ?_
  refine lv_istore hx hb d_KE_begin_127 hl (by decide) rfl (fun ls hl => ?_)
  have hl : lv_has ls 12 [(11, .int (0 : Int32)), (9, .long ((newQ - (1 : Int64)) / (2 : Int64))), (7, .long ((newP - (1 : Int64)) / (2 : Int64))), (0, .ref k), (1, .long newP), (3, .long newQ), (5, .long root)] := hl
  subst hr0
  subst hr1
  subst hr2
  subst hr3
  subst hr4
  subst hr5
  subst hr6
  subst hr7
  subst hr8
  exact wl_KE_begin_129 (k := k) (newP := newP) (newQ := newQ) (root := root) (sh := sh) (ch := ch) (dealt := dealt) (epoch := epoch) (base := base) (whole := whole) (signing := signing) (pp := pp) (qq := qq) (modulus := modulus) (order := order) (shares := shares) hg hw S hl0 ht hA  7 (0 : Int32) shares r9 ls H9 L9 hr9 (by decide) (lv_sub hl [0, 1, 2, 3, 4, 5, 6] rfl) hP hD hS
def lf_KE_addPolynomial_3_0 (a : Int64) (b : Int64) (base : Int64) (modulus : Int64) (order : Int64) (shares : Nat → Int64) (checks : Nat → Int64) : Nat → Int32 → (Nat → Int64) → (Nat → Int64) → (Nat → Int64)
  | 0, _, _, _ => fun _ => 0
  | n + 1, i, shv, chv => if (6 : Int32) ≤ i then shv else (lf_KE_addPolynomial_3_0 a b base modulus order shares checks n (i + (1 : Int32)) (vp_updL shv i.toNatClampNeg (f_ST_rest (((shv i.toNatClampNeg) + (a * ((i + (1 : Int32)).toInt64))) + ((b * ((i + (1 : Int32)).toInt64)) * ((i + (1 : Int32)).toInt64))) order)) (vp_updL chv i.toNatClampNeg (f_KE_power base ((vp_updL shv i.toNatClampNeg (f_ST_rest (((shv i.toNatClampNeg) + (a * ((i + (1 : Int32)).toInt64))) + ((b * ((i + (1 : Int32)).toInt64)) * ((i + (1 : Int32)).toInt64))) order)) i.toNatClampNeg) modulus)))
def lf_KE_addPolynomial_3_1 (a : Int64) (b : Int64) (base : Int64) (modulus : Int64) (order : Int64) (shares : Nat → Int64) (checks : Nat → Int64) : Nat → Int32 → (Nat → Int64) → (Nat → Int64) → (Nat → Int64)
  | 0, _, _, _ => fun _ => 0
  | n + 1, i, shv, chv => if (6 : Int32) ≤ i then chv else (lf_KE_addPolynomial_3_1 a b base modulus order shares checks n (i + (1 : Int32)) (vp_updL shv i.toNatClampNeg (f_ST_rest (((shv i.toNatClampNeg) + (a * ((i + (1 : Int32)).toInt64))) + ((b * ((i + (1 : Int32)).toInt64)) * ((i + (1 : Int32)).toInt64))) order)) (vp_updL chv i.toNatClampNeg (f_KE_power base ((vp_updL shv i.toNatClampNeg (f_ST_rest (((shv i.toNatClampNeg) + (a * ((i + (1 : Int32)).toInt64))) + ((b * ((i + (1 : Int32)).toInt64)) * ((i + (1 : Int32)).toInt64))) order)) i.toNatClampNeg) modulus)))
def f_KE_addPolynomial_SH (a : Int64) (b : Int64) (base : Int64) (modulus : Int64) (order : Int64) (shares : Nat → Int64) (checks : Nat → Int64) : Nat → Int64 := lf_KE_addPolynomial_3_0 a b base modulus order shares checks 7 (0 : Int32) shares checks
def f_KE_addPolynomial_CH (a : Int64) (b : Int64) (base : Int64) (modulus : Int64) (order : Int64) (shares : Nat → Int64) (checks : Nat → Int64) : Nat → Int64 := lf_KE_addPolynomial_3_1 a b base modulus order shares checks 7 (0 : Int32) shares checks
set_option maxHeartbeats 4000000 in
set_option maxRecDepth 100000 in
theorem wl_KE_addPolynomial_3 {p : Program} {l : Launch} {e : Env} {s : State} {m : MethodId} {args : Array Value} {below : List Frame} {meth : Method} {c : Code} {G : xg_G} {A : Nat → Prop} {k : Nat} {a : Int64} {b : Int64} {sh : Nat} {ch : Nat} {dealt : Int32} {epoch : Int64} {base : Int64} {whole : Int64} {signing : Int64} {pp : Int64} {qq : Int64} {modulus : Int64} {order : Int64} {shares : Nat → Int64} {checks : Nat → Int64} (hg : xg_F G) (hw : G.1.WarmedH s.vm) (S : xc_Fix p m c b_KE_addPolynomial 8 s "SealTrust$Key") (hl0 : meth.locks = false) (ht : meth.sig.returnType = none) (hA : ∀ q, s.heap.size ≤ q → A q)  : ∀ (n : Nat) (i : Int32) (shv : Nat → Int64) (chv : Nat → Int64) (r0 : Nat → Int64) (r1 : Nat → Int64) (ls : Array Slot) (H9 : Heap) (L9 : List Loc), lf_KE_addPolynomial_3_0 a b base modulus order shares checks n i shv chv = r0 → lf_KE_addPolynomial_3_1 a b base modulus order shares checks n i shv chv = r1 → (0 ≤ i.toInt ∧ ((6 : Int32).toInt - i.toInt).toNat < n) → lv_has ls 8 [(5, .int i), (0, .ref k), (1, .long a), (3, .long b)] → va_P G.2.1 cl_all [(k, .inr (1, [.ref sh, .ref ch, .int dealt, .long epoch, .long base, .long whole, .long signing, .long pp, .long qq, .long modulus, .long order])), (sh, .inl (G.2.2.2.1, 6, .inr (.inl shv))), (ch, .inl (G.2.2.2.1, 6, .inr (.inl chv)))] H9 → va_D A [(k, .inr (1, [.ref sh, .ref ch, .int dealt, .long epoch, .long base, .long whole, .long signing, .long pp, .long qq, .long modulus, .long order])), (sh, .inl (G.2.2.2.1, 6, .inr (.inl shv))), (ch, .inl (G.2.2.2.1, 6, .inr (.inl chv)))] → va_S A s.heap H9 L9 → W p l e ({ frames := 3, cells := 0, slots := 0, locals := 59 } : Room) s m args below meth c H9 L9 0 0 (xw_Z G below A none [(k, .inr (1, [.ref sh, .ref ch, .int dealt, .long epoch, .long base, .long whole, .long signing, .long pp, .long qq, .long modulus, .long order])), (sh, .inl (G.2.2.2.1, 6, .inr (.inl r0))), (ch, .inl (G.2.2.2.1, 6, .inr (.inl r1)))] args s 0 0) (F0 m 3 ls []) := by
  have hx := S.1
  have hb := S.2.1
  intro n
  induction n with
  | zero =>
    intro i shv chv r0 r1 ls H9 L9 hr0 hr1 hmu
    omega
  | succ n ih =>
    intro i shv chv r0 r1 ls H9 L9 hr0 hr1 hmu hl hP hD hS
    rw [lf_KE_addPolynomial_3_0] at hr0
    rw [lf_KE_addPolynomial_3_1] at hr1
    refine lv_iload hx hb d_KE_addPolynomial_3 (lv_at hl 0 rfl) ?_
    refine lv_bipush (v := (6 : Int32)) hx hb d_KE_addPolynomial_5 (by decide) ?_
    refine lv_icmp_ge hx hb d_KE_addPolynomial_7 (tgt := 79) (by decide) (fun h7 => ?_) (fun h7 => ?_)
    · rw [if_pos h7] at hr0
      rw [if_pos h7] at hr1
      subst hr0
      subst hr1
      exact xw_vret hx hb ht hl0 hP hD hS d_KE_addPolynomial_79
    · rw [if_neg h7] at hr0
      rw [if_neg h7] at hr1
      refine lv_iload hx hb d_KE_addPolynomial_10 (lv_at hl 0 rfl) ?_
      refine lv_iconst (v := (1 : Int32)) hx hb d_KE_addPolynomial_12 (by decide) ?_
      refine lv_iadd hx hb d_KE_addPolynomial_13 ?_
      refine lv_i2l hx hb d_KE_addPolynomial_14 rfl ?_
      refine lv_lstore hx hb d_KE_addPolynomial_15 hl (by decide) rfl (fun ls hl => ?_)
      have hl : lv_has ls 8 [(6, .long ((i + (1 : Int32)).toInt64)), (5, .int i), (0, .ref k), (1, .long a), (3, .long b)] := hl
      refine lv_aload_n hx hb d_KE_addPolynomial_17 rfl (lv_at hl 2 rfl) ?_
      refine gf_KE_9 hg hw S hP 0 rfl rfl d_KE_addPolynomial_18 ?_
      refine lv_iload hx hb d_KE_addPolynomial_21 (lv_at hl 1 rfl) ?_
      refine lv_aload_n hx hb d_KE_addPolynomial_23 rfl (lv_at hl 2 rfl) ?_
      refine gf_KE_9 hg hw S hP 0 rfl rfl d_KE_addPolynomial_24 ?_
      refine lv_iload hx hb d_KE_addPolynomial_27 (lv_at hl 1 rfl) ?_
      refine va_lald hx hb (xg_k hg hw) hP 1 1 rfl rfl (xi_in h7 hmu.1 (by decide)) d_KE_addPolynomial_29 ?_
      refine lv_lload_n hx hb d_KE_addPolynomial_30 rfl (lv_at hl 3 rfl) ?_
      refine lv_lload hx hb d_KE_addPolynomial_31 (lv_at hl 0 rfl) ?_
      refine lv_lmul hx hb d_KE_addPolynomial_33 ?_
      refine lv_ladd hx hb d_KE_addPolynomial_34 ?_
      refine lv_lload_n hx hb d_KE_addPolynomial_35 rfl (lv_at hl 4 rfl) ?_
      refine lv_lload hx hb d_KE_addPolynomial_36 (lv_at hl 0 rfl) ?_
      refine lv_lmul hx hb d_KE_addPolynomial_38 ?_
      refine lv_lload hx hb d_KE_addPolynomial_39 (lv_at hl 0 rfl) ?_
      refine lv_lmul hx hb d_KE_addPolynomial_41 ?_
      refine lv_ladd hx hb d_KE_addPolynomial_42 ?_
      refine lv_aload_n hx hb d_KE_addPolynomial_43 rfl (lv_at hl 2 rfl) ?_
      refine gf_KE_30 hg hw S hP 0 rfl rfl d_KE_addPolynomial_44 ?_
      refine xg_read (xg_runSN (rest := [.int i, .ref sh]) (kw := 2) si_KE_42 hg hw S (ct_ST_rest l hg H9 (((shv i.toNatClampNeg) + (a * ((i + (1 : Int32)).toInt64))) + ((b * ((i + (1 : Int32)).toInt64)) * ((i + (1 : Int32)).toInt64))) order ) ⟨by decide, by decide, by decide, by decide⟩ rfl hl.1 rfl (Nat.le_of_ble_eq_true rfl) d_KE_addPolynomial_47) ?_
      refine va_last hx hb (xg_k hg hw) hP hD hS 1 1 rfl rfl (xi_in h7 hmu.1 (by decide)) d_KE_addPolynomial_50 (fun H1 L1 hP hD hS => ?_)
      have hP : va_P G.2.1 cl_all [(k, .inr (1, [.ref sh, .ref ch, .int dealt, .long epoch, .long base, .long whole, .long signing, .long pp, .long qq, .long modulus, .long order])), (sh, .inl (G.2.2.2.1, 6, .inr (.inl (vp_updL shv i.toNatClampNeg (f_ST_rest (((shv i.toNatClampNeg) + (a * ((i + (1 : Int32)).toInt64))) + ((b * ((i + (1 : Int32)).toInt64)) * ((i + (1 : Int32)).toInt64))) order))))), (ch, .inl (G.2.2.2.1, 6, .inr (.inl chv)))] H1 := hP
      have hD : va_D A [(k, .inr (1, [.ref sh, .ref ch, .int dealt, .long epoch, .long base, .long whole, .long signing, .long pp, .long qq, .long modulus, .long order])), (sh, .inl (G.2.2.2.1, 6, .inr (.inl (vp_updL shv i.toNatClampNeg (f_ST_rest (((shv i.toNatClampNeg) + (a * ((i + (1 : Int32)).toInt64))) + ((b * ((i + (1 : Int32)).toInt64)) * ((i + (1 : Int32)).toInt64))) order))))), (ch, .inl (G.2.2.2.1, 6, .inr (.inl chv)))] := hD
      refine lv_aload_n hx hb d_KE_addPolynomial_51 rfl (lv_at hl 2 rfl) ?_
      refine gf_KE_15 hg hw S hP 0 rfl rfl d_KE_addPolynomial_52 ?_
      refine lv_iload hx hb d_KE_addPolynomial_55 (lv_at hl 1 rfl) ?_
      refine lv_aload_n hx hb d_KE_addPolynomial_57 rfl (lv_at hl 2 rfl) ?_
      refine lv_aload_n hx hb d_KE_addPolynomial_58 rfl (lv_at hl 2 rfl) ?_
      refine gf_KE_49 hg hw S hP 0 rfl rfl d_KE_addPolynomial_59 ?_
      refine lv_aload_n hx hb d_KE_addPolynomial_62 rfl (lv_at hl 2 rfl) ?_
      refine gf_KE_9 hg hw S hP 0 rfl rfl d_KE_addPolynomial_63 ?_
      refine lv_iload hx hb d_KE_addPolynomial_66 (lv_at hl 1 rfl) ?_
      refine va_lald hx hb (xg_k hg hw) hP 1 1 rfl rfl (xi_in h7 hmu.1 (by decide)) d_KE_addPolynomial_68 ?_
      refine xg_read (xg_runV (rest := [.int i, .ref ch]) (kw := 2) si_KE_59 hg hw S (va_recv (xg_k hg hw) hP (ci := 1) rfl (q0 := 0) rfl) (ct_KE_power l hg H1 k base ((vp_updL shv i.toNatClampNeg (f_ST_rest (((shv i.toNatClampNeg) + (a * ((i + (1 : Int32)).toInt64))) + ((b * ((i + (1 : Int32)).toInt64)) * ((i + (1 : Int32)).toInt64))) order)) i.toNatClampNeg) sh ch dealt epoch base whole signing pp qq modulus order (hP.sub [0] rfl) ) ⟨by decide, by decide, by decide, by decide⟩ rfl hl.1 rfl (Nat.le_of_ble_eq_true rfl) d_KE_addPolynomial_69) ?_
      refine va_last hx hb (xg_k hg hw) hP hD hS 2 1 rfl rfl (xi_in h7 hmu.1 (by decide)) d_KE_addPolynomial_72 (fun H2 L2 hP hD hS => ?_)
      have hP : va_P G.2.1 cl_all [(k, .inr (1, [.ref sh, .ref ch, .int dealt, .long epoch, .long base, .long whole, .long signing, .long pp, .long qq, .long modulus, .long order])), (sh, .inl (G.2.2.2.1, 6, .inr (.inl (vp_updL shv i.toNatClampNeg (f_ST_rest (((shv i.toNatClampNeg) + (a * ((i + (1 : Int32)).toInt64))) + ((b * ((i + (1 : Int32)).toInt64)) * ((i + (1 : Int32)).toInt64))) order))))), (ch, .inl (G.2.2.2.1, 6, .inr (.inl (vp_updL chv i.toNatClampNeg (f_KE_power base ((vp_updL shv i.toNatClampNeg (f_ST_rest (((shv i.toNatClampNeg) + (a * ((i + (1 : Int32)).toInt64))) + ((b * ((i + (1 : Int32)).toInt64)) * ((i + (1 : Int32)).toInt64))) order)) i.toNatClampNeg) modulus)))))] H2 := hP
      have hD : va_D A [(k, .inr (1, [.ref sh, .ref ch, .int dealt, .long epoch, .long base, .long whole, .long signing, .long pp, .long qq, .long modulus, .long order])), (sh, .inl (G.2.2.2.1, 6, .inr (.inl (vp_updL shv i.toNatClampNeg (f_ST_rest (((shv i.toNatClampNeg) + (a * ((i + (1 : Int32)).toInt64))) + ((b * ((i + (1 : Int32)).toInt64)) * ((i + (1 : Int32)).toInt64))) order))))), (ch, .inl (G.2.2.2.1, 6, .inr (.inl (vp_updL chv i.toNatClampNeg (f_KE_power base ((vp_updL shv i.toNatClampNeg (f_ST_rest (((shv i.toNatClampNeg) + (a * ((i + (1 : Int32)).toInt64))) + ((b * ((i + (1 : Int32)).toInt64)) * ((i + (1 : Int32)).toInt64))) order)) i.toNatClampNeg) modulus)))))] := hD
      refine lv_iinc (v := i + (1 : Int32)) hx hb d_KE_addPolynomial_73 hl (k := 1) rfl rfl (by decide) rfl (fun ls hl => ?_)
      have hl : lv_has ls 8 [(5, .int (i + (1 : Int32))), (6, .long ((i + (1 : Int32)).toInt64)), (0, .ref k), (1, .long a), (3, .long b)] := hl
      refine lv_goto hx hb d_KE_addPolynomial_76 (tgt := 3) (by decide) ?_
      exact ih (i + (1 : Int32)) (vp_updL shv i.toNatClampNeg (f_ST_rest (((shv i.toNatClampNeg) + (a * ((i + (1 : Int32)).toInt64))) + ((b * ((i + (1 : Int32)).toInt64)) * ((i + (1 : Int32)).toInt64))) order)) (vp_updL chv i.toNatClampNeg (f_KE_power base ((vp_updL shv i.toNatClampNeg (f_ST_rest (((shv i.toNatClampNeg) + (a * ((i + (1 : Int32)).toInt64))) + ((b * ((i + (1 : Int32)).toInt64)) * ((i + (1 : Int32)).toInt64))) order)) i.toNatClampNeg) modulus)) r0 r1 ls H2 L2 hr0 hr1 (xi_up0 h7 hmu) (lv_sub hl [0, 2, 3, 4] rfl) hP hD hS
set_option maxHeartbeats 4000000 in
set_option maxRecDepth 100000 in
theorem ct_KE_addPolynomial (l : Launch) {G : xg_G} (hg : xg_F G) (H : Heap) (k : Nat) (a : Int64) (b : Int64) (sh : Nat) (ch : Nat) (dealt : Int32) (epoch : Int64) (base : Int64) (whole : Int64) (signing : Int64) (pp : Int64) (qq : Int64) (modulus : Int64) (order : Int64) (shares : Nat → Int64) (checks : Nat → Int64) (hP : va_P G.2.1 cl_all [(k, .inr (1, [.ref sh, .ref ch, .int dealt, .long epoch, .long base, .long whole, .long signing, .long pp, .long qq, .long modulus, .long order])), (sh, .inl (G.2.2.2.1, 6, .inr (.inl shares))), (ch, .inl (G.2.2.2.1, 6, .inr (.inl checks)))] H) (hD0 : va_D (fun _ => True) [(k, .inr (1, [.ref sh, .ref ch, .int dealt, .long epoch, .long base, .long whole, .long signing, .long pp, .long qq, .long modulus, .long order])), (sh, .inl (G.2.2.2.1, 6, .inr (.inl shares))), (ch, .inl (G.2.2.2.1, 6, .inr (.inl checks)))])  : xc_Met l y_KE_addPolynomial (.code y_KE_addPolynomial b_KE_addPolynomial 8 none) ({ frames := 3, cells := 0, slots := 0, locals := 59 } : Room) (xg_Pc G [.ref k, .long a, .long b] H) (xw_post G (va_A [(k, .inr (1, [.ref sh, .ref ch, .int dealt, .long epoch, .long base, .long whole, .long signing, .long pp, .long qq, .long modulus, .long order])), (sh, .inl (G.2.2.2.1, 6, .inr (.inl shares))), (ch, .inl (G.2.2.2.1, 6, .inr (.inl checks)))] H.size) none [(k, .inr (1, [.ref sh, .ref ch, .int dealt, .long epoch, .long base, .long whole, .long signing, .long pp, .long qq, .long modulus, .long order])), (sh, .inl (G.2.2.2.1, 6, .inr (.inl (f_KE_addPolynomial_SH a b base modulus order shares checks)))), (ch, .inl (G.2.2.2.1, 6, .inr (.inl (f_KE_addPolynomial_CH a b base modulus order shares checks))))]) (va_A [(k, .inr (1, [.ref sh, .ref ch, .int dealt, .long epoch, .long base, .long whole, .long signing, .long pp, .long qq, .long modulus, .long order])), (sh, .inl (G.2.2.2.1, 6, .inr (.inl shares))), (ch, .inl (G.2.2.2.1, 6, .inr (.inl checks)))] H.size) := by
  refine xc_ofW (by decide) ?_
  intro p e s m args below meth c s₁ B hml hE hv
  obtain ⟨rfl, rfl, hw⟩ := hv
  have hx := B.exec
  have hb := B.bytes
  have ht := B.returns
  have hl0 := B.notSynchronized
  have S : xc_Fix p m c b_KE_addPolynomial 8 s "SealTrust$Key" := ⟨hx, hb, hml, findClass_of_methodNamed B.named⟩
  have hD := hD0.self (sz := s.heap.size)
  generalize hAe : va_A [(k, .inr (1, [.ref sh, .ref ch, .int dealt, .long epoch, .long base, .long whole, .long signing, .long pp, .long qq, .long modulus, .long order])), (sh, .inl (G.2.2.2.1, 6, .inr (.inl shares))), (ch, .inl (G.2.2.2.1, 6, .inr (.inl checks)))] s.heap.size = A at hD ⊢
  have hA : ∀ q : Nat, s.heap.size ≤ q → A q := fun q h => by rw [← hAe]; exact Or.inr h
  have hS : va_S A s.heap s.heap [] := va_S.rf
  have hl := lv_entry ([.ref k, .long a, .long b]) (n := 8) (Nat.le_of_ble_eq_true rfl)
  rw [lg_entry_eq]
  generalize (lg_sl ([.ref k, .long a, .long b]) ++ List.replicate (8 - (lg_sl ([.ref k, .long a, .long b])).length) Slot.unset).toArray = ls at hl ⊢
  have hl : lv_has ls 8 [(0, .ref k), (1, .long a), (3, .long b)] := hl
  obtain ⟨r0, hr0⟩ : ∃ r, f_KE_addPolynomial_SH a b base modulus order shares checks = r := ⟨_, rfl⟩
  rw [hr0]
  unfold f_KE_addPolynomial_SH at hr0
  obtain ⟨r1, hr1⟩ : ∃ r, f_KE_addPolynomial_CH a b base modulus order shares checks = r := ⟨_, rfl⟩
  rw [hr1]
  unfold f_KE_addPolynomial_CH at hr1
  refine lv_iconst (v := (0 : Int32)) hx hb d_KE_addPolynomial_0 (by decide) ?_
  refine lv_istore hx hb d_KE_addPolynomial_1 hl (by decide) rfl (fun ls hl => ?_)
  have hl : lv_has ls 8 [(5, .int (0 : Int32)), (0, .ref k), (1, .long a), (3, .long b)] := hl
  exact wl_KE_addPolynomial_3 (k := k) (a := a) (b := b) (sh := sh) (ch := ch) (dealt := dealt) (epoch := epoch) (base := base) (whole := whole) (signing := signing) (pp := pp) (qq := qq) (modulus := modulus) (order := order) (shares := shares) (checks := checks) hg hw S hl0 ht hA  7 (0 : Int32) shares checks r0 r1 ls s.heap [] hr0 hr1 (by decide) (lv_sub hl [0, 1, 2, 3] rfl) hP hD hS
def f_KE_makePartial_PW (trustee : Int32) (shares : Nat → Int64) (block : Int64) (epoch : Int64) (base : Int64) (checks : Nat → Int64) (modulus : Int64) (powers : Nat → Int64) : Nat → Int64 := f_MO_takePartial_PW trustee (f_KE_power block ((1440 : Int64) * (shares trustee.toNatClampNeg)) modulus) powers
def f_KE_makePartial_CG (trustee : Int32) (shares : Nat → Int64) (block : Int64) (epoch : Int64) (base : Int64) (checks : Nat → Int64) (modulus : Int64) (challenges : Nat → Int32) : Nat → Int32 := f_MO_takePartial_CG trustee (f_KE_challenge trustee (f_KE_power block (2880 : Int64) modulus) (f_KE_times (f_KE_power block ((1440 : Int64) * (shares trustee.toNatClampNeg)) modulus) (f_KE_power block ((1440 : Int64) * (shares trustee.toNatClampNeg)) modulus) modulus) (f_KE_power base (f_ST_mixOf (f_ST_mixIn (f_ST_mixIn (f_ST_mixIn (7 : Int64) (shares trustee.toNatClampNeg)) block) epoch)) modulus) (f_KE_power (f_KE_power block (2880 : Int64) modulus) (f_ST_mixOf (f_ST_mixIn (f_ST_mixIn (f_ST_mixIn (7 : Int64) (shares trustee.toNatClampNeg)) block) epoch)) modulus) base checks) challenges
def f_KE_makePartial_AN (trustee : Int32) (shares : Nat → Int64) (block : Int64) (epoch : Int64) (base : Int64) (checks : Nat → Int64) (modulus : Int64) (answers : Nat → Int64) : Nat → Int64 := f_MO_takePartial_AN trustee (((shares trustee.toNatClampNeg) * ((f_KE_challenge trustee (f_KE_power block (2880 : Int64) modulus) (f_KE_times (f_KE_power block ((1440 : Int64) * (shares trustee.toNatClampNeg)) modulus) (f_KE_power block ((1440 : Int64) * (shares trustee.toNatClampNeg)) modulus) modulus) (f_KE_power base (f_ST_mixOf (f_ST_mixIn (f_ST_mixIn (f_ST_mixIn (7 : Int64) (shares trustee.toNatClampNeg)) block) epoch)) modulus) (f_KE_power (f_KE_power block (2880 : Int64) modulus) (f_ST_mixOf (f_ST_mixIn (f_ST_mixIn (f_ST_mixIn (7 : Int64) (shares trustee.toNatClampNeg)) block) epoch)) modulus) base checks).toInt64)) + (f_ST_mixOf (f_ST_mixIn (f_ST_mixIn (f_ST_mixIn (7 : Int64) (shares trustee.toNatClampNeg)) block) epoch))) answers
def f_KE_makePartial_partials (trustee : Int32) (partials : Int32) : Int32 := f_MO_takePartial_partials trustee partials
set_option maxHeartbeats 4000000 in
set_option maxRecDepth 100000 in
theorem ct_KE_makePartial (l : Launch) {G : xg_G} (hg : xg_F G) (H : Heap) (k : Nat) (mo : Nat) (trustee : Int32) (sh : Nat) (ch : Nat) (dealt : Int32) (epoch : Int64) (base : Int64) (whole : Int64) (signing : Int64) (pp : Int64) (qq : Int64) (modulus : Int64) (order : Int64) (shares : Nat → Int64) (checks : Nat → Int64) (pw : Nat) (cg : Nat) (an : Nat) (standing : Int32) (block : Int64) (partials : Int32) (objections : Int32) (signature : Int64) (powers : Nat → Int64) (challenges : Nat → Int32) (answers : Nat → Int64) (hP : va_P G.2.1 cl_all [(k, .inr (1, [.ref sh, .ref ch, .int dealt, .long epoch, .long base, .long whole, .long signing, .long pp, .long qq, .long modulus, .long order])), (sh, .inl (G.2.2.2.1, 6, .inr (.inl shares))), (ch, .inl (G.2.2.2.1, 6, .inr (.inl checks))), (mo, .inr (2, [.ref pw, .ref cg, .ref an, .int standing, .long block, .int partials, .int objections, .long signature])), (pw, .inl (G.2.2.2.1, 6, .inr (.inl powers))), (cg, .inl (G.2.2.1, 6, .inl challenges)), (an, .inl (G.2.2.2.1, 6, .inr (.inl answers)))] H) (hD0 : va_D (fun _ => True) [(k, .inr (1, [.ref sh, .ref ch, .int dealt, .long epoch, .long base, .long whole, .long signing, .long pp, .long qq, .long modulus, .long order])), (sh, .inl (G.2.2.2.1, 6, .inr (.inl shares))), (ch, .inl (G.2.2.2.1, 6, .inr (.inl checks))), (mo, .inr (2, [.ref pw, .ref cg, .ref an, .int standing, .long block, .int partials, .int objections, .long signature])), (pw, .inl (G.2.2.2.1, 6, .inr (.inl powers))), (cg, .inl (G.2.2.1, 6, .inl challenges)), (an, .inl (G.2.2.2.1, 6, .inr (.inl answers)))]) (hT : vp_in trustee 6) : xc_Met l y_KE_makePartial (.code y_KE_makePartial b_KE_makePartial 14 none) ({ frames := 3, cells := 0, slots := 0, locals := 65 } : Room) (xg_Pc G [.ref k, .ref mo, .int trustee] H) (xw_post G (va_A [(k, .inr (1, [.ref sh, .ref ch, .int dealt, .long epoch, .long base, .long whole, .long signing, .long pp, .long qq, .long modulus, .long order])), (sh, .inl (G.2.2.2.1, 6, .inr (.inl shares))), (ch, .inl (G.2.2.2.1, 6, .inr (.inl checks))), (mo, .inr (2, [.ref pw, .ref cg, .ref an, .int standing, .long block, .int partials, .int objections, .long signature])), (pw, .inl (G.2.2.2.1, 6, .inr (.inl powers))), (cg, .inl (G.2.2.1, 6, .inl challenges)), (an, .inl (G.2.2.2.1, 6, .inr (.inl answers)))] H.size) none [(k, .inr (1, [.ref sh, .ref ch, .int dealt, .long epoch, .long base, .long whole, .long signing, .long pp, .long qq, .long modulus, .long order])), (sh, .inl (G.2.2.2.1, 6, .inr (.inl shares))), (ch, .inl (G.2.2.2.1, 6, .inr (.inl checks))), (mo, .inr (2, [.ref pw, .ref cg, .ref an, .int standing, .long block, .int (f_KE_makePartial_partials trustee partials), .int objections, .long signature])), (pw, .inl (G.2.2.2.1, 6, .inr (.inl (f_KE_makePartial_PW trustee shares block epoch base checks modulus powers)))), (cg, .inl (G.2.2.1, 6, .inl (f_KE_makePartial_CG trustee shares block epoch base checks modulus challenges))), (an, .inl (G.2.2.2.1, 6, .inr (.inl (f_KE_makePartial_AN trustee shares block epoch base checks modulus answers))))]) (va_A [(k, .inr (1, [.ref sh, .ref ch, .int dealt, .long epoch, .long base, .long whole, .long signing, .long pp, .long qq, .long modulus, .long order])), (sh, .inl (G.2.2.2.1, 6, .inr (.inl shares))), (ch, .inl (G.2.2.2.1, 6, .inr (.inl checks))), (mo, .inr (2, [.ref pw, .ref cg, .ref an, .int standing, .long block, .int partials, .int objections, .long signature])), (pw, .inl (G.2.2.2.1, 6, .inr (.inl powers))), (cg, .inl (G.2.2.1, 6, .inl challenges)), (an, .inl (G.2.2.2.1, 6, .inr (.inl answers)))] H.size) := by
  refine xc_ofW (by decide) ?_
  intro p e s m args below meth c s₁ B hml hE hv
  obtain ⟨rfl, rfl, hw⟩ := hv
  have hx := B.exec
  have hb := B.bytes
  have ht := B.returns
  have hl0 := B.notSynchronized
  have S : xc_Fix p m c b_KE_makePartial 14 s "SealTrust$Key" := ⟨hx, hb, hml, findClass_of_methodNamed B.named⟩
  have hD := hD0.self (sz := s.heap.size)
  generalize hAe : va_A [(k, .inr (1, [.ref sh, .ref ch, .int dealt, .long epoch, .long base, .long whole, .long signing, .long pp, .long qq, .long modulus, .long order])), (sh, .inl (G.2.2.2.1, 6, .inr (.inl shares))), (ch, .inl (G.2.2.2.1, 6, .inr (.inl checks))), (mo, .inr (2, [.ref pw, .ref cg, .ref an, .int standing, .long block, .int partials, .int objections, .long signature])), (pw, .inl (G.2.2.2.1, 6, .inr (.inl powers))), (cg, .inl (G.2.2.1, 6, .inl challenges)), (an, .inl (G.2.2.2.1, 6, .inr (.inl answers)))] s.heap.size = A at hD ⊢
  have hA : ∀ q : Nat, s.heap.size ≤ q → A q := fun q h => by rw [← hAe]; exact Or.inr h
  have hS : va_S A s.heap s.heap [] := va_S.rf
  have hl := lv_entry ([.ref k, .ref mo, .int trustee]) (n := 14) (Nat.le_of_ble_eq_true rfl)
  rw [lg_entry_eq]
  generalize (lg_sl ([.ref k, .ref mo, .int trustee]) ++ List.replicate (14 - (lg_sl ([.ref k, .ref mo, .int trustee])).length) Slot.unset).toArray = ls at hl ⊢
  have hl : lv_has ls 14 [(0, .ref k), (1, .ref mo), (2, .int trustee)] := hl
  obtain ⟨r0, hr0⟩ : ∃ r, f_KE_makePartial_PW trustee shares block epoch base checks modulus powers = r := ⟨_, rfl⟩
  rw [hr0]
  unfold f_KE_makePartial_PW at hr0
  obtain ⟨r1, hr1⟩ : ∃ r, f_KE_makePartial_CG trustee shares block epoch base checks modulus challenges = r := ⟨_, rfl⟩
  rw [hr1]
  unfold f_KE_makePartial_CG at hr1
  obtain ⟨r2, hr2⟩ : ∃ r, f_KE_makePartial_AN trustee shares block epoch base checks modulus answers = r := ⟨_, rfl⟩
  rw [hr2]
  unfold f_KE_makePartial_AN at hr2
  obtain ⟨r3, hr3⟩ : ∃ r, f_KE_makePartial_partials trustee partials = r := ⟨_, rfl⟩
  rw [hr3]
  unfold f_KE_makePartial_partials at hr3
  refine lv_aload_n hx hb d_KE_makePartial_0 rfl (lv_at hl 0 rfl) ?_
  refine gf_KE_9 hg hw S hP 0 rfl rfl d_KE_makePartial_1 ?_
  refine lv_iload_n hx hb d_KE_makePartial_4 rfl (lv_at hl 2 rfl) ?_
  refine va_lald hx hb (xg_k hg hw) hP 1 1 rfl rfl hT d_KE_makePartial_5 ?_
  refine lv_lstore_n hx hb d_KE_makePartial_6 rfl hl (by decide) rfl (fun ls hl => ?_)
  have hl : lv_has ls 14 [(3, .long (shares trustee.toNatClampNeg)), (0, .ref k), (1, .ref mo), (2, .int trustee)] := hl
  refine lv_aload_n hx hb d_KE_makePartial_7 rfl (lv_at hl 2 rfl) ?_
  refine gf_KE_74 hg hw S hP 3 rfl rfl d_KE_makePartial_8 ?_
  refine lv_lstore hx hb d_KE_makePartial_11 hl (by decide) rfl (fun ls hl => ?_)
  have hl : lv_has ls 14 [(5, .long block), (3, .long (shares trustee.toNatClampNeg)), (0, .ref k), (1, .ref mo), (2, .int trustee)] := hl
  refine kc_KE_79 hg hw S d_KE_makePartial_13 ?_
  refine lv_lload_n hx hb d_KE_makePartial_16 rfl (lv_at hl 1 rfl) ?_
  refine xg_read (xg_runSN (rest := []) (kw := 0) si_KE_81 hg hw S (ct_ST_mixIn l hg s.heap (7 : Int64) (shares trustee.toNatClampNeg) ) ⟨by decide, by decide, by decide, by decide⟩ rfl hl.1 rfl (Nat.le_of_ble_eq_true rfl) d_KE_makePartial_17) ?_
  refine lv_lload hx hb d_KE_makePartial_20 (lv_at hl 0 rfl) ?_
  refine xg_read (xg_runSN (rest := []) (kw := 0) si_KE_81 hg hw S (ct_ST_mixIn l hg s.heap (f_ST_mixIn (7 : Int64) (shares trustee.toNatClampNeg)) block ) ⟨by decide, by decide, by decide, by decide⟩ rfl hl.1 rfl (Nat.le_of_ble_eq_true rfl) d_KE_makePartial_22) ?_
  refine lv_aload_n hx hb d_KE_makePartial_25 rfl (lv_at hl 2 rfl) ?_
  refine gf_KE_52 hg hw S hP 0 rfl rfl d_KE_makePartial_26 ?_
  refine xg_read (xg_runSN (rest := []) (kw := 0) si_KE_81 hg hw S (ct_ST_mixIn l hg s.heap (f_ST_mixIn (f_ST_mixIn (7 : Int64) (shares trustee.toNatClampNeg)) block) epoch ) ⟨by decide, by decide, by decide, by decide⟩ rfl hl.1 rfl (Nat.le_of_ble_eq_true rfl) d_KE_makePartial_29) ?_
  refine xg_read (xg_runSN (rest := []) (kw := 0) si_KE_84 hg hw S (ct_ST_mixOf l hg s.heap (f_ST_mixIn (f_ST_mixIn (f_ST_mixIn (7 : Int64) (shares trustee.toNatClampNeg)) block) epoch) ) ⟨by decide, by decide, by decide, by decide⟩ rfl hl.1 rfl (Nat.le_of_ble_eq_true rfl) d_KE_makePartial_32) ?_
  refine lv_lstore hx hb d_KE_makePartial_35 hl (by decide) rfl (fun ls hl => ?_)
  have hl : lv_has ls 14 [(7, .long (f_ST_mixOf (f_ST_mixIn (f_ST_mixIn (f_ST_mixIn (7 : Int64) (shares trustee.toNatClampNeg)) block) epoch))), (5, .long block), (3, .long (shares trustee.toNatClampNeg)), (0, .ref k), (1, .ref mo), (2, .int trustee)] := hl
  refine lv_aload_n hx hb d_KE_makePartial_37 rfl (lv_at hl 3 rfl) ?_
  refine lv_lload hx hb d_KE_makePartial_38 (lv_at hl 1 rfl) ?_
  refine kc_KE_88 hg hw S d_KE_makePartial_40 ?_
  refine lv_lload_n hx hb d_KE_makePartial_43 rfl (lv_at hl 2 rfl) ?_
  refine lv_lmul hx hb d_KE_makePartial_44 ?_
  refine xg_read (xg_runV (rest := []) (kw := 0) si_KE_59 hg hw S (va_recv (xg_k hg hw) hP (ci := 1) rfl (q0 := 0) rfl) (ct_KE_power l hg s.heap k block ((1440 : Int64) * (shares trustee.toNatClampNeg)) sh ch dealt epoch base whole signing pp qq modulus order (hP.sub [0] rfl) ) ⟨by decide, by decide, by decide, by decide⟩ rfl hl.1 rfl (Nat.le_of_ble_eq_true rfl) d_KE_makePartial_45) ?_
  refine lv_lstore hx hb d_KE_makePartial_48 hl (by decide) rfl (fun ls hl => ?_)
  have hl : lv_has ls 14 [(9, .long (f_KE_power block ((1440 : Int64) * (shares trustee.toNatClampNeg)) modulus)), (7, .long (f_ST_mixOf (f_ST_mixIn (f_ST_mixIn (f_ST_mixIn (7 : Int64) (shares trustee.toNatClampNeg)) block) epoch))), (5, .long block), (3, .long (shares trustee.toNatClampNeg)), (0, .ref k), (1, .ref mo), (2, .int trustee)] := hl
  refine lv_aload_n hx hb d_KE_makePartial_50 rfl (lv_at hl 4 rfl) ?_
  refine lv_lload hx hb d_KE_makePartial_51 (lv_at hl 2 rfl) ?_
  refine kc_KE_90 hg hw S d_KE_makePartial_53 ?_
  refine xg_read (xg_runV (rest := []) (kw := 0) si_KE_59 hg hw S (va_recv (xg_k hg hw) hP (ci := 1) rfl (q0 := 0) rfl) (ct_KE_power l hg s.heap k block (2880 : Int64) sh ch dealt epoch base whole signing pp qq modulus order (hP.sub [0] rfl) ) ⟨by decide, by decide, by decide, by decide⟩ rfl hl.1 rfl (Nat.le_of_ble_eq_true rfl) d_KE_makePartial_56) ?_
  refine lv_lstore hx hb d_KE_makePartial_59 hl (by decide) rfl (fun ls hl => ?_)
  have hl : lv_has ls 14 [(11, .long (f_KE_power block (2880 : Int64) modulus)), (9, .long (f_KE_power block ((1440 : Int64) * (shares trustee.toNatClampNeg)) modulus)), (7, .long (f_ST_mixOf (f_ST_mixIn (f_ST_mixIn (f_ST_mixIn (7 : Int64) (shares trustee.toNatClampNeg)) block) epoch))), (5, .long block), (3, .long (shares trustee.toNatClampNeg)), (0, .ref k), (1, .ref mo), (2, .int trustee)] := hl
  refine lv_aload_n hx hb d_KE_makePartial_61 rfl (lv_at hl 5 rfl) ?_
  refine lv_iload_n hx hb d_KE_makePartial_62 rfl (lv_at hl 7 rfl) ?_
  refine lv_lload hx hb d_KE_makePartial_63 (lv_at hl 0 rfl) ?_
  refine lv_aload_n hx hb d_KE_makePartial_65 rfl (lv_at hl 5 rfl) ?_
  refine lv_lload hx hb d_KE_makePartial_66 (lv_at hl 1 rfl) ?_
  refine lv_lload hx hb d_KE_makePartial_68 (lv_at hl 1 rfl) ?_
  refine xg_read (xg_runV (rest := [.long (f_KE_power block (2880 : Int64) modulus), .int trustee, .ref k]) (kw := 4) si_KE_92 hg hw S (va_recv (xg_k hg hw) hP (ci := 1) rfl (q0 := 0) rfl) (ct_KE_times l hg s.heap k (f_KE_power block ((1440 : Int64) * (shares trustee.toNatClampNeg)) modulus) (f_KE_power block ((1440 : Int64) * (shares trustee.toNatClampNeg)) modulus) sh ch dealt epoch base whole signing pp qq modulus order (hP.sub [0] rfl) ) ⟨by decide, by decide, by decide, by decide⟩ rfl hl.1 rfl (Nat.le_of_ble_eq_true rfl) d_KE_makePartial_70) ?_
  refine lv_aload_n hx hb d_KE_makePartial_73 rfl (lv_at hl 5 rfl) ?_
  refine lv_aload_n hx hb d_KE_makePartial_74 rfl (lv_at hl 5 rfl) ?_
  refine gf_KE_49 hg hw S hP 0 rfl rfl d_KE_makePartial_75 ?_
  refine lv_lload hx hb d_KE_makePartial_78 (lv_at hl 2 rfl) ?_
  refine xg_read (xg_runV (rest := [.long (f_KE_times (f_KE_power block ((1440 : Int64) * (shares trustee.toNatClampNeg)) modulus) (f_KE_power block ((1440 : Int64) * (shares trustee.toNatClampNeg)) modulus) modulus), .long (f_KE_power block (2880 : Int64) modulus), .int trustee, .ref k]) (kw := 6) si_KE_59 hg hw S (va_recv (xg_k hg hw) hP (ci := 1) rfl (q0 := 0) rfl) (ct_KE_power l hg s.heap k base (f_ST_mixOf (f_ST_mixIn (f_ST_mixIn (f_ST_mixIn (7 : Int64) (shares trustee.toNatClampNeg)) block) epoch)) sh ch dealt epoch base whole signing pp qq modulus order (hP.sub [0] rfl) ) ⟨by decide, by decide, by decide, by decide⟩ rfl hl.1 rfl (Nat.le_of_ble_eq_true rfl) d_KE_makePartial_80) ?_
  refine lv_aload_n hx hb d_KE_makePartial_83 rfl (lv_at hl 5 rfl) ?_
  refine lv_lload hx hb d_KE_makePartial_84 (lv_at hl 0 rfl) ?_
  refine lv_lload hx hb d_KE_makePartial_86 (lv_at hl 2 rfl) ?_
  refine xg_read (xg_runV (rest := [.long (f_KE_power base (f_ST_mixOf (f_ST_mixIn (f_ST_mixIn (f_ST_mixIn (7 : Int64) (shares trustee.toNatClampNeg)) block) epoch)) modulus), .long (f_KE_times (f_KE_power block ((1440 : Int64) * (shares trustee.toNatClampNeg)) modulus) (f_KE_power block ((1440 : Int64) * (shares trustee.toNatClampNeg)) modulus) modulus), .long (f_KE_power block (2880 : Int64) modulus), .int trustee, .ref k]) (kw := 8) si_KE_59 hg hw S (va_recv (xg_k hg hw) hP (ci := 1) rfl (q0 := 0) rfl) (ct_KE_power l hg s.heap k (f_KE_power block (2880 : Int64) modulus) (f_ST_mixOf (f_ST_mixIn (f_ST_mixIn (f_ST_mixIn (7 : Int64) (shares trustee.toNatClampNeg)) block) epoch)) sh ch dealt epoch base whole signing pp qq modulus order (hP.sub [0] rfl) ) ⟨by decide, by decide, by decide, by decide⟩ rfl hl.1 rfl (Nat.le_of_ble_eq_true rfl) d_KE_makePartial_88) ?_
  refine xg_read (xg_runV (rest := []) (kw := 0) si_KE_95 hg hw S (va_recv (xg_k hg hw) hP (ci := 1) rfl (q0 := 0) rfl) (ct_KE_challenge l hg s.heap k trustee (f_KE_power block (2880 : Int64) modulus) (f_KE_times (f_KE_power block ((1440 : Int64) * (shares trustee.toNatClampNeg)) modulus) (f_KE_power block ((1440 : Int64) * (shares trustee.toNatClampNeg)) modulus) modulus) (f_KE_power base (f_ST_mixOf (f_ST_mixIn (f_ST_mixIn (f_ST_mixIn (7 : Int64) (shares trustee.toNatClampNeg)) block) epoch)) modulus) (f_KE_power (f_KE_power block (2880 : Int64) modulus) (f_ST_mixOf (f_ST_mixIn (f_ST_mixIn (f_ST_mixIn (7 : Int64) (shares trustee.toNatClampNeg)) block) epoch)) modulus) sh ch dealt epoch base whole signing pp qq modulus order checks (hP.sub [0, 2] rfl) hT) ⟨by decide, by decide, by decide, by decide⟩ rfl hl.1 rfl (Nat.le_of_ble_eq_true rfl) d_KE_makePartial_91) ?_
  refine lv_istore hx hb d_KE_makePartial_94 hl (by decide) rfl (fun ls hl => ?_)
  have hl : lv_has ls 14 [(13, .int (f_KE_challenge trustee (f_KE_power block (2880 : Int64) modulus) (f_KE_times (f_KE_power block ((1440 : Int64) * (shares trustee.toNatClampNeg)) modulus) (f_KE_power block ((1440 : Int64) * (shares trustee.toNatClampNeg)) modulus) modulus) (f_KE_power base (f_ST_mixOf (f_ST_mixIn (f_ST_mixIn (f_ST_mixIn (7 : Int64) (shares trustee.toNatClampNeg)) block) epoch)) modulus) (f_KE_power (f_KE_power block (2880 : Int64) modulus) (f_ST_mixOf (f_ST_mixIn (f_ST_mixIn (f_ST_mixIn (7 : Int64) (shares trustee.toNatClampNeg)) block) epoch)) modulus) base checks)), (11, .long (f_KE_power block (2880 : Int64) modulus)), (9, .long (f_KE_power block ((1440 : Int64) * (shares trustee.toNatClampNeg)) modulus)), (7, .long (f_ST_mixOf (f_ST_mixIn (f_ST_mixIn (f_ST_mixIn (7 : Int64) (shares trustee.toNatClampNeg)) block) epoch))), (5, .long block), (3, .long (shares trustee.toNatClampNeg)), (0, .ref k), (1, .ref mo), (2, .int trustee)] := hl
  refine lv_aload_n hx hb d_KE_makePartial_96 rfl (lv_at hl 7 rfl) ?_
  refine lv_iload_n hx hb d_KE_makePartial_97 rfl (lv_at hl 8 rfl) ?_
  refine lv_lload hx hb d_KE_makePartial_98 (lv_at hl 2 rfl) ?_
  refine lv_iload hx hb d_KE_makePartial_100 (lv_at hl 0 rfl) ?_
  refine lv_lload_n hx hb d_KE_makePartial_102 rfl (lv_at hl 5 rfl) ?_
  refine lv_iload hx hb d_KE_makePartial_103 (lv_at hl 0 rfl) ?_
  refine lv_i2l hx hb d_KE_makePartial_105 rfl ?_
  refine lv_lmul hx hb d_KE_makePartial_106 ?_
  refine lv_lload hx hb d_KE_makePartial_107 (lv_at hl 3 rfl) ?_
  refine lv_ladd hx hb d_KE_makePartial_109 ?_
  refine xw_use (wc := [(mo, .inr (2, [.ref pw, .ref cg, .ref an, .int standing, .long block, .int partials, .int objections, .long signature])), (pw, .inl (G.2.2.2.1, 6, .inr (.inl powers))), (cg, .inl (G.2.2.1, 6, .inl challenges)), (an, .inl (G.2.2.2.1, 6, .inr (.inl answers)))]) (wr := [(k, .inr (1, [.ref sh, .ref ch, .int dealt, .long epoch, .long base, .long whole, .long signing, .long pp, .long qq, .long modulus, .long order])), (sh, .inl (G.2.2.2.1, 6, .inr (.inl shares))), (ch, .inl (G.2.2.2.1, 6, .inr (.inl checks)))]) (xg_runV (rest := []) (kw := 0) si_KE_99 hg hw S (va_recv (xg_k hg hw) hP (ci := 2) rfl (q0 := 3) rfl) (ct_MO_takePartial l hg s.heap mo trustee (f_KE_power block ((1440 : Int64) * (shares trustee.toNatClampNeg)) modulus) (f_KE_challenge trustee (f_KE_power block (2880 : Int64) modulus) (f_KE_times (f_KE_power block ((1440 : Int64) * (shares trustee.toNatClampNeg)) modulus) (f_KE_power block ((1440 : Int64) * (shares trustee.toNatClampNeg)) modulus) modulus) (f_KE_power base (f_ST_mixOf (f_ST_mixIn (f_ST_mixIn (f_ST_mixIn (7 : Int64) (shares trustee.toNatClampNeg)) block) epoch)) modulus) (f_KE_power (f_KE_power block (2880 : Int64) modulus) (f_ST_mixOf (f_ST_mixIn (f_ST_mixIn (f_ST_mixIn (7 : Int64) (shares trustee.toNatClampNeg)) block) epoch)) modulus) base checks) (((shares trustee.toNatClampNeg) * ((f_KE_challenge trustee (f_KE_power block (2880 : Int64) modulus) (f_KE_times (f_KE_power block ((1440 : Int64) * (shares trustee.toNatClampNeg)) modulus) (f_KE_power block ((1440 : Int64) * (shares trustee.toNatClampNeg)) modulus) modulus) (f_KE_power base (f_ST_mixOf (f_ST_mixIn (f_ST_mixIn (f_ST_mixIn (7 : Int64) (shares trustee.toNatClampNeg)) block) epoch)) modulus) (f_KE_power (f_KE_power block (2880 : Int64) modulus) (f_ST_mixOf (f_ST_mixIn (f_ST_mixIn (f_ST_mixIn (7 : Int64) (shares trustee.toNatClampNeg)) block) epoch)) modulus) base checks).toInt64)) + (f_ST_mixOf (f_ST_mixIn (f_ST_mixIn (f_ST_mixIn (7 : Int64) (shares trustee.toNatClampNeg)) block) epoch))) pw cg an standing block partials objections signature powers challenges answers (hP.sub [3, 4, 5, 6] rfl) ((hD.sub [3, 4, 5, 6] (by decide) rfl).weaken (fun _ _ _ _ => trivial)) hT) ⟨by decide, by decide, by decide, by decide⟩ rfl hl.1 rfl (Nat.le_of_ble_eq_true rfl) d_KE_makePartial_110) hP hD hS hA [3, 4, 5, 6] [0, 1, 2] rfl rfl (by decide) (by decide) (fun H1 L1 hP hD hS => ?_)
  have hP : va_P G.2.1 cl_all [(k, .inr (1, [.ref sh, .ref ch, .int dealt, .long epoch, .long base, .long whole, .long signing, .long pp, .long qq, .long modulus, .long order])), (sh, .inl (G.2.2.2.1, 6, .inr (.inl shares))), (ch, .inl (G.2.2.2.1, 6, .inr (.inl checks))), (mo, .inr (2, [.ref pw, .ref cg, .ref an, .int standing, .long block, .int (f_MO_takePartial_partials trustee partials), .int objections, .long signature])), (pw, .inl (G.2.2.2.1, 6, .inr (.inl (f_MO_takePartial_PW trustee (f_KE_power block ((1440 : Int64) * (shares trustee.toNatClampNeg)) modulus) powers)))), (cg, .inl (G.2.2.1, 6, .inl (f_MO_takePartial_CG trustee (f_KE_challenge trustee (f_KE_power block (2880 : Int64) modulus) (f_KE_times (f_KE_power block ((1440 : Int64) * (shares trustee.toNatClampNeg)) modulus) (f_KE_power block ((1440 : Int64) * (shares trustee.toNatClampNeg)) modulus) modulus) (f_KE_power base (f_ST_mixOf (f_ST_mixIn (f_ST_mixIn (f_ST_mixIn (7 : Int64) (shares trustee.toNatClampNeg)) block) epoch)) modulus) (f_KE_power (f_KE_power block (2880 : Int64) modulus) (f_ST_mixOf (f_ST_mixIn (f_ST_mixIn (f_ST_mixIn (7 : Int64) (shares trustee.toNatClampNeg)) block) epoch)) modulus) base checks) challenges))), (an, .inl (G.2.2.2.1, 6, .inr (.inl (f_MO_takePartial_AN trustee (((shares trustee.toNatClampNeg) * ((f_KE_challenge trustee (f_KE_power block (2880 : Int64) modulus) (f_KE_times (f_KE_power block ((1440 : Int64) * (shares trustee.toNatClampNeg)) modulus) (f_KE_power block ((1440 : Int64) * (shares trustee.toNatClampNeg)) modulus) modulus) (f_KE_power base (f_ST_mixOf (f_ST_mixIn (f_ST_mixIn (f_ST_mixIn (7 : Int64) (shares trustee.toNatClampNeg)) block) epoch)) modulus) (f_KE_power (f_KE_power block (2880 : Int64) modulus) (f_ST_mixOf (f_ST_mixIn (f_ST_mixIn (f_ST_mixIn (7 : Int64) (shares trustee.toNatClampNeg)) block) epoch)) modulus) base checks).toInt64)) + (f_ST_mixOf (f_ST_mixIn (f_ST_mixIn (f_ST_mixIn (7 : Int64) (shares trustee.toNatClampNeg)) block) epoch))) answers))))] H1 := hP
  have hD : va_D A [(k, .inr (1, [.ref sh, .ref ch, .int dealt, .long epoch, .long base, .long whole, .long signing, .long pp, .long qq, .long modulus, .long order])), (sh, .inl (G.2.2.2.1, 6, .inr (.inl shares))), (ch, .inl (G.2.2.2.1, 6, .inr (.inl checks))), (mo, .inr (2, [.ref pw, .ref cg, .ref an, .int standing, .long block, .int (f_MO_takePartial_partials trustee partials), .int objections, .long signature])), (pw, .inl (G.2.2.2.1, 6, .inr (.inl (f_MO_takePartial_PW trustee (f_KE_power block ((1440 : Int64) * (shares trustee.toNatClampNeg)) modulus) powers)))), (cg, .inl (G.2.2.1, 6, .inl (f_MO_takePartial_CG trustee (f_KE_challenge trustee (f_KE_power block (2880 : Int64) modulus) (f_KE_times (f_KE_power block ((1440 : Int64) * (shares trustee.toNatClampNeg)) modulus) (f_KE_power block ((1440 : Int64) * (shares trustee.toNatClampNeg)) modulus) modulus) (f_KE_power base (f_ST_mixOf (f_ST_mixIn (f_ST_mixIn (f_ST_mixIn (7 : Int64) (shares trustee.toNatClampNeg)) block) epoch)) modulus) (f_KE_power (f_KE_power block (2880 : Int64) modulus) (f_ST_mixOf (f_ST_mixIn (f_ST_mixIn (f_ST_mixIn (7 : Int64) (shares trustee.toNatClampNeg)) block) epoch)) modulus) base checks) challenges))), (an, .inl (G.2.2.2.1, 6, .inr (.inl (f_MO_takePartial_AN trustee (((shares trustee.toNatClampNeg) * ((f_KE_challenge trustee (f_KE_power block (2880 : Int64) modulus) (f_KE_times (f_KE_power block ((1440 : Int64) * (shares trustee.toNatClampNeg)) modulus) (f_KE_power block ((1440 : Int64) * (shares trustee.toNatClampNeg)) modulus) modulus) (f_KE_power base (f_ST_mixOf (f_ST_mixIn (f_ST_mixIn (f_ST_mixIn (7 : Int64) (shares trustee.toNatClampNeg)) block) epoch)) modulus) (f_KE_power (f_KE_power block (2880 : Int64) modulus) (f_ST_mixOf (f_ST_mixIn (f_ST_mixIn (f_ST_mixIn (7 : Int64) (shares trustee.toNatClampNeg)) block) epoch)) modulus) base checks).toInt64)) + (f_ST_mixOf (f_ST_mixIn (f_ST_mixIn (f_ST_mixIn (7 : Int64) (shares trustee.toNatClampNeg)) block) epoch))) answers))))] := hD
  subst hr0
  subst hr1
  subst hr2
  subst hr3
  exact xw_vret hx hb ht hl0 hP hD hS d_KE_makePartial_113
def f_ST_enter_sealedCount (motion : Int32) (sealedCount : Int32) (sealed : Nat → Int32) : Int32 := if (12 : Int32) ≤ sealedCount then sealedCount else (sealedCount + (1 : Int32))
def f_ST_enter_SE (motion : Int32) (sealedCount : Int32) (sealed : Nat → Int32) : Nat → Int32 := if (12 : Int32) ≤ sealedCount then sealed else (upd sealed sealedCount.toNatClampNeg motion)
set_option maxHeartbeats 4000000 in
set_option maxRecDepth 100000 in
theorem ct_ST_enter (l : Launch) {G : xg_G} (hg : xg_F G) (H : Heap) (x : Nat) (motion : Int32) (k : Nat) (bu : Nat) (ma : Nat) (se : Nat) (motionCount : Int32) (sealedCount : Int32) (suspended : Int32) (sealed : Nat → Int32) (hP : va_P G.2.1 cl_all [(x, .inr (3, [.ref k, .ref bu, .ref ma, .ref se, .int motionCount, .int sealedCount, .int suspended])), (se, .inl (G.2.2.1, 12, .inl sealed))] H) (hD0 : va_D (fun _ => True) [(x, .inr (3, [.ref k, .ref bu, .ref ma, .ref se, .int motionCount, .int sealedCount, .int suspended])), (se, .inl (G.2.2.1, 12, .inl sealed))]) (hC : 0 ≤ sealedCount.toInt) : xc_Met l y_ST_enter (.code y_ST_enter b_ST_enter 2 none) ({ frames := 0, cells := 0, slots := 0, locals := 0 } : Room) (xg_Pc G [.ref x, .int motion] H) (xw_post G (va_A [(x, .inr (3, [.ref k, .ref bu, .ref ma, .ref se, .int motionCount, .int sealedCount, .int suspended])), (se, .inl (G.2.2.1, 12, .inl sealed))] H.size) none [(x, .inr (3, [.ref k, .ref bu, .ref ma, .ref se, .int motionCount, .int (f_ST_enter_sealedCount motion sealedCount sealed), .int suspended])), (se, .inl (G.2.2.1, 12, .inl (f_ST_enter_SE motion sealedCount sealed)))]) (va_A [(x, .inr (3, [.ref k, .ref bu, .ref ma, .ref se, .int motionCount, .int sealedCount, .int suspended])), (se, .inl (G.2.2.1, 12, .inl sealed))] H.size) := by
  refine xc_ofW (by decide) ?_
  intro p e s m args below meth c s₁ B hml hE hv
  obtain ⟨rfl, rfl, hw⟩ := hv
  have hx := B.exec
  have hb := B.bytes
  have ht := B.returns
  have hl0 := B.notSynchronized
  have S : xc_Fix p m c b_ST_enter 2 s "SealTrust" := ⟨hx, hb, hml, findClass_of_methodNamed B.named⟩
  have hD := hD0.self (sz := s.heap.size)
  generalize hAe : va_A [(x, .inr (3, [.ref k, .ref bu, .ref ma, .ref se, .int motionCount, .int sealedCount, .int suspended])), (se, .inl (G.2.2.1, 12, .inl sealed))] s.heap.size = A at hD ⊢
  have hA : ∀ q : Nat, s.heap.size ≤ q → A q := fun q h => by rw [← hAe]; exact Or.inr h
  have hS : va_S A s.heap s.heap [] := va_S.rf
  have hl := lv_entry ([.ref x, .int motion]) (n := 2) (Nat.le_of_ble_eq_true rfl)
  rw [lg_entry_eq]
  generalize (lg_sl ([.ref x, .int motion]) ++ List.replicate (2 - (lg_sl ([.ref x, .int motion])).length) Slot.unset).toArray = ls at hl ⊢
  have hl : lv_has ls 2 [(0, .ref x), (1, .int motion)] := hl
  obtain ⟨r0, hr0⟩ : ∃ r, f_ST_enter_sealedCount motion sealedCount sealed = r := ⟨_, rfl⟩
  rw [hr0]
  unfold f_ST_enter_sealedCount at hr0
  obtain ⟨r1, hr1⟩ : ∃ r, f_ST_enter_SE motion sealedCount sealed = r := ⟨_, rfl⟩
  rw [hr1]
  unfold f_ST_enter_SE at hr1
  refine lv_aload_n hx hb d_ST_enter_0 rfl (lv_at hl 0 rfl) ?_
  refine gf_ST_61 hg hw S hP 0 rfl rfl d_ST_enter_1 ?_
  refine lv_bipush (v := (12 : Int32)) hx hb d_ST_enter_4 (by decide) ?_
  refine lv_icmp_ge hx hb d_ST_enter_6 (tgt := 29) (by decide) (fun h6 => ?_) (fun h6 => ?_)
  · rw [if_pos h6] at hr0
    rw [if_pos h6] at hr1
    subst hr0
    subst hr1
    exact xw_vret hx hb ht hl0 hP hD hS d_ST_enter_29
  · rw [if_neg h6] at hr0
    rw [if_neg h6] at hr1
    refine lv_aload_n hx hb d_ST_enter_9 rfl (lv_at hl 0 rfl) ?_
    refine gf_ST_30 hg hw S hP 0 rfl rfl d_ST_enter_10 ?_
    refine lv_aload_n hx hb d_ST_enter_13 rfl (lv_at hl 0 rfl) ?_
    refine gf_ST_61 hg hw S hP 0 rfl rfl d_ST_enter_14 ?_
    refine lv_iload_n hx hb d_ST_enter_17 rfl (lv_at hl 1 rfl) ?_
    refine va_iast hx hb (xg_k hg hw) hP hD hS 1 0 rfl rfl (xi_in h6 hC (by decide)) d_ST_enter_18 (fun H1 L1 hP hD hS => ?_)
    have hP : va_P G.2.1 cl_all [(x, .inr (3, [.ref k, .ref bu, .ref ma, .ref se, .int motionCount, .int sealedCount, .int suspended])), (se, .inl (G.2.2.1, 12, .inl (upd sealed sealedCount.toNatClampNeg motion)))] H1 := hP
    have hD : va_D A [(x, .inr (3, [.ref k, .ref bu, .ref ma, .ref se, .int motionCount, .int sealedCount, .int suspended])), (se, .inl (G.2.2.1, 12, .inl (upd sealed sealedCount.toNatClampNeg motion)))] := hD
    refine lv_aload_n hx hb d_ST_enter_19 rfl (lv_at hl 0 rfl) ?_
    refine lv_dup hx hb d_ST_enter_20 rfl ?_
    refine gf_ST_61 hg hw S hP 0 rfl rfl d_ST_enter_21 ?_
    refine lv_iconst (v := (1 : Int32)) hx hb d_ST_enter_24 (by decide) ?_
    refine lv_iadd hx hb d_ST_enter_25 ?_
    refine pf_ST_61 hg hw S hP hD hS 0 rfl rfl rfl (Nat.le_of_ble_eq_true rfl) d_ST_enter_26 (fun H2 L2 hP hD hS => ?_)
    have hP : va_P G.2.1 cl_all [(x, .inr (3, [.ref k, .ref bu, .ref ma, .ref se, .int motionCount, .int (sealedCount + (1 : Int32)), .int suspended])), (se, .inl (G.2.2.1, 12, .inl (upd sealed sealedCount.toNatClampNeg motion)))] H2 := hP
    have hD : va_D A [(x, .inr (3, [.ref k, .ref bu, .ref ma, .ref se, .int motionCount, .int (sealedCount + (1 : Int32)), .int suspended])), (se, .inl (G.2.2.1, 12, .inl (upd sealed sealedCount.toNatClampNeg motion)))] := hD
    subst hr0
    subst hr1
    exact xw_vret hx hb ht hl0 hP hD hS d_ST_enter_29
def lf_ST_goodPartials_4 (powers : Nat → Int64) (challenges : Nat → Int32) (answers : Nat → Int64) (block : Int64) (partials : Int32) (base : Int64) (checks : Nat → Int64) (pp : Int64) (qq : Int64) (modulus : Int64) (order : Int64) : Nat → Int32 → Int32 → Int32
  | 0, _, _ => 0
  | n + 1, good, i => if (6 : Int32) ≤ i then good else (if (f_ST_isIn partials i) = 0 then (lf_ST_goodPartials_4 powers challenges answers block partials base checks pp qq modulus order n good (i + (1 : Int32))) else (if (f_KE_isGood i powers challenges answers block base checks pp qq modulus order) = 0 then (lf_ST_goodPartials_4 powers challenges answers block partials base checks pp qq modulus order n good (i + (1 : Int32))) else (lf_ST_goodPartials_4 powers challenges answers block partials base checks pp qq modulus order n (good ||| ((1 : Int32) <<< (i &&& 31))) (i + (1 : Int32)))))
def f_ST_goodPartials (powers : Nat → Int64) (challenges : Nat → Int32) (answers : Nat → Int64) (block : Int64) (partials : Int32) (base : Int64) (checks : Nat → Int64) (pp : Int64) (qq : Int64) (modulus : Int64) (order : Int64) : Int32 := lf_ST_goodPartials_4 powers challenges answers block partials base checks pp qq modulus order 7 (0 : Int32) (0 : Int32)
set_option maxHeartbeats 4000000 in
set_option maxRecDepth 100000 in
theorem wl_ST_goodPartials_4 {p : Program} {l : Launch} {e : Env} {s : State} {m : MethodId} {args : Array Value} {below : List Frame} {meth : Method} {c : Code} {G : xg_G} {x : Nat} {mo : Nat} {k : Nat} {bu : Nat} {ma : Nat} {se : Nat} {motionCount : Int32} {sealedCount : Int32} {suspended : Int32} {sh : Nat} {ch : Nat} {dealt : Int32} {epoch : Int64} {base : Int64} {whole : Int64} {signing : Int64} {pp : Int64} {qq : Int64} {modulus : Int64} {order : Int64} {checks : Nat → Int64} {pw : Nat} {cg : Nat} {an : Nat} {standing : Int32} {block : Int64} {partials : Int32} {objections : Int32} {signature : Int64} {powers : Nat → Int64} {challenges : Nat → Int32} {answers : Nat → Int64} (hg : xg_F G) (hw : G.1.WarmedH s.vm) (S : xc_Fix p m c b_ST_goodPartials 4 s "SealTrust") (hP : va_P G.2.1 cl_all [(x, .inr (3, [.ref k, .ref bu, .ref ma, .ref se, .int motionCount, .int sealedCount, .int suspended])), (k, .inr (1, [.ref sh, .ref ch, .int dealt, .long epoch, .long base, .long whole, .long signing, .long pp, .long qq, .long modulus, .long order])), (ch, .inl (G.2.2.2.1, 6, .inr (.inl checks))), (mo, .inr (2, [.ref pw, .ref cg, .ref an, .int standing, .long block, .int partials, .int objections, .long signature])), (pw, .inl (G.2.2.2.1, 6, .inr (.inl powers))), (cg, .inl (G.2.2.1, 6, .inl challenges)), (an, .inl (G.2.2.2.1, 6, .inr (.inl answers)))] s.heap) (hl0 : meth.locks = false) (ht : meth.sig.returnType = (some .int))  : ∀ (n : Nat) (good : Int32) (i : Int32) (r : Int32) (ls : Array Slot), lf_ST_goodPartials_4 powers challenges answers block partials base checks pp qq modulus order n good i = r → (0 ≤ i.toInt ∧ ((6 : Int32).toInt - i.toInt).toNat < n) → lv_has ls 4 [(3, .int i), (2, .int good), (0, .ref x), (1, .ref mo)] → W p l e ({ frames := 5, cells := 0, slots := 0, locals := 103 } : Room) s m args below meth c s.heap [] 0 0 (xg_Z below (some (.int r)) args s) (F0 m 4 ls []) := by
  have hx := S.1
  have hb := S.2.1
  intro n
  induction n with
  | zero =>
    intro good i r ls hr hmu hl
    omega
  | succ n ih =>
    intro good i r ls hr hmu hl
    rw [lf_ST_goodPartials_4] at hr
    refine lv_iload_n hx hb d_ST_goodPartials_4 rfl (lv_at hl 0 rfl) ?_
    refine lv_bipush (v := (6 : Int32)) hx hb d_ST_goodPartials_5 (by decide) ?_
    refine lv_icmp_ge hx hb d_ST_goodPartials_7 (tgt := 45) (by decide) (fun h7 => ?_) (fun h7 => ?_)
    · rw [if_pos h7] at hr
      refine lv_iload_n hx hb d_ST_goodPartials_45 rfl (lv_at hl 1 rfl) ?_
      exact xg_iret hx hb ht hl0 hr d_ST_goodPartials_46
    · rw [if_neg h7] at hr
      refine lv_aload_n hx hb d_ST_goodPartials_10 rfl (lv_at hl 3 rfl) ?_
      refine gf_ST_135 hg hw S hP 3 rfl rfl d_ST_goodPartials_11 ?_
      refine lv_iload_n hx hb d_ST_goodPartials_14 rfl (lv_at hl 0 rfl) ?_
      refine xg_read (xg_runS (rest := []) (kw := 0) si_ST_114 hg hw S (ct_ST_isIn l hg s.heap partials i ) ⟨by decide, by decide, by decide, by decide⟩ rfl hl.1 rfl (Nat.le_of_ble_eq_true rfl) d_ST_goodPartials_15) ?_
      refine lv_if_eq hx hb d_ST_goodPartials_18 (tgt := 39) (by decide) (fun h18 => ?_) (fun h18 => ?_)
      · rw [if_pos h18] at hr
        refine lv_iinc (v := i + (1 : Int32)) hx hb d_ST_goodPartials_39 hl (k := 0) rfl rfl (by decide) rfl (fun ls hl => ?_)
        have hl : lv_has ls 4 [(3, .int (i + (1 : Int32))), (2, .int good), (0, .ref x), (1, .ref mo)] := hl
        refine lv_goto hx hb d_ST_goodPartials_42 (tgt := 4) (by decide) ?_
        exact ih good (i + (1 : Int32)) r ls hr (xi_up0 h7 hmu) (lv_sub hl [0, 1, 2, 3] rfl)
      · rw [if_neg h18] at hr
        refine lv_aload_n hx hb d_ST_goodPartials_21 rfl (lv_at hl 2 rfl) ?_
        refine gf_ST_10 hg hw S hP 0 rfl rfl d_ST_goodPartials_22 ?_
        refine lv_aload_n hx hb d_ST_goodPartials_25 rfl (lv_at hl 3 rfl) ?_
        refine lv_iload_n hx hb d_ST_goodPartials_26 rfl (lv_at hl 0 rfl) ?_
        refine xg_read (xg_runV (rest := []) (kw := 0) si_ST_242 hg hw S (va_recv (xg_k hg hw) hP (ci := 1) rfl (q0 := 1) rfl) (ct_KE_isGood l hg s.heap k mo i sh ch dealt epoch base whole signing pp qq modulus order checks pw cg an standing block partials objections signature powers challenges answers (hP.sub [1, 2, 3, 4, 5, 6] rfl) (xi_in h7 hmu.1 (by decide))) ⟨by decide, by decide, by decide, by decide⟩ rfl hl.1 rfl (Nat.le_of_ble_eq_true rfl) d_ST_goodPartials_27) ?_
        refine lv_if_eq hx hb d_ST_goodPartials_30 (tgt := 39) (by decide) (fun h30 => ?_) (fun h30 => ?_)
        · rw [if_pos h30] at hr
          refine lv_iinc (v := i + (1 : Int32)) hx hb d_ST_goodPartials_39 hl (k := 0) rfl rfl (by decide) rfl (fun ls hl => ?_)
          have hl : lv_has ls 4 [(3, .int (i + (1 : Int32))), (2, .int good), (0, .ref x), (1, .ref mo)] := hl
          refine lv_goto hx hb d_ST_goodPartials_42 (tgt := 4) (by decide) ?_
          exact ih good (i + (1 : Int32)) r ls hr (xi_up0 h7 hmu) (lv_sub hl [0, 1, 2, 3] rfl)
        · rw [if_neg h30] at hr
          refine lv_iload_n hx hb d_ST_goodPartials_33 rfl (lv_at hl 1 rfl) ?_
          refine lv_iconst (v := (1 : Int32)) hx hb d_ST_goodPartials_34 (by decide) ?_
          refine lv_iload_n hx hb d_ST_goodPartials_35 rfl (lv_at hl 0 rfl) ?_
          refine lv_ishl hx hb d_ST_goodPartials_36 ?_
          refine lv_ior hx hb d_ST_goodPartials_37 ?_
          refine lv_istore_n hx hb d_ST_goodPartials_38 rfl hl (by decide) rfl (fun ls hl => ?_)
          have hl : lv_has ls 4 [(2, .int (good ||| ((1 : Int32) <<< (i &&& 31)))), (3, .int i), (0, .ref x), (1, .ref mo)] := hl
          refine lv_iinc (v := i + (1 : Int32)) hx hb d_ST_goodPartials_39 hl (k := 1) rfl rfl (by decide) rfl (fun ls hl => ?_)
          have hl : lv_has ls 4 [(3, .int (i + (1 : Int32))), (2, .int (good ||| ((1 : Int32) <<< (i &&& 31)))), (0, .ref x), (1, .ref mo)] := hl
          refine lv_goto hx hb d_ST_goodPartials_42 (tgt := 4) (by decide) ?_
          exact ih (good ||| ((1 : Int32) <<< (i &&& 31))) (i + (1 : Int32)) r ls hr (xi_up0 h7 hmu) (lv_sub hl [0, 1, 2, 3] rfl)
set_option maxHeartbeats 4000000 in
set_option maxRecDepth 100000 in
theorem ct_ST_goodPartials (l : Launch) {G : xg_G} (hg : xg_F G) (H : Heap) (x : Nat) (mo : Nat) (k : Nat) (bu : Nat) (ma : Nat) (se : Nat) (motionCount : Int32) (sealedCount : Int32) (suspended : Int32) (sh : Nat) (ch : Nat) (dealt : Int32) (epoch : Int64) (base : Int64) (whole : Int64) (signing : Int64) (pp : Int64) (qq : Int64) (modulus : Int64) (order : Int64) (checks : Nat → Int64) (pw : Nat) (cg : Nat) (an : Nat) (standing : Int32) (block : Int64) (partials : Int32) (objections : Int32) (signature : Int64) (powers : Nat → Int64) (challenges : Nat → Int32) (answers : Nat → Int64) (hP : va_P G.2.1 cl_all [(x, .inr (3, [.ref k, .ref bu, .ref ma, .ref se, .int motionCount, .int sealedCount, .int suspended])), (k, .inr (1, [.ref sh, .ref ch, .int dealt, .long epoch, .long base, .long whole, .long signing, .long pp, .long qq, .long modulus, .long order])), (ch, .inl (G.2.2.2.1, 6, .inr (.inl checks))), (mo, .inr (2, [.ref pw, .ref cg, .ref an, .int standing, .long block, .int partials, .int objections, .long signature])), (pw, .inl (G.2.2.2.1, 6, .inr (.inl powers))), (cg, .inl (G.2.2.1, 6, .inl challenges)), (an, .inl (G.2.2.2.1, 6, .inr (.inl answers)))] H)  : xc_Met l y_ST_goodPartials (.code y_ST_goodPartials b_ST_goodPartials 4 (some .int)) ({ frames := 5, cells := 0, slots := 0, locals := 103 } : Room) (xg_Pc G [.ref x, .ref mo] H) (xc_ro (some (.int (f_ST_goodPartials powers challenges answers block partials base checks pp qq modulus order))) H) (fun _ => False) := by
  refine xc_ofW (by decide) ?_
  intro p e s m args below meth c s₁ B hml hE hv
  obtain ⟨rfl, rfl, hw⟩ := hv
  have hx := B.exec
  have hb := B.bytes
  have ht := B.returns
  have hl0 := B.notSynchronized
  have S : xc_Fix p m c b_ST_goodPartials 4 s "SealTrust" := ⟨hx, hb, hml, findClass_of_methodNamed B.named⟩
  have hl := lv_entry ([.ref x, .ref mo]) (n := 4) (Nat.le_of_ble_eq_true rfl)
  rw [lg_entry_eq]
  generalize (lg_sl ([.ref x, .ref mo]) ++ List.replicate (4 - (lg_sl ([.ref x, .ref mo])).length) Slot.unset).toArray = ls at hl ⊢
  have hl : lv_has ls 4 [(0, .ref x), (1, .ref mo)] := hl
  obtain ⟨r, hr⟩ : ∃ r, f_ST_goodPartials powers challenges answers block partials base checks pp qq modulus order = r := ⟨_, rfl⟩
  rw [hr]
  unfold f_ST_goodPartials at hr
  refine lv_iconst (v := (0 : Int32)) hx hb d_ST_goodPartials_0 (by decide) ?_
  refine lv_istore_n hx hb d_ST_goodPartials_1 rfl hl (by decide) rfl (fun ls hl => ?_)
  have hl : lv_has ls 4 [(2, .int (0 : Int32)), (0, .ref x), (1, .ref mo)] := hl
  refine lv_iconst (v := (0 : Int32)) hx hb d_ST_goodPartials_2 (by decide) ?_
  refine lv_istore_n hx hb d_ST_goodPartials_3 rfl hl (by decide) rfl (fun ls hl => ?_)
  have hl : lv_has ls 4 [(3, .int (0 : Int32)), (2, .int (0 : Int32)), (0, .ref x), (1, .ref mo)] := hl
  exact wl_ST_goodPartials_4 (x := x) (mo := mo) (k := k) (bu := bu) (ma := ma) (se := se) (motionCount := motionCount) (sealedCount := sealedCount) (suspended := suspended) (sh := sh) (ch := ch) (dealt := dealt) (epoch := epoch) (base := base) (whole := whole) (signing := signing) (pp := pp) (qq := qq) (modulus := modulus) (order := order) (checks := checks) (pw := pw) (cg := cg) (an := an) (standing := standing) (block := block) (partials := partials) (objections := objections) (signature := signature) (powers := powers) (challenges := challenges) (answers := answers) hg hw S hP hl0 ht  7 (0 : Int32) (0 : Int32) r ls hr (by decide) (lv_sub hl [0, 1, 2, 3] rfl)
end
section
/-! throwing: what a throw asks of the tables; an exception whose constructor hands on by another entry than 7 -/
section XTH
abbrev xt_U : Cond := .isRef (.static xg_tN "UNASSIGNED_STACK" "[Ljava/lang/StackTraceElement;")
abbrev xt_S : Cond := .isRef (.static xg_tN "SUPPRESSED_SENTINEL" "Ljava/util/List;")
abbrev xt_LU : Cond := .laysStatic xg_tN "UNASSIGNED_STACK" "[Ljava/lang/StackTraceElement;"
abbrev xt_LS : Cond := .laysStatic xg_tN "SUPPRESSED_SENTINEL" "Ljava/util/List;"
theorem xt_lu : xt_LU ∈ lw_tbl := by decide +kernel
theorem xt_ls : xt_LS ∈ lw_tbl := by decide +kernel
def xt_at (w : Cond) : Bool := (decide (w ∈ lw_tbl) && xg_st w) || decide (w = xt_U) || decide (w = xt_S) || decide (w = xt_LU) || decide (w = xt_LS)
theorem xt_ok {G : xg_G} {s : State} (hg : xg_F G) (hw : G.1.WarmedH s.vm) (hO : xg_O G s.heap) (args : Array Value) {w : Cond} (h : xt_at w = true) : w.before args s = true := by
  simp only [xt_at, Bool.or_eq_true, Bool.and_eq_true, decide_eq_true_eq] at h
  rcases h with (((⟨h1, h2⟩ | rfl) | rfl) | rfl) | rfl
  · exact xg_w hg hw h1 h2 args
  · exact xg_isRef hw hO (hg.1 _ xt_lu) hg.2.2.1
  · exact xg_isRef hw hO (hg.1 _ xt_ls) hg.2.2.2.1
  · exact xg_lays hw hO (hg.1 _ xt_lu)
  · exact xg_lays hw hO (hg.1 _ xt_ls)
/-- the words of a throw whose first constructor hands on by entry ix -/
def xt_words (own : String) (ic : Nat) (X Y0 : String) (ix : Nat) (bts : ByteArray) (names : List String) : List Cond :=
  Bundle.throwableAtoms ++ Bundle.throwableSAtoms ++ Bundle.passSAtoms X Y0 ix bts ++ Bundle.chainSAtoms Y0 names ++
  [.methodLink own ic (Bundle.initS X), .instantiable X 6, .castable X X, .selects X Bundle.tFill0 Bundle.tFill0, .selects X Bundle.tFill Bundle.tFill,
   .lays X Bundle.tN "cause" "Ljava/lang/Throwable;", .lays X Bundle.tN "stackTrace" Bundle.steD, .lays X Bundle.tN "suppressedExceptions" Bundle.listD, .lays X Bundle.tN "detailMessage" "Ljava/lang/String;",
   .isRef (.static Bundle.tN "UNASSIGNED_STACK" Bundle.steD), .isRef (.static Bundle.tN "SUPPRESSED_SENTINEL" Bundle.listD),
   .fieldLink Bundle.tN 198 Bundle.tN "backtrace" "Ljava/lang/Object;", .lays Bundle.tN Bundle.tN "backtrace" "Ljava/lang/Object;", .lays X Bundle.tN "backtrace" "Ljava/lang/Object;"]
def xt_six : ByteArray := ⟨#[0x2a, 0x2b, 0xb7, 0x00, 0x0d, 0xb1]⟩
theorem xt_a1 : ∀ w ∈ Bundle.ownAtoms "SealTrust" 42 "java/lang/IllegalArgumentException" ["java/lang/RuntimeException", "java/lang/Exception"], xt_at w = true := by decide +kernel
theorem xt_a2 : ∀ w ∈ Bundle.ownAtoms "SealTrust" 87 "java/lang/IllegalStateException" ["java/lang/RuntimeException", "java/lang/Exception"], xt_at w = true := by decide +kernel
theorem xt_a3 : ∀ w ∈ Bundle.ownAtoms "SealTrust" 171 "java/lang/ArithmeticException" ["java/lang/RuntimeException", "java/lang/Exception"], xt_at w = true := by decide +kernel
theorem xt_a4 : ∀ w ∈ xt_words "SealTrust" 142 "java/util/NoSuchElementException" "java/lang/RuntimeException" 13 xt_six ["java/lang/Exception"], xt_at w = true := by decide +kernel
end XTH
end
section
/-! throwing an exception whose constructor hands on by another entry than 7: the same road, with its own first link -/
section XNS
theorem xn_0 : decode xt_six 0 = .ok (.aload_n 0, 1) := by decide +kernel
theorem xn_1 : decode xt_six 1 = .ok (.aload_n 1, 1) := by decide +kernel
theorem xn_2 : decode xt_six 2 = .ok (.invokespecial 13, 3) := by decide +kernel
theorem xn_5 : decode xt_six 5 = .ok (.return_, 1) := by decide +kernel
variable {p : Program} {l : Launch} {e : Env} {R : Room} {s : State} {m : MethodId} {args : Array Value} {below : List Frame} {meth : Method} {c : Code} {V : State} {locs : List Loc} {cells slots : Nat}
set_option maxHeartbeats 1000000 in
theorem xn_ctor (X : Stand p l e R s m args below meth c V locs cells slots) (hx : p.tables.exec = Jvm.exec) (htr : e.platform.stackTraces = false) {own cls Y0 : String} {names : List String} {ic : Nat}
    (hown : s.vm.findClass own = some m.cls) (hcls : Bundle.fit cls = true) (hY0 : Bundle.fit Y0 = true) (hnames : ∀ n ∈ names, Bundle.fit n = true) (hat : ∀ w ∈ xt_words own ic cls Y0 13 xt_six names, w.before args s = true)
    (hlocs : ∀ x ∈ locs, ∀ cell, s.heap[x.base]? = some cell → cell.vm.isStatics = false)
    {a : Addr} {cX : ClassId} {kX : Class} (hfX : s.vm.findClass cls = some cX) (hkX : s.vm.classes[cX]? = some kX) (hcell : V.heap[a]? = some (freshCell cX kX)) (hnew : s.heap.size ≤ a) {msg : Value} (hmsg : msg.isRef = true)
    {g : JFrame} (hg : g.method = m) (hsize : g.locals.size = c.maxLocals) (hlocked : g.locked = none) (hentered : g.entered = []) {rest : List Value} (hstack : g.stack = msg :: .ref a :: .ref a :: rest)
    (d6 : decode c.code g.pc = .ok (.invokespecial ic, 3)) (d9 : decode c.code (g.pc + 3) = .ok (.athrow, 1)) (hout : ∀ x ∈ c.exceptionTable.toList, covers x (g.pc + 3) = false)
    (hfr : names.length + 4 < R.frames) (hlo : 2 * g.monitorRoom + ((Value.ref a :: rest).map fun v => v.category).sum + (13 * (names.length + 2) + 42) ≤ R.locals) (hlocks : meth.locks = false) :
    ∃ U : State, Steps p.tables e below (V.setTop g) U ∧ U.status = .running ∧ Ended U below (.threw a) ∧ s.WarmedH U.vm ∧ s.sameButNew ({ U with vm := s.vm } : State) locs cells slots ∧ ∃ ce : Cell, U.heap[a]? = some ce ∧ ce.vm = .none ∧ ce.cls = cX := by
  have howns : e.platform.frameOwnsMonitors = true := by rw [X.admits.platform]
  have hfin : e.platform.finalization = false := by rw [X.admits.platform]
  have hpl : e.platform.magicAccessors = ({} : Platform).magicAccessors := by rw [X.admits.platform]
  have ha : ∀ w, w ∈ xt_words own ic cls Y0 13 xt_six names → w.holds args s none s [] = true := fun w hw => hat w hw
  obtain ⟨T, Z0, L, -, Y⟩ := ThrowableC.of_atoms (args := args) howns hfin hpl (fun w hw => hat w (by simp [xt_words, hw]))
  obtain ⟨Z, M, LZ, LM, hnZ⟩ := Init0T.ofS_atoms (args := args) hpl L Y (fun w hw => hat w (by simp [xt_words, hw]))
  obtain ⟨P2, Ps, hlen, L2, hL, hP2m, hlink2, hlink⟩ := Bundle.chainS (args := args) hpl hnZ names Y0 hY0 hnames (fun w hw => hat w (by simp [xt_words, hw]))
  obtain ⟨P1, L1, hP1m, hP1s⟩ := PassC.ofS_atoms (args := args) hpl (X := cls) (Y := Y0) (Bundle.fit_spec hcls).1 (Bundle.fit_spec hY0).2 xn_0 xn_1 xn_2 xn_5 (fun w hw => hat w (by simp [xt_words, hw]))
  have hlink1 : P1.sup = P2.m := Option.some.inj (hP1s.symm.trans hP2m)
  have hf : s.vm.findClass cls = some P1.m.cls := findClass_of_methodNamed hP1m
  cases Option.some.inj (hfX.symm.trans hf)
  obtain ⟨c1, kX', hc1, hk, hord, -, -, -⟩ := Cond.instantiable_spec (ha (.instantiable cls 6) (by simp [xt_words]))
  cases Option.some.inj (hc1.symm.trans hf)
  cases Option.some.inj (hkX.symm.trans hk)
  have hsel0 : selectMethod e.platform s.vm P1.m.cls T.fill0 = .method T.fill0 := by
    obtain ⟨c2, r2, m2, q1, q2, q3, q4, -⟩ := Cond.selects_spec (ha (.selects cls Bundle.tFill0 Bundle.tFill0) (by simp [xt_words]))
    cases Option.some.inj (q1.symm.trans hf)
    cases Option.some.inj (q2.symm.trans (State.methodFound?_of_named Y.fill0 (by decide)))
    cases Option.some.inj (q3.symm.trans Y.fill0)
    rw [Launch.admits_selectMethod X.admits]
    exact q4
  have hselF : selectMethod e.platform s.vm P1.m.cls T.fill = .method T.fill := by
    obtain ⟨c2, r2, m2, q1, q2, q3, q4, -⟩ := Cond.selects_spec (ha (.selects cls Bundle.tFill Bundle.tFill) (by simp [xt_words]))
    cases Option.some.inj (q1.symm.trans hf)
    cases Option.some.inj (q2.symm.trans (State.methodFound?_of_named Y.fill (by decide)))
    cases Option.some.inj (q3.symm.trans Y.fill)
    rw [Launch.admits_selectMethod X.admits]
    exact q4
  obtain ⟨cS0, hcS0, hiss⟩ := Y.statics
  obtain ⟨u0, hu0⟩ := Cond.staticRefV Y.unassigned L.unassignedStatic L.statics hcS0 hiss (ha (.isRef (.static Bundle.tN "UNASSIGNED_STACK" Bundle.steD)) (by simp [xt_words]))
  obtain ⟨sen, hsen⟩ := Cond.staticRefV Y.sentinel L.sentinelStatic L.statics hcS0 hiss (ha (.isRef (.static Bundle.tN "SUPPRESSED_SENTINEL" Bundle.listD)) (by simp [xt_words]))
  obtain ⟨ci198, i198, fB, hk198, hg198, ha198, hsB, -, hnB, htB, hffB⟩ := Cond.ownField (t := .object "java/lang/Object") Y.found L.cls (by decide +kernel) (ha (.fieldLink Bundle.tN 198 Bundle.tN "backtrace" "Ljava/lang/Object;") (by simp [xt_words])) (ha (.lays Bundle.tN Bundle.tN "backtrace" "Ljava/lang/Object;") (by simp [xt_words])) e.platform hpl
  obtain ⟨cS, hcS, heS, -, hkeep⟩ := X.same.2.2.2.2.2 T.aS cS0 hcS0
  have hcellS : V.heap[T.aS]? = some cS := hcS
  have hno : ∀ i, (⟨T.aS, i⟩ : Loc) ∉ locs := fun i hmem => by
    have h9 := hlocs _ hmem cS0 hcS0
    rw [hiss] at h9
    cases h9
  have hkS : cS.vm ≠ .unknown := by
    rw [heS]
    intro hu
    rw [show cS0.vm = .unknown from hu] at hiss
    cases hiss
  have hneS : T.aS ≠ a := Nat.ne_of_lt (Nat.lt_of_lt_of_le (Array.getElem?_eq_some_iff.mp hcS0).1 hnew)
  obtain ⟨iM, hffM⟩ := Y.msg
  obtain ⟨tyC, dC, hdC, hdnC⟩ := Cond.laysAt hf hk Y.cause (ha (.lays cls Bundle.tN "cause" "Ljava/lang/Throwable;") (by simp [xt_words]))
  obtain ⟨tyS, dS, hdS, hdnS⟩ := Cond.laysAt hf hk Y.stack (ha (.lays cls Bundle.tN "stackTrace" Bundle.steD) (by simp [xt_words]))
  obtain ⟨tyP, dP, hdP, hdnP⟩ := Cond.laysAt hf hk Y.supp (ha (.lays cls Bundle.tN "suppressedExceptions" Bundle.listD) (by simp [xt_words]))
  obtain ⟨tyM, dM, hdM, hdnM⟩ := Cond.laysAt hf hk hffM (ha (.lays cls Bundle.tN "detailMessage" "Ljava/lang/String;") (by simp [xt_words]))
  obtain ⟨tyB, dB, hdB, hdnB⟩ := Cond.laysAt hf hk hffB (ha (.lays cls Bundle.tN "backtrace" "Ljava/lang/Object;") (by simp [xt_words]))
  have bC := Cond.laysApart hdB hdC hdnB hdnC (by rw [hnB, Y.causeName]; decide)
  have bS := Cond.laysApart hdB hdS hdnB hdnS (by rw [hnB, Y.stackName]; decide)
  have bP := Cond.laysApart hdB hdP hdnB hdnP (by rw [hnB, Y.suppName]; decide)
  have hskip : SkipFacts T e.platform s (fun u => u) u0 ((preparedCellV T.toThrowableT (freshCell P1.m.cls kX) a u0 sen).withEntry V.cur) :=
    ⟨{ ci198 := ci198, i198 := i198, fBack := fB }, ⟨hk198, hg198, ha198, hsB⟩, by
      have h9 := fresh_default (c := P1.m.cls) tyB
      rw [htB] at h9
      simpa [preparedCellV, Cell.setSlot, Cell.withEntry, Array.getElem?_setIfInBounds, bC, bS, bP, bC.symm, bS.symm, bP.symm, defaultValue] using h9, fun _ _ => rfl⟩
  obtain ⟨tm, methC, cdC, kC, vm₁, hnC, -, -, -, -, -, -, -, hW₁, st1⟩ := Steps.initColdS (tb := p.tables) (e := e) (below := below) (s := s) (U := V) X.here hx X.warmed hpl hown (t := Bundle.initS cls) rfl rfl (Bundle.fit_spec hcls).2
    (ha (.methodLink own ic (Bundle.initS cls)) (by simp [xt_words])) (hat (.instanceMethod (Bundle.initS cls)) (by simp [xt_words, Bundle.passSAtoms])) (bytes := xt_six) (maxL := 2) (hat (.code (Bundle.initS cls) xt_six 2 none) (by simp [xt_words, Bundle.passSAtoms]))
    (f := g) hg (a := a) (msg := msg) (rest := .ref a :: rest) hstack d6
  cases Option.some.inj (hnC.symm.trans hP1m)
  have X₁ := X.noted hW₁
  obtain ⟨vm₂, X₂, st2⟩ := X₁.ctorMessageOffV hx (g := { g with stack := .ref a :: rest }) hg hsize T L Z LZ M LM (P1 :: P2 :: Ps)
    (fun P hP => by
      rcases List.mem_cons.mp hP with rfl | hP
      · exact L1
      · rcases List.mem_cons.mp hP with rfl | hP
        · exact L2
        · exact hL P hP) ⟨hlink1, hlink2, hlink⟩ (u0 := u0) (sen := sen) (self := a) hmsg (cell := freshCell P1.m.cls kX) (cellS := cS)
    hcell (fun _ => by simp) (by simp) rfl rfl hsel0 hselF hcellS hneS hkS (by rw [hkeep _ (hno _)]; exact hu0) (by rw [hkeep _ (hno _)]; exact hsen)
    (Takes.of_laid hk hord tyC (by rw [Y.causeType]; rfl)) (Takes.of_laid hk hord tyS (by rw [Y.stackType]; exact fits_refV_array _ u0)) (Takes.of_laid hk hord tyP (by rw [Y.suppType]; exact fits_refV_object _ sen))
    (Takes.of_laid hk hord tyM (by rw [Y.msgType]; exact fits_refV_object _ ⟨msg, hmsg⟩)) Y.objLocals hskip htr [] d6
    (by simp only [List.length_cons, hlen]; omega) (by simp only [List.length_cons, hlen]; exact hlo)
  obtain ⟨hwalk, hrun, hended, hWU, hsame⟩ := X₂.athrowLeaves hx (g := { g with stack := .ref a :: rest, pc := g.pc + 3 }) hg hlocked hentered hout (a := a) (rest := rest) rfl d9
  have hlt : a < ((V.setVm vm₁).setVm vm₂).heap.size := (Array.getElem?_eq_some_iff.mp hcell).1
  have hU := heapAt_setCell_self (s := (V.setVm vm₁).setVm vm₂) (plainBareV T.toThrowableT (freshCell P1.m.cls kX) a u0 sen msg) hlt
  refine ⟨_, st1 _ (fun acts => ?_), hrun, hended, hWU, hsame.weaken (fun y hy hlt9 => ?_) (Nat.le_refl _) (Nat.le_refl _), _, hU, rfl, rfl⟩
  · rw [doInvoke_state]
    exact st2 _ hwalk
  · rcases List.mem_append.mp hy with h1 | h1
    · exact h1
    · exfalso
      have hb : y.base = a := by
        simp only [List.mem_cons, List.not_mem_nil, or_false] at h1
        rcases h1 with rfl | rfl | rfl | rfl | rfl <;> rfl
      rw [hb] at hlt9
      exact Nat.not_lt.mpr hnew hlt9
end XNS
section XNT
variable {p : Program} {l : Launch} {e : Env} {R : Room} {s : State} {m : MethodId} {args : Array Value} {below : List Frame} {meth : Method} {c : Code} {locs : List Loc} {cells slots : Nat}
variable {post : xc_R → Heap → Prop} {A : Nat → Prop} {pc : Nat} {ls : Array Slot} {cc : ByteArray}
set_option maxHeartbeats 1000000 in
theorem xn_throw {own cls Y0 text : String} {names : List String} {ik is ic mc ms : Nat} (hx : p.tables.exec = Jvm.exec) (hb : c.code = cc) (hl : l.stackTraces = false) (hlocks : meth.locks = false) (hE : c.exceptionTable.isEmpty = true) (hown : s.vm.findClass own = some m.cls)
    (hcls : Bundle.fit cls = true) (hY0 : Bundle.fit Y0 = true) (hnames : ∀ n ∈ names, Bundle.fit n = true) (hk : (Cond.classLink own ik cls).before args s = true) (hini : (Cond.initialized cls).before args s = true) (hst : (Cond.stringRef own is text).before args s = true) (hat : ∀ w ∈ xt_words own ic cls Y0 13 xt_six names, w.before args s = true)
    (hsize : ls.size = c.maxLocals) (d0 : decode cc pc = .ok (.new ik, 3)) (d3 : decode cc (pc + 3) = .ok (.dup, 1)) (d4 : decode cc (pc + 4) = .ok (.ldc is, 2)) (d6 : decode cc (pc + 6) = .ok (.invokespecial ic, 3)) (d9 : decode cc (pc + 9) = .ok (.athrow, 1))
    (hf : names.length + 4 < R.frames ∧ 13 * (names.length + 2) + 43 ≤ R.locals ∧ cells + 1 ≤ R.cells ∧ slots + 6 ≤ R.slots) (hm : cells + 1 ≤ mc ∧ slots + 6 ≤ ms) (hp : ∀ H1 : Heap, xc_F (fun _ => False) s.heap H1 → post (.inr cls) H1) :
    W p l e R s m args below meth c s.heap [] cells slots (xc_Z below post A args s mc ms) (F0 m pc ls []) := by
  intro T hT X
  have htr : e.platform.stackTraces = false := (show e.platform.stackTraces = l.stackTraces by rw [X.admits.platform]).trans hl
  have hins : (Cond.instantiable cls 6).before args s = true := hat _ (by simp [xt_words])
  obtain ⟨vm₁, cX, kX, hfX, hkX, -, -, X₁, st1⟩ := X.newCold hx (own := own) (C := cls) (index := ik) (n := 6) hown hk hins hini (g := F0 m pc ls []) rfl (by rw [hb]; exact d0) hf.2.2.1 hf.2.2.2
  generalize hT1 : (T.setVm vm₁).pushCell { cls := cX, slots := kX.instanceTypes.map defaultValue, vm := .none } = T1 at X₁ st1
  have hcellA : T1.heap[T.heap.size]? = some (freshCell cX kX) := by rw [← hT1]; exact State.heap_pushCell_size _ _
  obtain ⟨k9, cf9, i9, a9, -, -, -, -, -, hev⟩ := Cond.stringRef_spec hown hst
  have d3' : decode c.code (pc + 3) = .ok (.dup, 1) := by rw [hb]; exact d3
  obtain ⟨U, hsteps, hrun, hend, hW, hsame, ce, hce, hcv, hcc⟩ := xn_ctor X₁ hx htr (own := own) (cls := cls) (Y0 := Y0) (names := names) (ic := ic) hown hcls hY0 hnames hat (fun x hx => nomatch hx) hfX hkX hcellA (by rw [hT]; exact Nat.le_refl _) (msg := .ref a9) rfl
    (g := { method := m, pc := pc + 6, locals := ls, stack := .ref a9 :: .ref T.heap.size :: .ref T.heap.size :: [], locked := none }) rfl hsize rfl rfl (rest := []) rfl (by rw [hb]; exact d6) (by rw [hb]; exact d9) (xc_none hE) hf.1 (by
      have h2 : ({ method := m, pc := pc + 6, locals := ls, stack := .ref a9 :: .ref T.heap.size :: .ref T.heap.size :: [], locked := none } : JFrame).monitorRoom = 0 := rfl
      rw [h2]
      simp only [List.map_cons, List.map_nil, List.sum_cons, List.sum_nil, Value.category]
      have := hf.2.1
      omega) hlocks
  have hK := xc_kept hsame
  have hall : s.sameButNew ({ U with vm := s.vm } : State) [] mc ms := hsame.mono hm.1 hm.2
  refine ⟨U, ?_, .threw T.heap.size, hrun, hend, hW, ⟨[], hall, fun q hq => nomatch hq⟩, hK.weaken (fun _ _ h => h.elim), Or.inr ⟨T.heap.size, cls, ce, rfl, hce, hcv, by rw [hcc]; exact hfX, hp _ hK⟩⟩
  refine st1 _ ?_
  show Steps p.tables e below (T1.setTop { method := m, pc := pc + 3, locals := ls, stack := .ref T.heap.size :: [], locked := none }) _
  jvm_step X₁.here [X₁.here.top, hx, d3', Value.category]
  exact X₁.ldcString hx hown hst hev (g := { method := m, pc := pc + 4, locals := ls, stack := .ref T.heap.size :: .ref T.heap.size :: [], locked := none }) rfl (by rw [hb]; exact d4) _ hsteps
end XNT
end
section
/-! methods that may throw: their contracts' ends, throws, calls of them -/
section XTT
/-- it gave back v and changed nothing, or it threw E and changed nothing that was -/
def xt_ro (g : Option String) (v : Option Value) (H : Heap) : xc_R → Heap → Prop := fun r H1 => (g = none ∧ r = .inl v ∧ H1 = H) ∨ ∃ E, g = some E ∧ r = .inr E ∧ xc_F (fun _ => False) H H1
/-- it gave back v and the cells are ws, or it threw E and changed nothing that was -/
def xt_wr (G : xg_G) (A : Nat → Prop) (g : Option String) (v : Option Value) (ws : va_W) (H : Heap) : xc_R → Heap → Prop := fun r H1 => (g = none ∧ r = .inl v ∧ va_P G.2.1 cl_all ws H1 ∧ va_D A ws) ∨ ∃ E, g = some E ∧ r = .inr E ∧ xc_F (fun _ => False) H H1
def xt_el {α : Type} (g : Option String) (d k : α) : α := match g with
  | none => k
  | some _ => d
theorem xt_el0 {α : Type} {g : Option String} {d k : α} (h : g = none) : xt_el g d k = k := by rw [h]; rfl
theorem xt_el1 {α : Type} {g : Option String} {d k : α} {E : String} (h : g = some E) : xt_el g d k = d := by rw [h]; rfl
theorem xt_ne {x k : Int32} (h : ¬ x = k) : x.toInt ≠ k.toInt := fun z => h (Int32.toInt_inj.mp z)
abbrev xt_IA : String := "java/lang/IllegalArgumentException"
abbrev xt_IS : String := "java/lang/IllegalStateException"
abbrev xt_AR : String := "java/lang/ArithmeticException"
abbrev xt_NS : String := "java/util/NoSuchElementException"
abbrev xt_cs : List String := ["java/lang/RuntimeException", "java/lang/Exception"]
theorem xt_f1 : ∀ n ∈ xt_cs, Bundle.fit n = true := by decide +kernel
theorem xt_f2 : ∀ n ∈ ["java/lang/Exception"], Bundle.fit n = true := by decide +kernel
theorem xt_k1 : Cond.classLink "SealTrust" 38 xt_IA ∈ lw_tbl := by decide +kernel
theorem xt_k2 : Cond.classLink "SealTrust" 83 xt_IS ∈ lw_tbl := by decide +kernel
theorem xt_k3 : Cond.classLink "SealTrust" 167 xt_AR ∈ lw_tbl := by decide +kernel
theorem xt_k4 : Cond.classLink "SealTrust" 138 xt_NS ∈ lw_tbl := by decide +kernel
theorem xt_i1 : Cond.initialized xt_IA ∈ lw_tbl := by decide +kernel
theorem xt_i2 : Cond.initialized xt_IS ∈ lw_tbl := by decide +kernel
theorem xt_i3 : Cond.initialized xt_AR ∈ lw_tbl := by decide +kernel
theorem xt_i4 : Cond.initialized xt_NS ∈ lw_tbl := by decide +kernel
variable {p : Program} {l : Launch} {e : Env} {R : Room} {s : State} {m : MethodId} {args : Array Value} {below : List Frame} {meth : Method} {c : Code} {cells slots : Nat} {G : xg_G}
variable {post : xc_R → Heap → Prop} {A : Nat → Prop} {pc nL : Nat} {ls : Array Slot} {cc : ByteArray} {is mc ms : Nat} {text : String} {g : Option String} {v : Option Value} {ws : va_W} {H : Heap} {locs : List Loc}
theorem xt_ro0 : xt_ro none v H (.inl v) H := Or.inl ⟨rfl, rfl, rfl⟩
theorem xt_ro1 {E : String} {H1 : Heap} (h : xc_F (fun _ => False) H H1) : xt_ro (some E) v H (.inr E) H1 := Or.inr ⟨E, rfl, rfl, h⟩
theorem xt_wr0 {H1 : Heap} (hP : va_P G.2.1 cl_all ws H1) (hD : va_D A ws) : xt_wr G A none v ws H (.inl v) H1 := Or.inl ⟨rfl, rfl, hP, hD⟩
theorem xt_wr1 {E : String} {H1 : Heap} (h : xc_F (fun _ => False) H H1) : xt_wr G A (some E) v ws H (.inr E) H1 := Or.inr ⟨E, rfl, rfl, h⟩
theorem th_1 (hg : xg_F G) (hw : G.1.WarmedH s.vm) (hO : xg_O G s.heap) (S : xc_Fix p m c cc nL s "SealTrust") (hl9 : l.stackTraces = false) (hl0 : meth.locks = false) (hE : c.exceptionTable.isEmpty = true) (hm9 : Cond.stringRef "SealTrust" is text ∈ lw_tbl) (hsize : ls.size = nL)
    (d0 : decode cc pc = .ok (.new 38, 3)) (d3 : decode cc (pc + 3) = .ok (.dup, 1)) (d4 : decode cc (pc + 4) = .ok (.ldc is, 2)) (d6 : decode cc (pc + 6) = .ok (.invokespecial 42, 3)) (d9 : decode cc (pc + 9) = .ok (.athrow, 1))
    (hf : 5 < R.frames ∧ 82 ≤ R.locals ∧ cells + 1 ≤ R.cells ∧ slots + 6 ≤ R.slots) (hm : cells + 1 ≤ mc ∧ slots + 6 ≤ ms) (hp : ∀ H1 : Heap, xc_F (fun _ => False) s.heap H1 → post (.inr xt_IA) H1) :
    W p l e R s m args below meth c s.heap [] cells slots (xc_Z below post A args s mc ms) (F0 m pc ls []) :=
  xc_throw (names := xt_cs) S.1 S.2.1 hl9 hl0 hE S.2.2.2 (by decide +kernel) xt_f1 (xg_w hg hw xt_k1 rfl args) (xg_w hg hw xt_i1 rfl args) (xg_string hw (hg.1 _ hm9)) (fun w h => xt_ok hg hw hO args (xt_a1 w h)) (hsize.trans S.2.2.1.symm) d0 d3 d4 d6 d9 hf hm hp
theorem th_2 (hg : xg_F G) (hw : G.1.WarmedH s.vm) (hO : xg_O G s.heap) (S : xc_Fix p m c cc nL s "SealTrust") (hl9 : l.stackTraces = false) (hl0 : meth.locks = false) (hE : c.exceptionTable.isEmpty = true) (hm9 : Cond.stringRef "SealTrust" is text ∈ lw_tbl) (hsize : ls.size = nL)
    (d0 : decode cc pc = .ok (.new 83, 3)) (d3 : decode cc (pc + 3) = .ok (.dup, 1)) (d4 : decode cc (pc + 4) = .ok (.ldc is, 2)) (d6 : decode cc (pc + 6) = .ok (.invokespecial 87, 3)) (d9 : decode cc (pc + 9) = .ok (.athrow, 1))
    (hf : 5 < R.frames ∧ 82 ≤ R.locals ∧ cells + 1 ≤ R.cells ∧ slots + 6 ≤ R.slots) (hm : cells + 1 ≤ mc ∧ slots + 6 ≤ ms) (hp : ∀ H1 : Heap, xc_F (fun _ => False) s.heap H1 → post (.inr xt_IS) H1) :
    W p l e R s m args below meth c s.heap [] cells slots (xc_Z below post A args s mc ms) (F0 m pc ls []) :=
  xc_throw (names := xt_cs) S.1 S.2.1 hl9 hl0 hE S.2.2.2 (by decide +kernel) xt_f1 (xg_w hg hw xt_k2 rfl args) (xg_w hg hw xt_i2 rfl args) (xg_string hw (hg.1 _ hm9)) (fun w h => xt_ok hg hw hO args (xt_a2 w h)) (hsize.trans S.2.2.1.symm) d0 d3 d4 d6 d9 hf hm hp
theorem th_3 (hg : xg_F G) (hw : G.1.WarmedH s.vm) (hO : xg_O G s.heap) (S : xc_Fix p m c cc nL s "SealTrust") (hl9 : l.stackTraces = false) (hl0 : meth.locks = false) (hE : c.exceptionTable.isEmpty = true) (hm9 : Cond.stringRef "SealTrust" is text ∈ lw_tbl) (hsize : ls.size = nL)
    (d0 : decode cc pc = .ok (.new 167, 3)) (d3 : decode cc (pc + 3) = .ok (.dup, 1)) (d4 : decode cc (pc + 4) = .ok (.ldc is, 2)) (d6 : decode cc (pc + 6) = .ok (.invokespecial 171, 3)) (d9 : decode cc (pc + 9) = .ok (.athrow, 1))
    (hf : 5 < R.frames ∧ 82 ≤ R.locals ∧ cells + 1 ≤ R.cells ∧ slots + 6 ≤ R.slots) (hm : cells + 1 ≤ mc ∧ slots + 6 ≤ ms) (hp : ∀ H1 : Heap, xc_F (fun _ => False) s.heap H1 → post (.inr xt_AR) H1) :
    W p l e R s m args below meth c s.heap [] cells slots (xc_Z below post A args s mc ms) (F0 m pc ls []) :=
  xc_throw (names := xt_cs) S.1 S.2.1 hl9 hl0 hE S.2.2.2 (by decide +kernel) xt_f1 (xg_w hg hw xt_k3 rfl args) (xg_w hg hw xt_i3 rfl args) (xg_string hw (hg.1 _ hm9)) (fun w h => xt_ok hg hw hO args (xt_a3 w h)) (hsize.trans S.2.2.1.symm) d0 d3 d4 d6 d9 hf hm hp
theorem th_4 (hg : xg_F G) (hw : G.1.WarmedH s.vm) (hO : xg_O G s.heap) (S : xc_Fix p m c cc nL s "SealTrust") (hl9 : l.stackTraces = false) (hl0 : meth.locks = false) (hE : c.exceptionTable.isEmpty = true) (hm9 : Cond.stringRef "SealTrust" is text ∈ lw_tbl) (hsize : ls.size = nL)
    (d0 : decode cc pc = .ok (.new 138, 3)) (d3 : decode cc (pc + 3) = .ok (.dup, 1)) (d4 : decode cc (pc + 4) = .ok (.ldc is, 2)) (d6 : decode cc (pc + 6) = .ok (.invokespecial 142, 3)) (d9 : decode cc (pc + 9) = .ok (.athrow, 1))
    (hf : 5 < R.frames ∧ 82 ≤ R.locals ∧ cells + 1 ≤ R.cells ∧ slots + 6 ≤ R.slots) (hm : cells + 1 ≤ mc ∧ slots + 6 ≤ ms) (hp : ∀ H1 : Heap, xc_F (fun _ => False) s.heap H1 → post (.inr xt_NS) H1) :
    W p l e R s m args below meth c s.heap [] cells slots (xc_Z below post A args s mc ms) (F0 m pc ls []) :=
  xn_throw (Y0 := "java/lang/RuntimeException") (names := ["java/lang/Exception"]) S.1 S.2.1 hl9 hl0 hE S.2.2.2 (by decide +kernel) (by decide +kernel) xt_f2 (xg_w hg hw xt_k4 rfl args) (xg_w hg hw xt_i4 rfl args) (xg_string hw (hg.1 _ hm9)) (fun w h => xt_ok hg hw hO args (xt_a4 w h)) (hsize.trans S.2.2.1.symm) d0 d3 d4 d6 d9 hf hm hp
/-- a call that changes nothing but may throw, in a method that has written nothing: what is thrown goes out -/
theorem xt_use {rest st0 : List Value} {mc9 ms9 : Nat} (hr : xc_Run p l e R s m args below meth c s.heap [] cells slots (F0 m pc ls st0) rest mc ms (xt_ro g v s.heap) (fun _ => False)) (hl0 : meth.locks = false) (hE : c.exceptionTable.isEmpty = true) (h1 : cells + mc ≤ mc9) (h2 : slots + ms ≤ ms9)
    (hp : ∀ (E : String) (H1 : Heap), g = some E → xc_F (fun _ => False) s.heap H1 → post (.inr E) H1)
    (k0 : g = none → W p l e R s m args below meth c s.heap [] (cells + mc) (slots + ms) (xc_Z below post A args s mc9 ms9) (F0 m (pc + 3) ls (v.toList ++ rest))) : W p l e R s m args below meth c s.heap [] cells slots (xc_Z below post A args s mc9 ms9) (F0 m pc ls st0) := by
  refine xc_use hr (fun v' H1 L hq hF hL => ?_) (fun q E ce H1 L hq hF hL hce hcv hcl => ?_)
  · rcases hq with ⟨h3, h4, h5⟩ | ⟨E, h3, h4, h5⟩
    · cases h4
      subst h5
      rw [xc_nil hL, List.append_nil]
      exact k0 h3
    · cases h4
  · rcases hq with ⟨h3, h4, h5⟩ | ⟨E', h3, h4, h5⟩
    · cases h4
    · cases h4
      rw [xc_nil hL, List.append_nil]
      exact xc_widen h1 h2 (xc_thru hl0 (xc_none hE) (h5.weaken (fun _ _ h => h.elim)) (fun q h => nomatch h) hce hcv hcl (hp E H1 h3 h5))
/-- .. from a state that is warmer by room -/
theorem xt_post {Q : State → Prop} {fr : JFrame} (h1 : cells ≤ mc) (h2 : slots ≤ ms) (k : W p l e R s m args below meth c H locs mc ms Q fr) : W p l e R s m args below meth c H locs cells slots Q fr := W.widen h1 h2 k
end XTT
end
section
/-! what is required before anything is done -/
theorem sw_230 : (Cond.stringRef "SealTrust" 230 "no key") ∈ lw_tbl := List.mem_append_right _ (List.mem_append_right _ (List.mem_append_left _ (List.mem_of_getElem? (i := 58) rfl)))
theorem sw_232 : (Cond.stringRef "SealTrust" 232 "an empty buffer") ∈ lw_tbl := List.mem_append_right _ (List.mem_append_right _ (List.mem_append_left _ (List.mem_of_getElem? (i := 65) rfl)))
theorem sw_234 : (Cond.stringRef "SealTrust" 234 "no such motion") ∈ lw_tbl := List.mem_append_right _ (List.mem_append_right _ (List.mem_append_left _ (List.mem_of_getElem? (i := 114) rfl)))
theorem sw_236 : (Cond.stringRef "SealTrust" 236 "no such trustee") ∈ lw_tbl := List.mem_append_right _ (List.mem_append_right _ (List.mem_append_left _ (List.mem_of_getElem? (i := 124) rfl)))
theorem sw_238 : (Cond.stringRef "SealTrust" 238 "the motion is not open") ∈ lw_tbl := List.mem_append_right _ (List.mem_append_right _ (List.mem_append_left _ (List.mem_of_getElem? (i := 128) rfl)))
theorem sw_240 : (Cond.stringRef "SealTrust" 240 "the trustee has a voice on the motion") ∈ lw_tbl := List.mem_append_right _ (List.mem_append_right _ (List.mem_append_left _ (List.mem_of_getElem? (i := 135) rfl)))
theorem xs_min {x n : Int32} (h0 : ¬ x < 0) (h : x < n) (hn : n.toInt ≤ 12) : vp_in x 12 := by
  rw [Int32.lt_iff_toInt_lt] at h0 h
  rw [show (0 : Int32).toInt = 0 from rfl] at h0
  exact vp_in_iff.mpr ⟨by omega, by omega⟩
def g_ST_requireKey (dealt : Int32) : Option String := if dealt = 0 then (some xt_IS) else none
set_option maxHeartbeats 4000000 in
set_option maxRecDepth 100000 in
theorem ct_ST_requireKey (l : Launch) {G : xg_G} (hg : xg_F G) (hl9 : l.stackTraces = false) (H : Heap) (hO : xg_O G H) (x : Nat) (k : Nat) (bu : Nat) (ma : Nat) (se : Nat) (motionCount : Int32) (sealedCount : Int32) (suspended : Int32) (sh : Nat) (ch : Nat) (dealt : Int32) (epoch : Int64) (base : Int64) (whole : Int64) (signing : Int64) (pp : Int64) (qq : Int64) (modulus : Int64) (order : Int64) (hP : va_P G.2.1 cl_all [(x, .inr (3, [.ref k, .ref bu, .ref ma, .ref se, .int motionCount, .int sealedCount, .int suspended])), (k, .inr (1, [.ref sh, .ref ch, .int dealt, .long epoch, .long base, .long whole, .long signing, .long pp, .long qq, .long modulus, .long order]))] H)  : xc_Met l y_ST_requireKey (.code y_ST_requireKey b_ST_requireKey 1 none) ({ frames := 6, cells := 1, slots := 6, locals := 82 } : Room) (xg_Pc G [.ref x] H) (xt_ro (g_ST_requireKey dealt) none H) (fun _ => False) := by
  refine xc_ofW (by decide) ?_
  intro p e s m args below meth c s₁ B hml hE hv
  obtain ⟨rfl, rfl, hw⟩ := hv
  have hx := B.exec
  have hb := B.bytes
  have ht := B.returns
  have hl0 := B.notSynchronized
  have S : xc_Fix p m c b_ST_requireKey 1 s "SealTrust" := ⟨hx, hb, hml, findClass_of_methodNamed B.named⟩
  have hl := lv_entry ([.ref x]) (n := 1) (Nat.le_of_ble_eq_true rfl)
  rw [lg_entry_eq]
  generalize (lg_sl ([.ref x]) ++ List.replicate (1 - (lg_sl ([.ref x])).length) Slot.unset).toArray = ls at hl ⊢
  have hl : lv_has ls 1 [(0, .ref x)] := hl
  obtain ⟨r0, hr0⟩ : ∃ r, g_ST_requireKey dealt = r := ⟨_, rfl⟩
  rw [hr0]
  unfold g_ST_requireKey at hr0
  show W p l e ({ frames := 6, cells := 1, slots := 6, locals := 82 } : Room) s m _ below meth c s.heap [] 0 0 (xc_Z below _ _ _ s 1 6) _
  refine lv_aload_n hx hb d_ST_requireKey_0 rfl (lv_at hl 0 rfl) ?_
  refine gf_ST_10 hg hw S hP 0 rfl rfl d_ST_requireKey_1 ?_
  refine gf_ST_220 hg hw S hP 1 rfl rfl d_ST_requireKey_4 ?_
  refine lv_if_ne hx hb d_ST_requireKey_7 (tgt := 20) (by decide) (fun h7 => ?_) (fun h7 => ?_)
  · rw [if_neg h7] at hr0
    subst hr0
    refine W.widen (k := 1) (n := 6) (Nat.le_of_ble_eq_true rfl) (Nat.le_of_ble_eq_true rfl) ?_
    exact xc_vret hx hb ht hl0 xc_F.rf (fun _ h => nomatch h) xt_ro0 d_ST_requireKey_20
  · rw [if_pos h7] at hr0
    subst hr0
    exact th_2 hg hw hO S hl9 hl0 hE sw_230 hl.1 d_ST_requireKey_10 d_ST_requireKey_13 d_ST_requireKey_14 d_ST_requireKey_16 d_ST_requireKey_19 ⟨by decide, by decide, by decide, by decide⟩ ⟨by decide, by decide⟩ (fun _ h => xt_ro1 h)
def g_ST_requireDocument (dealt : Int32) (size : Int32) : Option String := xt_el (g_ST_requireKey dealt) (g_ST_requireKey dealt) (if (f_BU_count size) = 0 then (some xt_IS) else none)
set_option maxHeartbeats 4000000 in
set_option maxRecDepth 100000 in
theorem ct_ST_requireDocument (l : Launch) {G : xg_G} (hg : xg_F G) (hl9 : l.stackTraces = false) (H : Heap) (hO : xg_O G H) (x : Nat) (k : Nat) (bu : Nat) (ma : Nat) (se : Nat) (motionCount : Int32) (sealedCount : Int32) (suspended : Int32) (sh : Nat) (ch : Nat) (dealt : Int32) (epoch : Int64) (base : Int64) (whole : Int64) (signing : Int64) (pp : Int64) (qq : Int64) (modulus : Int64) (order : Int64) (bys : Nat) (size : Int32) (hP : va_P G.2.1 cl_all [(x, .inr (3, [.ref k, .ref bu, .ref ma, .ref se, .int motionCount, .int sealedCount, .int suspended])), (k, .inr (1, [.ref sh, .ref ch, .int dealt, .long epoch, .long base, .long whole, .long signing, .long pp, .long qq, .long modulus, .long order])), (bu, .inr (0, [.ref bys, .int size]))] H)  : xc_Met l y_ST_requireDocument (.code y_ST_requireDocument b_ST_requireDocument 1 none) ({ frames := 7, cells := 2, slots := 12, locals := 94 } : Room) (xg_Pc G [.ref x] H) (xt_ro (g_ST_requireDocument dealt size) none H) (fun _ => False) := by
  refine xc_ofW (by decide) ?_
  intro p e s m args below meth c s₁ B hml hE hv
  obtain ⟨rfl, rfl, hw⟩ := hv
  have hx := B.exec
  have hb := B.bytes
  have ht := B.returns
  have hl0 := B.notSynchronized
  have S : xc_Fix p m c b_ST_requireDocument 1 s "SealTrust" := ⟨hx, hb, hml, findClass_of_methodNamed B.named⟩
  have hl := lv_entry ([.ref x]) (n := 1) (Nat.le_of_ble_eq_true rfl)
  rw [lg_entry_eq]
  generalize (lg_sl ([.ref x]) ++ List.replicate (1 - (lg_sl ([.ref x])).length) Slot.unset).toArray = ls at hl ⊢
  have hl : lv_has ls 1 [(0, .ref x)] := hl
  obtain ⟨r0, hr0⟩ : ∃ r, g_ST_requireDocument dealt size = r := ⟨_, rfl⟩
  rw [hr0]
  unfold g_ST_requireDocument at hr0
  show W p l e ({ frames := 7, cells := 2, slots := 12, locals := 94 } : Room) s m _ below meth c s.heap [] 0 0 (xc_Z below _ _ _ s 2 12) _
  refine lv_aload_n hx hb d_ST_requireDocument_0 rfl (lv_at hl 0 rfl) ?_
  refine xt_use (xg_runV (rest := []) (kw := 0) si_ST_197 hg hw S (va_recv (xg_k hg hw) hP (ci := 3) rfl (q0 := 0) rfl) (ct_ST_requireKey l hg hl9 s.heap hO x k bu ma se motionCount sealedCount suspended sh ch dealt epoch base whole signing pp qq modulus order (hP.sub [0, 1] rfl) ) ⟨by decide, by decide, by decide, by decide⟩ rfl hl.1 rfl (Nat.le_of_ble_eq_true rfl) d_ST_requireDocument_1) hl0 hE (by decide) (by decide) (fun E9 H9 h9 hF9 => ?_) (fun q1 => ?_)
  · rw [xt_el1 h9, h9] at hr0
    subst hr0
    exact xt_ro1 hF9
  · rw [xt_el0 q1] at hr0
    refine lv_aload_n hx hb d_ST_requireDocument_4 rfl (lv_at hl 0 rfl) ?_
    refine gf_ST_19 hg hw S hP 0 rfl rfl d_ST_requireDocument_5 ?_
    refine xg_read (xg_runV (rest := []) (kw := 0) si_ST_77 hg hw S (va_recv (xg_k hg hw) hP (ci := 0) rfl (q0 := 2) rfl) (ct_BU_count l hg s.heap bu bys size (hP.sub [2] rfl) ) ⟨by decide, by decide, by decide, by decide⟩ rfl hl.1 rfl (Nat.le_of_ble_eq_true rfl) d_ST_requireDocument_8) ?_
    refine lv_if_ne hx hb d_ST_requireDocument_11 (tgt := 24) (by decide) (fun h11 => ?_) (fun h11 => ?_)
    · rw [if_neg h11] at hr0
      subst hr0
      refine W.widen (k := 2) (n := 12) (Nat.le_of_ble_eq_true rfl) (Nat.le_of_ble_eq_true rfl) ?_
      exact xc_vret hx hb ht hl0 xc_F.rf (fun _ h => nomatch h) xt_ro0 d_ST_requireDocument_24
    · rw [if_pos h11] at hr0
      subst hr0
      exact th_2 hg hw hO S hl9 hl0 hE sw_232 hl.1 d_ST_requireDocument_14 d_ST_requireDocument_17 d_ST_requireDocument_18 d_ST_requireDocument_20 d_ST_requireDocument_23 ⟨by decide, by decide, by decide, by decide⟩ ⟨by decide, by decide⟩ (fun _ h => xt_ro1 h)
def g_ST_motionAt (number : Int32) (motionCount : Int32) : Option String := if number < 0 then (some xt_NS) else (if number < motionCount then none else (some xt_NS))
set_option maxHeartbeats 4000000 in
set_option maxRecDepth 100000 in
theorem ct_ST_motionAt (l : Launch) {G : xg_G} (hg : xg_F G) (hl9 : l.stackTraces = false) (H : Heap) (hO : xg_O G H) (x : Nat) (number : Int32) (k : Nat) (bu : Nat) (ma : Nat) (se : Nat) (motionCount : Int32) (sealedCount : Int32) (suspended : Int32) (mot : Nat → Option Nat) (hP : va_P G.2.1 cl_all [(x, .inr (3, [.ref k, .ref bu, .ref ma, .ref se, .int motionCount, .int sealedCount, .int suspended])), (ma, .inl (G.2.2.2.2, 12, .inr (.inr (.inr (.inr mot)))))] H) (hC : motionCount.toInt ≤ 12) (mo : Nat) (hM : ¬ number < 0 → number < motionCount → mot number.toNatClampNeg = some mo) : xc_Met l y_ST_motionAt (.code y_ST_motionAt b_ST_motionAt 2 (some (.object "SealTrust$Motion"))) ({ frames := 6, cells := 1, slots := 6, locals := 82 } : Room) (xg_Pc G [.ref x, .int number] H) (xt_ro (g_ST_motionAt number motionCount) (some (.ref mo)) H) (fun _ => False) := by
  refine xc_ofW (by decide) ?_
  intro p e s m args below meth c s₁ B hml hE hv
  obtain ⟨rfl, rfl, hw⟩ := hv
  have hx := B.exec
  have hb := B.bytes
  have ht := B.returns
  have hl0 := B.notSynchronized
  have S : xc_Fix p m c b_ST_motionAt 2 s "SealTrust" := ⟨hx, hb, hml, findClass_of_methodNamed B.named⟩
  have hl := lv_entry ([.ref x, .int number]) (n := 2) (Nat.le_of_ble_eq_true rfl)
  rw [lg_entry_eq]
  generalize (lg_sl ([.ref x, .int number]) ++ List.replicate (2 - (lg_sl ([.ref x, .int number])).length) Slot.unset).toArray = ls at hl ⊢
  have hl : lv_has ls 2 [(0, .ref x), (1, .int number)] := hl
  obtain ⟨r0, hr0⟩ : ∃ r, g_ST_motionAt number motionCount = r := ⟨_, rfl⟩
  rw [hr0]
  unfold g_ST_motionAt at hr0
  show W p l e ({ frames := 6, cells := 1, slots := 6, locals := 82 } : Room) s m _ below meth c s.heap [] 0 0 (xc_Z below _ _ _ s 1 6) _
  refine lv_iload_n hx hb d_ST_motionAt_0 rfl (lv_at hl 1 rfl) ?_
  refine lv_if_lt hx hb d_ST_motionAt_1 (tgt := 12) (by decide) (fun h1 => ?_) (fun h1 => ?_)
  · rw [if_pos h1] at hr0
    subst hr0
    exact th_4 hg hw hO S hl9 hl0 hE sw_234 hl.1 d_ST_motionAt_12 d_ST_motionAt_15 d_ST_motionAt_16 d_ST_motionAt_18 d_ST_motionAt_21 ⟨by decide, by decide, by decide, by decide⟩ ⟨by decide, by decide⟩ (fun _ h => xt_ro1 h)
  · rw [if_neg h1] at hr0
    refine lv_iload_n hx hb d_ST_motionAt_4 rfl (lv_at hl 1 rfl) ?_
    refine lv_aload_n hx hb d_ST_motionAt_5 rfl (lv_at hl 0 rfl) ?_
    refine gf_ST_57 hg hw S hP 0 rfl rfl d_ST_motionAt_6 ?_
    refine lv_icmp_lt hx hb d_ST_motionAt_9 (tgt := 22) (by decide) (fun h9 => ?_) (fun h9 => ?_)
    · rw [if_pos h9] at hr0
      refine lv_aload_n hx hb d_ST_motionAt_22 rfl (lv_at hl 0 rfl) ?_
      refine gf_ST_25 hg hw S hP 0 rfl rfl d_ST_motionAt_23 ?_
      refine lv_iload_n hx hb d_ST_motionAt_26 rfl (lv_at hl 1 rfl) ?_
      refine va_aldq hx hb (xg_k hg hw) hP 1 2 rfl rfl (xs_min h1 h9 hC) d_ST_motionAt_27 ?_
      refine W.eq (g2 := F0 m 28 ls [.ref mo]) (by rw [(hM h1 h9)]; rfl) ?_
      subst hr0
      refine W.widen (k := 1) (n := 6) (Nat.le_of_ble_eq_true rfl) (Nat.le_of_ble_eq_true rfl) ?_
      exact xc_aret hx hb ht hl0 xc_F.rf (fun _ h => nomatch h) xt_ro0 d_ST_motionAt_28
    · rw [if_neg h9] at hr0
      subst hr0
      exact th_4 hg hw hO S hl9 hl0 hE sw_234 hl.1 d_ST_motionAt_12 d_ST_motionAt_15 d_ST_motionAt_16 d_ST_motionAt_18 d_ST_motionAt_21 ⟨by decide, by decide, by decide, by decide⟩ ⟨by decide, by decide⟩ (fun _ h => xt_ro1 h)
def g_ST_requireTrustee (trustee : Int32) : Option String := if trustee < 0 then (some xt_NS) else (if trustee < (6 : Int32) then none else (some xt_NS))
set_option maxHeartbeats 4000000 in
set_option maxRecDepth 100000 in
theorem ct_ST_requireTrustee (l : Launch) {G : xg_G} (hg : xg_F G) (hl9 : l.stackTraces = false) (H : Heap) (hO : xg_O G H) (trustee : Int32)  : xc_Met l y_ST_requireTrustee (.code y_ST_requireTrustee b_ST_requireTrustee 1 none) ({ frames := 6, cells := 1, slots := 6, locals := 82 } : Room) (xg_Pc G [.int trustee] H) (xt_ro (g_ST_requireTrustee trustee) none H) (fun _ => False) := by
  refine xc_ofW (by decide) ?_
  intro p e s m args below meth c s₁ B hml hE hv
  obtain ⟨rfl, rfl, hw⟩ := hv
  have hx := B.exec
  have hb := B.bytes
  have ht := B.returns
  have hl0 := B.notSynchronized
  have S : xc_Fix p m c b_ST_requireTrustee 1 s "SealTrust" := ⟨hx, hb, hml, findClass_of_methodNamed B.named⟩
  have hl := lv_entry ([.int trustee]) (n := 1) (Nat.le_of_ble_eq_true rfl)
  rw [lg_entry_eq]
  generalize (lg_sl ([.int trustee]) ++ List.replicate (1 - (lg_sl ([.int trustee])).length) Slot.unset).toArray = ls at hl ⊢
  have hl : lv_has ls 1 [(0, .int trustee)] := hl
  obtain ⟨r0, hr0⟩ : ∃ r, g_ST_requireTrustee trustee = r := ⟨_, rfl⟩
  rw [hr0]
  unfold g_ST_requireTrustee at hr0
  show W p l e ({ frames := 6, cells := 1, slots := 6, locals := 82 } : Room) s m _ below meth c s.heap [] 0 0 (xc_Z below _ _ _ s 1 6) _
  refine lv_iload_n hx hb d_ST_requireTrustee_0 rfl (lv_at hl 0 rfl) ?_
  refine lv_if_lt hx hb d_ST_requireTrustee_1 (tgt := 10) (by decide) (fun h1 => ?_) (fun h1 => ?_)
  · rw [if_pos h1] at hr0
    subst hr0
    exact th_4 hg hw hO S hl9 hl0 hE sw_236 hl.1 d_ST_requireTrustee_10 d_ST_requireTrustee_13 d_ST_requireTrustee_14 d_ST_requireTrustee_16 d_ST_requireTrustee_19 ⟨by decide, by decide, by decide, by decide⟩ ⟨by decide, by decide⟩ (fun _ h => xt_ro1 h)
  · rw [if_neg h1] at hr0
    refine lv_iload_n hx hb d_ST_requireTrustee_4 rfl (lv_at hl 0 rfl) ?_
    refine lv_bipush (v := (6 : Int32)) hx hb d_ST_requireTrustee_5 (by decide) ?_
    refine lv_icmp_lt hx hb d_ST_requireTrustee_7 (tgt := 20) (by decide) (fun h7 => ?_) (fun h7 => ?_)
    · rw [if_pos h7] at hr0
      subst hr0
      refine W.widen (k := 1) (n := 6) (Nat.le_of_ble_eq_true rfl) (Nat.le_of_ble_eq_true rfl) ?_
      exact xc_vret hx hb ht hl0 xc_F.rf (fun _ h => nomatch h) xt_ro0 d_ST_requireTrustee_20
    · rw [if_neg h7] at hr0
      subst hr0
      exact th_4 hg hw hO S hl9 hl0 hE sw_236 hl.1 d_ST_requireTrustee_10 d_ST_requireTrustee_13 d_ST_requireTrustee_14 d_ST_requireTrustee_16 d_ST_requireTrustee_19 ⟨by decide, by decide, by decide, by decide⟩ ⟨by decide, by decide⟩ (fun _ h => xt_ro1 h)
def g_ST_requireOpen (standing : Int32) : Option String := if standing = 0 then none else (some xt_IS)
set_option maxHeartbeats 4000000 in
set_option maxRecDepth 100000 in
theorem ct_ST_requireOpen (l : Launch) {G : xg_G} (hg : xg_F G) (hl9 : l.stackTraces = false) (H : Heap) (hO : xg_O G H) (mo : Nat) (pw : Nat) (cg : Nat) (an : Nat) (standing : Int32) (block : Int64) (partials : Int32) (objections : Int32) (signature : Int64) (hP : va_P G.2.1 cl_all [(mo, .inr (2, [.ref pw, .ref cg, .ref an, .int standing, .long block, .int partials, .int objections, .long signature]))] H)  : xc_Met l y_ST_requireOpen (.code y_ST_requireOpen b_ST_requireOpen 1 none) ({ frames := 6, cells := 1, slots := 6, locals := 82 } : Room) (xg_Pc G [.ref mo] H) (xt_ro (g_ST_requireOpen standing) none H) (fun _ => False) := by
  refine xc_ofW (by decide) ?_
  intro p e s m args below meth c s₁ B hml hE hv
  obtain ⟨rfl, rfl, hw⟩ := hv
  have hx := B.exec
  have hb := B.bytes
  have ht := B.returns
  have hl0 := B.notSynchronized
  have S : xc_Fix p m c b_ST_requireOpen 1 s "SealTrust" := ⟨hx, hb, hml, findClass_of_methodNamed B.named⟩
  have hl := lv_entry ([.ref mo]) (n := 1) (Nat.le_of_ble_eq_true rfl)
  rw [lg_entry_eq]
  generalize (lg_sl ([.ref mo]) ++ List.replicate (1 - (lg_sl ([.ref mo])).length) Slot.unset).toArray = ls at hl ⊢
  have hl : lv_has ls 1 [(0, .ref mo)] := hl
  obtain ⟨r0, hr0⟩ : ∃ r, g_ST_requireOpen standing = r := ⟨_, rfl⟩
  rw [hr0]
  unfold g_ST_requireOpen at hr0
  show W p l e ({ frames := 6, cells := 1, slots := 6, locals := 82 } : Room) s m _ below meth c s.heap [] 0 0 (xc_Z below _ _ _ s 1 6) _
  refine lv_aload_n hx hb d_ST_requireOpen_0 rfl (lv_at hl 0 rfl) ?_
  refine gf_ST_211 hg hw S hP 0 rfl rfl d_ST_requireOpen_1 ?_
  refine lv_if_eq hx hb d_ST_requireOpen_4 (tgt := 17) (by decide) (fun h4 => ?_) (fun h4 => ?_)
  · rw [if_pos h4] at hr0
    subst hr0
    refine W.widen (k := 1) (n := 6) (Nat.le_of_ble_eq_true rfl) (Nat.le_of_ble_eq_true rfl) ?_
    exact xc_vret hx hb ht hl0 xc_F.rf (fun _ h => nomatch h) xt_ro0 d_ST_requireOpen_17
  · rw [if_neg h4] at hr0
    subst hr0
    exact th_2 hg hw hO S hl9 hl0 hE sw_238 hl.1 d_ST_requireOpen_7 d_ST_requireOpen_10 d_ST_requireOpen_11 d_ST_requireOpen_13 d_ST_requireOpen_16 ⟨by decide, by decide, by decide, by decide⟩ ⟨by decide, by decide⟩ (fun _ h => xt_ro1 h)
def g_ST_requireNoVoice (partials : Int32) (objections : Int32) (trustee : Int32) : Option String := if (f_ST_isIn (partials ||| objections) trustee) = 0 then none else (some xt_IS)
set_option maxHeartbeats 4000000 in
set_option maxRecDepth 100000 in
theorem ct_ST_requireNoVoice (l : Launch) {G : xg_G} (hg : xg_F G) (hl9 : l.stackTraces = false) (H : Heap) (hO : xg_O G H) (mo : Nat) (trustee : Int32) (pw : Nat) (cg : Nat) (an : Nat) (standing : Int32) (block : Int64) (partials : Int32) (objections : Int32) (signature : Int64) (hP : va_P G.2.1 cl_all [(mo, .inr (2, [.ref pw, .ref cg, .ref an, .int standing, .long block, .int partials, .int objections, .long signature]))] H)  : xc_Met l y_ST_requireNoVoice (.code y_ST_requireNoVoice b_ST_requireNoVoice 2 none) ({ frames := 6, cells := 1, slots := 6, locals := 82 } : Room) (xg_Pc G [.ref mo, .int trustee] H) (xt_ro (g_ST_requireNoVoice partials objections trustee) none H) (fun _ => False) := by
  refine xc_ofW (by decide) ?_
  intro p e s m args below meth c s₁ B hml hE hv
  obtain ⟨rfl, rfl, hw⟩ := hv
  have hx := B.exec
  have hb := B.bytes
  have ht := B.returns
  have hl0 := B.notSynchronized
  have S : xc_Fix p m c b_ST_requireNoVoice 2 s "SealTrust" := ⟨hx, hb, hml, findClass_of_methodNamed B.named⟩
  have hl := lv_entry ([.ref mo, .int trustee]) (n := 2) (Nat.le_of_ble_eq_true rfl)
  rw [lg_entry_eq]
  generalize (lg_sl ([.ref mo, .int trustee]) ++ List.replicate (2 - (lg_sl ([.ref mo, .int trustee])).length) Slot.unset).toArray = ls at hl ⊢
  have hl : lv_has ls 2 [(0, .ref mo), (1, .int trustee)] := hl
  obtain ⟨r0, hr0⟩ : ∃ r, g_ST_requireNoVoice partials objections trustee = r := ⟨_, rfl⟩
  rw [hr0]
  unfold g_ST_requireNoVoice at hr0
  show W p l e ({ frames := 6, cells := 1, slots := 6, locals := 82 } : Room) s m _ below meth c s.heap [] 0 0 (xc_Z below _ _ _ s 1 6) _
  refine lv_aload_n hx hb d_ST_requireNoVoice_0 rfl (lv_at hl 0 rfl) ?_
  refine gf_ST_135 hg hw S hP 0 rfl rfl d_ST_requireNoVoice_1 ?_
  refine lv_aload_n hx hb d_ST_requireNoVoice_4 rfl (lv_at hl 0 rfl) ?_
  refine gf_ST_126 hg hw S hP 0 rfl rfl d_ST_requireNoVoice_5 ?_
  refine lv_ior hx hb d_ST_requireNoVoice_8 ?_
  refine lv_iload_n hx hb d_ST_requireNoVoice_9 rfl (lv_at hl 1 rfl) ?_
  refine xg_read (xg_runS (rest := []) (kw := 0) si_ST_114 hg hw S (ct_ST_isIn l hg s.heap (partials ||| objections) trustee ) ⟨by decide, by decide, by decide, by decide⟩ rfl hl.1 rfl (Nat.le_of_ble_eq_true rfl) d_ST_requireNoVoice_10) ?_
  refine lv_if_eq hx hb d_ST_requireNoVoice_13 (tgt := 26) (by decide) (fun h13 => ?_) (fun h13 => ?_)
  · rw [if_pos h13] at hr0
    subst hr0
    refine W.widen (k := 1) (n := 6) (Nat.le_of_ble_eq_true rfl) (Nat.le_of_ble_eq_true rfl) ?_
    exact xc_vret hx hb ht hl0 xc_F.rf (fun _ h => nomatch h) xt_ro0 d_ST_requireNoVoice_26
  · rw [if_neg h13] at hr0
    subst hr0
    exact th_2 hg hw hO S hl9 hl0 hE sw_240 hl.1 d_ST_requireNoVoice_16 d_ST_requireNoVoice_19 d_ST_requireNoVoice_20 d_ST_requireNoVoice_22 d_ST_requireNoVoice_25 ⟨by decide, by decide, by decide, by decide⟩ ⟨by decide, by decide⟩ (fun _ h => xt_ro1 h)
end
