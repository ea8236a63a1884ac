/-! functions of numbers: what each computes, and its contract -/
def f_ST_mixIn (mixed : Int64) (number : Int64) : Int64 := ((mixed ^^^ number) * (6364136223846793005 : Int64)) + (1442695040888963407 : Int64)
set_option maxHeartbeats 4000000 in
set_option maxRecDepth 100000 in
theorem ct_ST_mixIn (l : Launch) {G : xg_G} (hg : xg_F G) (H : Heap) (mixed : Int64) (number : Int64)  : xc_Met l y_ST_mixIn (.code y_ST_mixIn b_ST_mixIn 4 (some .long)) ({ frames := 0, cells := 0, slots := 0, locals := 0 } : Room) (xg_Pc G [.long mixed, .long number] H) (xc_ro (some (.long (f_ST_mixIn mixed number))) H) (fun _ => False) := by
  refine xc_ofW (by decide) ?_
  intro p e s m args below meth c s₁ B hml hE hv
  obtain ⟨rfl, rfl, hw⟩ := hv
  have hx := B.exec
  have hb := B.bytes
  have ht := B.returns
  have hl0 := B.notSynchronized
  have S : xc_Fix p m c b_ST_mixIn 4 s "SealTrust" := ⟨hx, hb, hml, findClass_of_methodNamed B.named⟩
  have hl := lv_entry ([.long mixed, .long number]) (n := 4) (Nat.le_of_ble_eq_true rfl)
  rw [lg_entry_eq]
  generalize (lg_sl ([.long mixed, .long number]) ++ List.replicate (4 - (lg_sl ([.long mixed, .long number])).length) Slot.unset).toArray = ls at hl ⊢
  have hl : lv_has ls 4 [(0, .long mixed), (2, .long number)] := hl
  obtain ⟨r, hr⟩ : ∃ r, f_ST_mixIn mixed number = r := ⟨_, rfl⟩
  rw [hr]
  unfold f_ST_mixIn at hr
  refine lv_lload_n hx hb d_ST_mixIn_0 rfl (lv_at hl 0 rfl) ?_
  refine lv_lload_n hx hb d_ST_mixIn_1 rfl (lv_at hl 1 rfl) ?_
  refine lv_lxor hx hb d_ST_mixIn_2 ?_
  refine kc_ST_252 hg hw S d_ST_mixIn_3 ?_
  refine lv_lmul hx hb d_ST_mixIn_6 ?_
  refine kc_ST_254 hg hw S d_ST_mixIn_7 ?_
  refine lv_ladd hx hb d_ST_mixIn_10 ?_
  exact xg_lret hx hb ht hl0 hr d_ST_mixIn_11
def f_ST_mixOf (mixed : Int64) : Int64 := (mixed.toUInt64 >>> ((33 : Int32).toInt64.toUInt64 &&& Int64.toUInt64 63)).toInt64
set_option maxHeartbeats 4000000 in
set_option maxRecDepth 100000 in
theorem ct_ST_mixOf (l : Launch) {G : xg_G} (hg : xg_F G) (H : Heap) (mixed : Int64)  : xc_Met l y_ST_mixOf (.code y_ST_mixOf b_ST_mixOf 2 (some .long)) ({ frames := 0, cells := 0, slots := 0, locals := 0 } : Room) (xg_Pc G [.long mixed] H) (xc_ro (some (.long (f_ST_mixOf mixed))) H) (fun _ => False) := by
  refine xc_ofW (by decide) ?_
  intro p e s m args below meth c s₁ B hml hE hv
  obtain ⟨rfl, rfl, hw⟩ := hv
  have hx := B.exec
  have hb := B.bytes
  have ht := B.returns
  have hl0 := B.notSynchronized
  have S : xc_Fix p m c b_ST_mixOf 2 s "SealTrust" := ⟨hx, hb, hml, findClass_of_methodNamed B.named⟩
  have hl := lv_entry ([.long mixed]) (n := 2) (Nat.le_of_ble_eq_true rfl)
  rw [lg_entry_eq]
  generalize (lg_sl ([.long mixed]) ++ List.replicate (2 - (lg_sl ([.long mixed])).length) Slot.unset).toArray = ls at hl ⊢
  have hl : lv_has ls 2 [(0, .long mixed)] := hl
  obtain ⟨r, hr⟩ : ∃ r, f_ST_mixOf mixed = r := ⟨_, rfl⟩
  rw [hr]
  unfold f_ST_mixOf at hr
  refine lv_lload_n hx hb d_ST_mixOf_0 rfl (lv_at hl 0 rfl) ?_
  refine lv_bipush (v := (33 : Int32)) hx hb d_ST_mixOf_1 (by decide) ?_
  refine lv_lushr hx hb d_ST_mixOf_3 rfl ?_
  exact xg_lret hx hb ht hl0 hr d_ST_mixOf_4
def f_ST_rest (number : Int64) (divisor : Int64) : Int64 := if (0 : Int64) < divisor then (if (0 : Int64) ≤ (number - number / divisor * divisor) then (number - number / divisor * divisor) else ((number - number / divisor * divisor) + divisor)) else (0 : Int64)
set_option maxHeartbeats 4000000 in
set_option maxRecDepth 100000 in
theorem ct_ST_rest (l : Launch) {G : xg_G} (hg : xg_F G) (H : Heap) (number : Int64) (divisor : Int64)  : xc_Met l y_ST_rest (.code y_ST_rest b_ST_rest 6 (some .long)) ({ frames := 0, cells := 0, slots := 0, locals := 0 } : Room) (xg_Pc G [.long number, .long divisor] H) (xc_ro (some (.long (f_ST_rest number divisor))) H) (fun _ => False) := by
  refine xc_ofW (by decide) ?_
  intro p e s m args below meth c s₁ B hml hE hv
  obtain ⟨rfl, rfl, hw⟩ := hv
  have hx := B.exec
  have hb := B.bytes
  have ht := B.returns
  have hl0 := B.notSynchronized
  have S : xc_Fix p m c b_ST_rest 6 s "SealTrust" := ⟨hx, hb, hml, findClass_of_methodNamed B.named⟩
  have hl := lv_entry ([.long number, .long divisor]) (n := 6) (Nat.le_of_ble_eq_true rfl)
  rw [lg_entry_eq]
  generalize (lg_sl ([.long number, .long divisor]) ++ List.replicate (6 - (lg_sl ([.long number, .long divisor])).length) Slot.unset).toArray = ls at hl ⊢
  have hl : lv_has ls 6 [(0, .long number), (2, .long divisor)] := hl
  obtain ⟨r, hr⟩ : ∃ r, f_ST_rest number divisor = r := ⟨_, rfl⟩
  rw [hr]
  unfold f_ST_rest at hr
  refine lv_lload_n hx hb d_ST_rest_0 rfl (lv_at hl 1 rfl) ?_
  refine lv_lconst (v := (0 : Int64)) hx hb d_ST_rest_1 (by decide) ?_
  refine W.lcmp hx hb d_ST_rest_2 ?_
  refine lv_if_gt hx hb d_ST_rest_3 (tgt := 8) (by decide) (fun h3 => ?_) (fun h3 => ?_)
  · rw [lg_cmp_gt] at h3
    rw [if_pos h3] at hr
    refine lv_lload_n hx hb d_ST_rest_8 rfl (lv_at hl 0 rfl) ?_
    refine lv_lload_n hx hb d_ST_rest_9 rfl (lv_at hl 1 rfl) ?_
    refine lv_lrem hx hb d_ST_rest_10 (xi_0l h3) ?_
    refine lv_lstore hx hb d_ST_rest_11 hl (by decide) rfl (fun ls hl => ?_)
    have hl : lv_has ls 6 [(4, .long (number - number / divisor * divisor)), (0, .long number), (2, .long divisor)] := hl
    refine lv_lload hx hb d_ST_rest_13 (lv_at hl 0 rfl) ?_
    refine lv_lconst (v := (0 : Int64)) hx hb d_ST_rest_15 (by decide) ?_
    refine W.lcmp hx hb d_ST_rest_16 ?_
    refine lv_if_ge hx hb d_ST_rest_17 (tgt := 27) (by decide) (fun h17 => ?_) (fun h17 => ?_)
    · rw [lg_cmp_ge] at h17
      rw [if_pos h17] at hr
      refine lv_lload hx hb d_ST_rest_27 (lv_at hl 0 rfl) ?_
      exact xg_lret hx hb ht hl0 hr d_ST_rest_29
    · rw [lg_cmp_ge] at h17
      rw [if_neg h17] at hr
      refine lv_lload hx hb d_ST_rest_20 (lv_at hl 0 rfl) ?_
      refine lv_lload_n hx hb d_ST_rest_22 rfl (lv_at hl 2 rfl) ?_
      refine lv_ladd hx hb d_ST_rest_23 ?_
      refine lv_goto hx hb d_ST_rest_24 (tgt := 29) (by decide) ?_
      exact xg_lret hx hb ht hl0 hr d_ST_rest_29
  · rw [lg_cmp_gt] at h3
    rw [if_neg h3] at hr
    refine lv_lconst (v := (0 : Int64)) hx hb d_ST_rest_6 (by decide) ?_
    exact xg_lret hx hb ht hl0 hr d_ST_rest_7
def f_ST_isIn (bits : Int32) (trustee : Int32) : Int32 := if (((bits.toUInt32 >>> (trustee.toUInt32 &&& Int32.toUInt32 31)).toInt32) &&& (1 : Int32)) = (1 : Int32) then (1 : Int32) else (0 : Int32)
set_option maxHeartbeats 4000000 in
set_option maxRecDepth 100000 in
theorem ct_ST_isIn (l : Launch) {G : xg_G} (hg : xg_F G) (H : Heap) (bits : Int32) (trustee : Int32)  : xc_Met l y_ST_isIn (.code y_ST_isIn b_ST_isIn 2 (some .boolean)) ({ frames := 0, cells := 0, slots := 0, locals := 0 } : Room) (xg_Pc G [.int bits, .int trustee] H) (xc_ro (some (.int (f_ST_isIn bits trustee))) H) (fun _ => False) := by
  refine xc_ofW (by decide) ?_
  intro p e s m args below meth c s₁ B hml hE hv
  obtain ⟨rfl, rfl, hw⟩ := hv
  have hx := B.exec
  have hb := B.bytes
  have ht := B.returns
  have hl0 := B.notSynchronized
  have S : xc_Fix p m c b_ST_isIn 2 s "SealTrust" := ⟨hx, hb, hml, findClass_of_methodNamed B.named⟩
  have hl := lv_entry ([.int bits, .int trustee]) (n := 2) (Nat.le_of_ble_eq_true rfl)
  rw [lg_entry_eq]
  generalize (lg_sl ([.int bits, .int trustee]) ++ List.replicate (2 - (lg_sl ([.int bits, .int trustee])).length) Slot.unset).toArray = ls at hl ⊢
  have hl : lv_has ls 2 [(0, .int bits), (1, .int trustee)] := hl
  obtain ⟨r, hr⟩ : ∃ r, f_ST_isIn bits trustee = r := ⟨_, rfl⟩
  rw [hr]
  unfold f_ST_isIn at hr
  refine lv_iload_n hx hb d_ST_isIn_0 rfl (lv_at hl 0 rfl) ?_
  refine lv_iload_n hx hb d_ST_isIn_1 rfl (lv_at hl 1 rfl) ?_
  refine lv_iushr hx hb d_ST_isIn_2 rfl ?_
  refine lv_iconst (v := (1 : Int32)) hx hb d_ST_isIn_3 (by decide) ?_
  refine lv_iand hx hb d_ST_isIn_4 ?_
  refine lv_iconst (v := (1 : Int32)) hx hb d_ST_isIn_5 (by decide) ?_
  refine lv_icmp_ne hx hb d_ST_isIn_6 (tgt := 13) (by decide) (fun h6 => ?_) (fun h6 => ?_)
  · rw [if_neg h6] at hr
    refine lv_iconst (v := (0 : Int32)) hx hb d_ST_isIn_13 (by decide) ?_
    exact xg_zret hx hb ht hl0 rfl hr d_ST_isIn_14
  · rw [if_pos h6] at hr
    refine lv_iconst (v := (1 : Int32)) hx hb d_ST_isIn_9 (by decide) ?_
    refine lv_goto hx hb d_ST_isIn_10 (tgt := 14) (by decide) ?_
    exact xg_zret hx hb ht hl0 rfl hr d_ST_isIn_14
theorem nb_ST_isIn (bits trustee : Int32) : f_ST_isIn bits trustee = 0 ∨ f_ST_isIn bits trustee = 1 := by
  unfold f_ST_isIn
  split
  · exact Or.inr rfl
  · exact Or.inl rfl
def lf_ST_isPrime_2 (number : Int32) : Nat → Int32 → Int32
  | 0, _ => 0
  | n + 1, d => if number < (d * d) then (if number < (2 : Int32) then (0 : Int32) else (1 : Int32)) else (if (number - number / d * d) = 0 then (0 : Int32) else (lf_ST_isPrime_2 number n (d + (1 : Int32))))
def f_ST_isPrime (number : Int32) : Int32 := lf_ST_isPrime_2 number 200 (2 : Int32)
set_option maxHeartbeats 4000000 in
set_option maxRecDepth 100000 in
theorem wl_ST_isPrime_2 {p : Program} {l : Launch} {e : Env} {s : State} {m : MethodId} {args : Array Value} {below : List Frame} {meth : Method} {c : Code} {G : xg_G} {number : Int32} (hg : xg_F G) (hw : G.1.WarmedH s.vm) (S : xc_Fix p m c b_ST_isPrime 2 s "SealTrust") (hl0 : meth.locks = false) (ht : meth.sig.returnType = (some .boolean)) (hN : number.toInt ≤ 32767) : ∀ (n : Nat) (d : Int32) (r : Int32) (ls : Array Slot), lf_ST_isPrime_2 number n d = r → (2 ≤ d.toInt ∧ d.toInt ≤ 200 ∧ (200 - d.toInt).toNat < n) → lv_has ls 2 [(1, .int d), (0, .int number)] → W p l e ({ frames := 0, cells := 0, slots := 0, locals := 0 } : Room) s m args below meth c s.heap [] 0 0 (xg_Z below (some (.int r)) args s) (F0 m 2 ls []) := by
  have hx := S.1
  have hb := S.2.1
  intro n
  induction n with
  | zero =>
    intro d r ls hr hmu hl
    omega
  | succ n ih =>
    intro d r ls hr hmu hl
    rw [lf_ST_isPrime_2] at hr
    refine lv_iload_n hx hb d_ST_isPrime_2 rfl (lv_at hl 0 rfl) ?_
    refine lv_iload_n hx hb d_ST_isPrime_3 rfl (lv_at hl 0 rfl) ?_
    refine lv_imul hx hb d_ST_isPrime_4 ?_
    refine lv_iload_n hx hb d_ST_isPrime_5 rfl (lv_at hl 1 rfl) ?_
    refine lv_icmp_gt hx hb d_ST_isPrime_6 (tgt := 23) (by decide) (fun h6 => ?_) (fun h6 => ?_)
    · rw [if_pos h6] at hr
      refine lv_iload_n hx hb d_ST_isPrime_23 rfl (lv_at hl 1 rfl) ?_
      refine lv_iconst (v := (2 : Int32)) hx hb d_ST_isPrime_24 (by decide) ?_
      refine lv_icmp_lt hx hb d_ST_isPrime_25 (tgt := 32) (by decide) (fun h25 => ?_) (fun h25 => ?_)
      · rw [if_pos h25] at hr
        refine lv_iconst (v := (0 : Int32)) hx hb d_ST_isPrime_32 (by decide) ?_
        exact xg_zret hx hb ht hl0 rfl hr d_ST_isPrime_33
      · rw [if_neg h25] at hr
        refine lv_iconst (v := (1 : Int32)) hx hb d_ST_isPrime_28 (by decide) ?_
        refine lv_goto hx hb d_ST_isPrime_29 (tgt := 33) (by decide) ?_
        exact xg_zret hx hb ht hl0 rfl hr d_ST_isPrime_33
    · rw [if_neg h6] at hr
      refine lv_iload_n hx hb d_ST_isPrime_9 rfl (lv_at hl 1 rfl) ?_
      refine lv_iload_n hx hb d_ST_isPrime_10 rfl (lv_at hl 0 rfl) ?_
      refine lv_irem hx hb d_ST_isPrime_11 (xi_ne hmu.1) ?_
      refine lv_if_ne hx hb d_ST_isPrime_12 (tgt := 17) (by decide) (fun h12 => ?_) (fun h12 => ?_)
      · rw [if_neg h12] at hr
        refine lv_iinc (v := d + (1 : Int32)) hx hb d_ST_isPrime_17 hl (k := 0) rfl rfl (by decide) rfl (fun ls hl => ?_)
        have hl : lv_has ls 2 [(1, .int (d + (1 : Int32))), (0, .int number)] := hl
        refine lv_goto hx hb d_ST_isPrime_20 (tgt := 2) (by decide) ?_
        exact ih (d + (1 : Int32)) r ls hr (xi_sq hN h6 hmu) (lv_sub hl [0, 1] rfl)
      · rw [if_pos h12] at hr
        refine lv_iconst (v := (0 : Int32)) hx hb d_ST_isPrime_15 (by decide) ?_
        exact xg_zret hx hb ht hl0 rfl hr d_ST_isPrime_16
set_option maxHeartbeats 4000000 in
set_option maxRecDepth 100000 in
theorem ct_ST_isPrime (l : Launch) {G : xg_G} (hg : xg_F G) (H : Heap) (number : Int32) (hN : number.toInt ≤ 32767) : xc_Met l y_ST_isPrime (.code y_ST_isPrime b_ST_isPrime 2 (some .boolean)) ({ frames := 0, cells := 0, slots := 0, locals := 0 } : Room) (xg_Pc G [.int number] H) (xc_ro (some (.int (f_ST_isPrime number))) H) (fun _ => False) := by
  refine xc_ofW (by decide) ?_
  intro p e s m args below meth c s₁ B hml hE hv
  obtain ⟨rfl, rfl, hw⟩ := hv
  have hx := B.exec
  have hb := B.bytes
  have ht := B.returns
  have hl0 := B.notSynchronized
  have S : xc_Fix p m c b_ST_isPrime 2 s "SealTrust" := ⟨hx, hb, hml, findClass_of_methodNamed B.named⟩
  have hl := lv_entry ([.int number]) (n := 2) (Nat.le_of_ble_eq_true rfl)
  rw [lg_entry_eq]
  generalize (lg_sl ([.int number]) ++ List.replicate (2 - (lg_sl ([.int number])).length) Slot.unset).toArray = ls at hl ⊢
  have hl : lv_has ls 2 [(0, .int number)] := hl
  obtain ⟨r, hr⟩ : ∃ r, f_ST_isPrime number = r := ⟨_, rfl⟩
  rw [hr]
  unfold f_ST_isPrime at hr
  refine lv_iconst (v := (2 : Int32)) hx hb d_ST_isPrime_0 (by decide) ?_
  refine lv_istore_n hx hb d_ST_isPrime_1 rfl hl (by decide) rfl (fun ls hl => ?_)
  have hl : lv_has ls 2 [(1, .int (2 : Int32)), (0, .int number)] := hl
  exact wl_ST_isPrime_2 hg hw S hl0 ht hN 200 (2 : Int32) r ls hr (by decide) (lv_sub hl [0, 1] rfl)
def lf_ST_powerModulo_22 (base : Int64) (exponent : Int64) (modulus : Int64) : Nat → Int64 → Int64 → Int64 → Int32 → Int64
  | 0, _, _, _, _ => 0
  | n + 1, result, square, left, bit => if (63 : Int32) ≤ bit then result else (if left ≤ (0 : Int64) then result else (if (left &&& (1 : Int64)) = (1 : Int64) then (lf_ST_powerModulo_22 base exponent modulus n (f_ST_rest (result * square) modulus) (f_ST_rest (square * square) modulus) (left >>> ((1 : Int32).toInt64 &&& 63)) (bit + (1 : Int32))) else (lf_ST_powerModulo_22 base exponent modulus n result (f_ST_rest (square * square) modulus) (left >>> ((1 : Int32).toInt64 &&& 63)) (bit + (1 : Int32)))))
def f_ST_powerModulo (base : Int64) (exponent : Int64) (modulus : Int64) : Int64 := lf_ST_powerModulo_22 base exponent modulus 64 (f_ST_rest (1 : Int64) modulus) (f_ST_rest base modulus) exponent (0 : Int32)
set_option maxHeartbeats 4000000 in
set_option maxRecDepth 100000 in
theorem wl_ST_powerModulo_22 {p : Program} {l : Launch} {e : Env} {s : State} {m : MethodId} {args : Array Value} {below : List Frame} {meth : Method} {c : Code} {G : xg_G} {base : Int64} {exponent : Int64} {modulus : Int64} (hg : xg_F G) (hw : G.1.WarmedH s.vm) (S : xc_Fix p m c b_ST_powerModulo 13 s "SealTrust") (hl0 : meth.locks = false) (ht : meth.sig.returnType = (some .long))  : ∀ (n : Nat) (result : Int64) (square : Int64) (left : Int64) (bit : Int32) (r : Int64) (ls : Array Slot), lf_ST_powerModulo_22 base exponent modulus n result square left bit = r → ((63 : Int32).toInt - bit.toInt).toNat < n → lv_has ls 13 [(12, .int bit), (10, .long left), (8, .long square), (6, .long result), (0, .long base), (2, .long exponent), (4, .long modulus)] → W p l e ({ frames := 1, cells := 0, slots := 0, locals := 17 } : Room) s m args below meth c s.heap [] 0 0 (xg_Z below (some (.long r)) args s) (F0 m 22 ls []) := by
  have hx := S.1
  have hb := S.2.1
  intro n
  induction n with
  | zero =>
    intro result square left bit r ls hr hmu hl
    omega
  | succ n ih =>
    intro result square left bit r ls hr hmu hl
    rw [lf_ST_powerModulo_22] at hr
    refine lv_iload hx hb d_ST_powerModulo_22 (lv_at hl 0 rfl) ?_
    refine lv_bipush (v := (63 : Int32)) hx hb d_ST_powerModulo_24 (by decide) ?_
    refine lv_icmp_ge hx hb d_ST_powerModulo_26 (tgt := 81) (by decide) (fun h26 => ?_) (fun h26 => ?_)
    · rw [if_pos h26] at hr
      refine lv_lload hx hb d_ST_powerModulo_81 (lv_at hl 3 rfl) ?_
      exact xg_lret hx hb ht hl0 hr d_ST_powerModulo_83
    · rw [if_neg h26] at hr
      refine lv_lload hx hb d_ST_powerModulo_29 (lv_at hl 1 rfl) ?_
      refine lv_lconst (v := (0 : Int64)) hx hb d_ST_powerModulo_31 (by decide) ?_
      refine W.lcmp hx hb d_ST_powerModulo_32 ?_
      refine lv_if_le hx hb d_ST_powerModulo_33 (tgt := 81) (by decide) (fun h33 => ?_) (fun h33 => ?_)
      · rw [lg_cmp_le] at h33
        rw [if_pos h33] at hr
        refine lv_lload hx hb d_ST_powerModulo_81 (lv_at hl 3 rfl) ?_
        exact xg_lret hx hb ht hl0 hr d_ST_powerModulo_83
      · rw [lg_cmp_le] at h33
        rw [if_neg h33] at hr
        refine lv_lload hx hb d_ST_powerModulo_36 (lv_at hl 1 rfl) ?_
        refine lv_lconst (v := (1 : Int64)) hx hb d_ST_powerModulo_38 (by decide) ?_
        refine lv_land hx hb d_ST_powerModulo_39 ?_
        refine lv_lconst (v := (1 : Int64)) hx hb d_ST_powerModulo_40 (by decide) ?_
        refine W.lcmp hx hb d_ST_powerModulo_41 ?_
        refine lv_if_ne hx hb d_ST_powerModulo_42 (tgt := 57) (by decide) (fun h42 => ?_) (fun h42 => ?_)
        · rw [lg_cmp_eq] at h42
          rw [if_neg h42] at hr
          refine lv_lload hx hb d_ST_powerModulo_57 (lv_at hl 2 rfl) ?_
          refine lv_lload hx hb d_ST_powerModulo_59 (lv_at hl 2 rfl) ?_
          refine lv_lmul hx hb d_ST_powerModulo_61 ?_
          refine lv_lload hx hb d_ST_powerModulo_62 (lv_at hl 6 rfl) ?_
          refine xg_read (xg_runS (rest := []) (kw := 0) si_ST_256 hg hw S (ct_ST_rest l hg s.heap (square * square) modulus ) ⟨by decide, by decide, by decide, by decide⟩ rfl hl.1 rfl (by decide) d_ST_powerModulo_64) ?_
          refine lv_lstore hx hb d_ST_powerModulo_67 hl (by decide) rfl (fun ls hl => ?_)
          have hl : lv_has ls 13 [(8, .long (f_ST_rest (square * square) modulus)), (12, .int bit), (10, .long left), (6, .long result), (0, .long base), (2, .long exponent), (4, .long modulus)] := hl
          refine lv_lload hx hb d_ST_powerModulo_69 (lv_at hl 2 rfl) ?_
          refine lv_iconst (v := (1 : Int32)) hx hb d_ST_powerModulo_71 (by decide) ?_
          refine lv_lshr hx hb d_ST_powerModulo_72 rfl ?_
          refine lv_lstore hx hb d_ST_powerModulo_73 hl (by decide) rfl (fun ls hl => ?_)
          have hl : lv_has ls 13 [(10, .long (left >>> ((1 : Int32).toInt64 &&& 63))), (8, .long (f_ST_rest (square * square) modulus)), (12, .int bit), (6, .long result), (0, .long base), (2, .long exponent), (4, .long modulus)] := hl
          refine lv_iinc (v := bit + (1 : Int32)) hx hb d_ST_powerModulo_75 hl (k := 2) rfl rfl (by decide) rfl (fun ls hl => ?_)
          have hl : lv_has ls 13 [(12, .int (bit + (1 : Int32))), (10, .long (left >>> ((1 : Int32).toInt64 &&& 63))), (8, .long (f_ST_rest (square * square) modulus)), (6, .long result), (0, .long base), (2, .long exponent), (4, .long modulus)] := hl
          refine lv_goto hx hb d_ST_powerModulo_78 (tgt := 22) (by decide) ?_
          exact ih result (f_ST_rest (square * square) modulus) (left >>> ((1 : Int32).toInt64 &&& 63)) (bit + (1 : Int32)) r ls hr (xi_up h26 hmu) (lv_sub hl [0, 1, 2, 3, 4, 5, 6] rfl)
        · rw [lg_cmp_eq] at h42
          rw [if_pos h42] at hr
          refine lv_lload hx hb d_ST_powerModulo_45 (lv_at hl 3 rfl) ?_
          refine lv_lload hx hb d_ST_powerModulo_47 (lv_at hl 2 rfl) ?_
          refine lv_lmul hx hb d_ST_powerModulo_49 ?_
          refine lv_lload hx hb d_ST_powerModulo_50 (lv_at hl 6 rfl) ?_
          refine xg_read (xg_runS (rest := []) (kw := 0) si_ST_256 hg hw S (ct_ST_rest l hg s.heap (result * square) modulus ) ⟨by decide, by decide, by decide, by decide⟩ rfl hl.1 rfl (by decide) d_ST_powerModulo_52) ?_
          refine lv_lstore hx hb d_ST_powerModulo_55 hl (by decide) rfl (fun ls hl => ?_)
          have hl : lv_has ls 13 [(6, .long (f_ST_rest (result * square) modulus)), (12, .int bit), (10, .long left), (8, .long square), (0, .long base), (2, .long exponent), (4, .long modulus)] := hl
          refine lv_lload hx hb d_ST_powerModulo_57 (lv_at hl 3 rfl) ?_
          refine lv_lload hx hb d_ST_powerModulo_59 (lv_at hl 3 rfl) ?_
          refine lv_lmul hx hb d_ST_powerModulo_61 ?_
          refine lv_lload hx hb d_ST_powerModulo_62 (lv_at hl 6 rfl) ?_
          refine xg_read (xg_runS (rest := []) (kw := 0) si_ST_256 hg hw S (ct_ST_rest l hg s.heap (square * square) modulus ) ⟨by decide, by decide, by decide, by decide⟩ rfl hl.1 rfl (by decide) d_ST_powerModulo_64) ?_
          refine lv_lstore hx hb d_ST_powerModulo_67 hl (by decide) rfl (fun ls hl => ?_)
          have hl : lv_has ls 13 [(8, .long (f_ST_rest (square * square) modulus)), (6, .long (f_ST_rest (result * square) modulus)), (12, .int bit), (10, .long left), (0, .long base), (2, .long exponent), (4, .long modulus)] := hl
          refine lv_lload hx hb d_ST_powerModulo_69 (lv_at hl 3 rfl) ?_
          refine lv_iconst (v := (1 : Int32)) hx hb d_ST_powerModulo_71 (by decide) ?_
          refine lv_lshr hx hb d_ST_powerModulo_72 rfl ?_
          refine lv_lstore hx hb d_ST_powerModulo_73 hl (by decide) rfl (fun ls hl => ?_)
          have hl : lv_has ls 13 [(10, .long (left >>> ((1 : Int32).toInt64 &&& 63))), (8, .long (f_ST_rest (square * square) modulus)), (6, .long (f_ST_rest (result * square) modulus)), (12, .int bit), (0, .long base), (2, .long exponent), (4, .long modulus)] := hl
          refine lv_iinc (v := bit + (1 : Int32)) hx hb d_ST_powerModulo_75 hl (k := 3) rfl rfl (by decide) rfl (fun ls hl => ?_)
          have hl : lv_has ls 13 [(12, .int (bit + (1 : Int32))), (10, .long (left >>> ((1 : Int32).toInt64 &&& 63))), (8, .long (f_ST_rest (square * square) modulus)), (6, .long (f_ST_rest (result * square) modulus)), (0, .long base), (2, .long exponent), (4, .long modulus)] := hl
          refine lv_goto hx hb d_ST_powerModulo_78 (tgt := 22) (by decide) ?_
          exact ih (f_ST_rest (result * square) modulus) (f_ST_rest (square * square) modulus) (left >>> ((1 : Int32).toInt64 &&& 63)) (bit + (1 : Int32)) r ls hr (xi_up h26 hmu) (lv_sub hl [0, 1, 2, 3, 4, 5, 6] rfl)
set_option maxHeartbeats 4000000 in
set_option maxRecDepth 100000 in
theorem ct_ST_powerModulo (l : Launch) {G : xg_G} (hg : xg_F G) (H : Heap) (base : Int64) (exponent : Int64) (modulus : Int64)  : xc_Met l y_ST_powerModulo (.code y_ST_powerModulo b_ST_powerModulo 13 (some .long)) ({ frames := 1, cells := 0, slots := 0, locals := 17 } : Room) (xg_Pc G [.long base, .long exponent, .long modulus] H) (xc_ro (some (.long (f_ST_powerModulo base exponent modulus))) H) (fun _ => False) := by
  refine xc_ofW (by decide) ?_
  intro p e s m args below meth c s₁ B hml hE hv
  obtain ⟨rfl, rfl, hw⟩ := hv
  have hx := B.exec
  have hb := B.bytes
  have ht := B.returns
  have hl0 := B.notSynchronized
  have S : xc_Fix p m c b_ST_powerModulo 13 s "SealTrust" := ⟨hx, hb, hml, findClass_of_methodNamed B.named⟩
  have hl := lv_entry ([.long base, .long exponent, .long modulus]) (n := 13) (Nat.le_of_ble_eq_true rfl)
  rw [lg_entry_eq]
  generalize (lg_sl ([.long base, .long exponent, .long modulus]) ++ List.replicate (13 - (lg_sl ([.long base, .long exponent, .long modulus])).length) Slot.unset).toArray = ls at hl ⊢
  have hl : lv_has ls 13 [(0, .long base), (2, .long exponent), (4, .long modulus)] := hl
  obtain ⟨r, hr⟩ : ∃ r, f_ST_powerModulo base exponent modulus = r := ⟨_, rfl⟩
  rw [hr]
  unfold f_ST_powerModulo at hr
  refine lv_lconst (v := (1 : Int64)) hx hb d_ST_powerModulo_0 (by decide) ?_
  refine lv_lload hx hb d_ST_powerModulo_1 (lv_at hl 2 rfl) ?_
  refine xg_read (xg_runS (rest := []) (kw := 0) si_ST_256 hg hw S (ct_ST_rest l hg s.heap (1 : Int64) modulus ) ⟨by decide, by decide, by decide, by decide⟩ rfl hl.1 rfl (by decide) d_ST_powerModulo_3) ?_
  refine lv_lstore hx hb d_ST_powerModulo_6 hl (by decide) rfl (fun ls hl => ?_)
  have hl : lv_has ls 13 [(6, .long (f_ST_rest (1 : Int64) modulus)), (0, .long base), (2, .long exponent), (4, .long modulus)] := hl
  refine lv_lload_n hx hb d_ST_powerModulo_8 rfl (lv_at hl 1 rfl) ?_
  refine lv_lload hx hb d_ST_powerModulo_9 (lv_at hl 3 rfl) ?_
  refine xg_read (xg_runS (rest := []) (kw := 0) si_ST_256 hg hw S (ct_ST_rest l hg s.heap base modulus ) ⟨by decide, by decide, by decide, by decide⟩ rfl hl.1 rfl (by decide) d_ST_powerModulo_11) ?_
  refine lv_lstore hx hb d_ST_powerModulo_14 hl (by decide) rfl (fun ls hl => ?_)
  have hl : lv_has ls 13 [(8, .long (f_ST_rest base modulus)), (6, .long (f_ST_rest (1 : Int64) modulus)), (0, .long base), (2, .long exponent), (4, .long modulus)] := hl
  refine lv_lload_n hx hb d_ST_powerModulo_16 rfl (lv_at hl 3 rfl) ?_
  refine lv_lstore hx hb d_ST_powerModulo_17 hl (by decide) rfl (fun ls hl => ?_)
  have hl : lv_has ls 13 [(10, .long exponent), (8, .long (f_ST_rest base modulus)), (6, .long (f_ST_rest (1 : Int64) modulus)), (0, .long base), (2, .long exponent), (4, .long modulus)] := hl
  refine lv_iconst (v := (0 : Int32)) hx hb d_ST_powerModulo_19 (by decide) ?_
  refine lv_istore hx hb d_ST_powerModulo_20 hl (by decide) rfl (fun ls hl => ?_)
  have hl : lv_has ls 13 [(12, .int (0 : Int32)), (10, .long exponent), (8, .long (f_ST_rest base modulus)), (6, .long (f_ST_rest (1 : Int64) modulus)), (0, .long base), (2, .long exponent), (4, .long modulus)] := hl
  exact wl_ST_powerModulo_22 hg hw S hl0 ht  64 (f_ST_rest (1 : Int64) modulus) (f_ST_rest base modulus) exponent (0 : Int32) r ls hr (by decide) (lv_sub hl [0, 1, 2, 3, 4, 5, 6] rfl)
def lf_KE_weight_10 (mask : Int32) (i : Int32) : Nat → Int64 → Int64 → Int32 → Int64
  | 0, _, _, _ => 0
  | n + 1, above, below_, j => if (6 : Int32) ≤ j then (if below_ = (0 : Int64) then (0 : Int64) else (above / below_)) else (if j = i then (lf_KE_weight_10 mask i n above below_ (j + (1 : Int32))) else (if (f_ST_isIn mask j) = 0 then (lf_KE_weight_10 mask i n above below_ (j + (1 : Int32))) else (lf_KE_weight_10 mask i n (above * ((j + (1 : Int32)).toInt64)) (below_ * ((j - i).toInt64)) (j + (1 : Int32)))))
def f_KE_weight (mask : Int32) (i : Int32) : Int64 := lf_KE_weight_10 mask i 7 (720 : Int64) (1 : Int64) (0 : Int32)
set_option maxHeartbeats 4000000 in
set_option maxRecDepth 100000 in
theorem wl_KE_weight_10 {p : Program} {l : Launch} {e : Env} {s : State} {m : MethodId} {args : Array Value} {below : List Frame} {meth : Method} {c : Code} {G : xg_G} {mask : Int32} {i : Int32} (hg : xg_F G) (hw : G.1.WarmedH s.vm) (S : xc_Fix p m c b_KE_weight 7 s "SealTrust$Key") (hl0 : meth.locks = false) (ht : meth.sig.returnType = (some .long))  : ∀ (n : Nat) (above : Int64) (below_ : Int64) (j : Int32) (r : Int64) (ls : Array Slot), lf_KE_weight_10 mask i n above below_ j = r → ((6 : Int32).toInt - j.toInt).toNat < n → lv_has ls 7 [(6, .int j), (4, .long below_), (2, .long above), (0, .int mask), (1, .int i)] → W p l e ({ frames := 1, cells := 0, slots := 0, locals := 13 } : Room) s m args below meth c s.heap [] 0 0 (xg_Z below (some (.long r)) args s) (F0 m 10 ls []) := by
  have hx := S.1
  have hb := S.2.1
  intro n
  induction n with
  | zero =>
    intro above below_ j r ls hr hmu hl
    omega
  | succ n ih =>
    intro above below_ j r ls hr hmu hl
    rw [lf_KE_weight_10] at hr
    refine lv_iload hx hb d_KE_weight_10 (lv_at hl 0 rfl) ?_
    refine lv_bipush (v := (6 : Int32)) hx hb d_KE_weight_12 (by decide) ?_
    refine lv_icmp_ge hx hb d_KE_weight_14 (tgt := 56) (by decide) (fun h14 => ?_) (fun h14 => ?_)
    · rw [if_pos h14] at hr
      refine lv_lload hx hb d_KE_weight_56 (lv_at hl 1 rfl) ?_
      refine lv_lconst (v := (0 : Int64)) hx hb d_KE_weight_58 (by decide) ?_
      refine W.lcmp hx hb d_KE_weight_59 ?_
      refine lv_if_ne hx hb d_KE_weight_60 (tgt := 67) (by decide) (fun h60 => ?_) (fun h60 => ?_)
      · rw [lg_cmp_eq] at h60
        rw [if_neg h60] at hr
        refine lv_lload_n hx hb d_KE_weight_67 rfl (lv_at hl 2 rfl) ?_
        refine lv_lload hx hb d_KE_weight_68 (lv_at hl 1 rfl) ?_
        refine lv_ldiv hx hb d_KE_weight_70 h60 ?_
        exact xg_lret hx hb ht hl0 hr d_KE_weight_71
      · rw [lg_cmp_eq] at h60
        rw [if_pos h60] at hr
        refine lv_lconst (v := (0 : Int64)) hx hb d_KE_weight_63 (by decide) ?_
        refine lv_goto hx hb d_KE_weight_64 (tgt := 71) (by decide) ?_
        exact xg_lret hx hb ht hl0 hr d_KE_weight_71
    · rw [if_neg h14] at hr
      refine lv_iload hx hb d_KE_weight_17 (lv_at hl 0 rfl) ?_
      refine lv_iload_n hx hb d_KE_weight_19 rfl (lv_at hl 4 rfl) ?_
      refine lv_icmp_eq hx hb d_KE_weight_20 (tgt := 50) (by decide) (fun h20 => ?_) (fun h20 => ?_)
      · rw [if_pos h20] at hr
        refine lv_iinc (v := j + (1 : Int32)) hx hb d_KE_weight_50 hl (k := 0) rfl rfl (by decide) rfl (fun ls hl => ?_)
        have hl : lv_has ls 7 [(6, .int (j + (1 : Int32))), (4, .long below_), (2, .long above), (0, .int mask), (1, .int i)] := hl
        refine lv_goto hx hb d_KE_weight_53 (tgt := 10) (by decide) ?_
        exact ih above below_ (j + (1 : Int32)) r ls hr (xi_up h14 hmu) (lv_sub hl [0, 1, 2, 3, 4] rfl)
      · rw [if_neg h20] at hr
        refine lv_iload_n hx hb d_KE_weight_23 rfl (lv_at hl 3 rfl) ?_
        refine lv_iload hx hb d_KE_weight_24 (lv_at hl 0 rfl) ?_
        refine xg_read (xg_runSN (rest := []) (kw := 0) si_KE_120 hg hw S (ct_ST_isIn l hg s.heap mask j ) ⟨by decide, by decide, by decide, by decide⟩ rfl hl.1 rfl (by decide) d_KE_weight_26) ?_
        refine lv_if_eq hx hb d_KE_weight_29 (tgt := 50) (by decide) (fun h29 => ?_) (fun h29 => ?_)
        · rw [if_pos h29] at hr
          refine lv_iinc (v := j + (1 : Int32)) hx hb d_KE_weight_50 hl (k := 0) rfl rfl (by decide) rfl (fun ls hl => ?_)
          have hl : lv_has ls 7 [(6, .int (j + (1 : Int32))), (4, .long below_), (2, .long above), (0, .int mask), (1, .int i)] := hl
          refine lv_goto hx hb d_KE_weight_53 (tgt := 10) (by decide) ?_
          exact ih above below_ (j + (1 : Int32)) r ls hr (xi_up h14 hmu) (lv_sub hl [0, 1, 2, 3, 4] rfl)
        · rw [if_neg h29] at hr
          refine lv_lload_n hx hb d_KE_weight_32 rfl (lv_at hl 2 rfl) ?_
          refine lv_iload hx hb d_KE_weight_33 (lv_at hl 0 rfl) ?_
          refine lv_iconst (v := (1 : Int32)) hx hb d_KE_weight_35 (by decide) ?_
          refine lv_iadd hx hb d_KE_weight_36 ?_
          refine lv_i2l hx hb d_KE_weight_37 rfl ?_
          refine lv_lmul hx hb d_KE_weight_38 ?_
          refine lv_lstore_n hx hb d_KE_weight_39 rfl hl (by decide) rfl (fun ls hl => ?_)
          have hl : lv_has ls 7 [(2, .long (above * ((j + (1 : Int32)).toInt64))), (6, .int j), (4, .long below_), (0, .int mask), (1, .int i)] := hl
          refine lv_lload hx hb d_KE_weight_40 (lv_at hl 2 rfl) ?_
          refine lv_iload hx hb d_KE_weight_42 (lv_at hl 1 rfl) ?_
          refine lv_iload_n hx hb d_KE_weight_44 rfl (lv_at hl 4 rfl) ?_
          refine lv_isub hx hb d_KE_weight_45 ?_
          refine lv_i2l hx hb d_KE_weight_46 rfl ?_
          refine lv_lmul hx hb d_KE_weight_47 ?_
          refine lv_lstore hx hb d_KE_weight_48 hl (by decide) rfl (fun ls hl => ?_)
          have hl : lv_has ls 7 [(4, .long (below_ * ((j - i).toInt64))), (2, .long (above * ((j + (1 : Int32)).toInt64))), (6, .int j), (0, .int mask), (1, .int i)] := hl
          refine lv_iinc (v := j + (1 : Int32)) hx hb d_KE_weight_50 hl (k := 2) rfl rfl (by decide) rfl (fun ls hl => ?_)
          have hl : lv_has ls 7 [(6, .int (j + (1 : Int32))), (4, .long (below_ * ((j - i).toInt64))), (2, .long (above * ((j + (1 : Int32)).toInt64))), (0, .int mask), (1, .int i)] := hl
          refine lv_goto hx hb d_KE_weight_53 (tgt := 10) (by decide) ?_
          exact ih (above * ((j + (1 : Int32)).toInt64)) (below_ * ((j - i).toInt64)) (j + (1 : Int32)) r ls hr (xi_up h14 hmu) (lv_sub hl [0, 1, 2, 3, 4] rfl)
set_option maxHeartbeats 4000000 in
set_option maxRecDepth 100000 in
theorem ct_KE_weight (l : Launch) {G : xg_G} (hg : xg_F G) (H : Heap) (mask : Int32) (i : Int32)  : xc_Met l y_KE_weight (.code y_KE_weight b_KE_weight 7 (some .long)) ({ frames := 1, cells := 0, slots := 0, locals := 13 } : Room) (xg_Pc G [.int mask, .int i] H) (xc_ro (some (.long (f_KE_weight mask i))) H) (fun _ => False) := by
  refine xc_ofW (by decide) ?_
  intro p e s m args below meth c s₁ B hml hE hv
  obtain ⟨rfl, rfl, hw⟩ := hv
  have hx := B.exec
  have hb := B.bytes
  have ht := B.returns
  have hl0 := B.notSynchronized
  have S : xc_Fix p m c b_KE_weight 7 s "SealTrust$Key" := ⟨hx, hb, hml, findClass_of_methodNamed B.named⟩
  have hl := lv_entry ([.int mask, .int i]) (n := 7) (Nat.le_of_ble_eq_true rfl)
  rw [lg_entry_eq]
  generalize (lg_sl ([.int mask, .int i]) ++ List.replicate (7 - (lg_sl ([.int mask, .int i])).length) Slot.unset).toArray = ls at hl ⊢
  have hl : lv_has ls 7 [(0, .int mask), (1, .int i)] := hl
  obtain ⟨r, hr⟩ : ∃ r, f_KE_weight mask i = r := ⟨_, rfl⟩
  rw [hr]
  unfold f_KE_weight at hr
  refine kc_KE_128 hg hw S d_KE_weight_0 ?_
  refine lv_lstore_n hx hb d_KE_weight_3 rfl hl (by decide) rfl (fun ls hl => ?_)
  have hl : lv_has ls 7 [(2, .long (720 : Int64)), (0, .int mask), (1, .int i)] := hl
  refine lv_lconst (v := (1 : Int64)) hx hb d_KE_weight_4 (by decide) ?_
  refine lv_lstore hx hb d_KE_weight_5 hl (by decide) rfl (fun ls hl => ?_)
  have hl : lv_has ls 7 [(4, .long (1 : Int64)), (2, .long (720 : Int64)), (0, .int mask), (1, .int i)] := hl
  refine lv_iconst (v := (0 : Int32)) hx hb d_KE_weight_7 (by decide) ?_
  refine lv_istore hx hb d_KE_weight_8 hl (by decide) rfl (fun ls hl => ?_)
  have hl : lv_has ls 7 [(6, .int (0 : Int32)), (4, .long (1 : Int64)), (2, .long (720 : Int64)), (0, .int mask), (1, .int i)] := hl
  exact wl_KE_weight_10 hg hw S hl0 ht  7 (720 : Int64) (1 : Int64) (0 : Int32) r ls hr (by decide) (lv_sub hl [0, 1, 2, 3, 4] rfl)
