/-! the reference: parts -/
def lb_up (mask i : Int32) : Nat → Int64 → Int64 → Int32 → Int64
  | 0, _, _, _ => 0
  | n + 1, up, dn, j => if (6 : Int32) ≤ j then up else (if j = i then (lb_up mask i n up dn (j + (1 : Int32))) else (if ((mask >>> (j &&& 31)) &&& (1 : Int32)) = (1 : Int32) then (lb_up mask i n (up * ((j + (1 : Int32)).toInt64)) (dn * ((j - i).toInt64)) (j + (1 : Int32))) else (lb_up mask i n up dn (j + (1 : Int32)))))
def lb_dn (mask i : Int32) : Nat → Int64 → Int64 → Int32 → Int64
  | 0, _, _, _ => 0
  | n + 1, up, dn, j => if (6 : Int32) ≤ j then dn else (if j = i then (lb_dn mask i n up dn (j + (1 : Int32))) else (if ((mask >>> (j &&& 31)) &&& (1 : Int32)) = (1 : Int32) then (lb_dn mask i n (up * ((j + (1 : Int32)).toInt64)) (dn * ((j - i).toInt64)) (j + (1 : Int32))) else (lb_dn mask i n up dn (j + (1 : Int32)))))
set_option maxHeartbeats 4000000 in
set_option maxRecDepth 100000 in
theorem wb_MD_parts_82 {p : Program} {l : Launch} {e : Env} {R : Room} {s : State} {m : MethodId} {args : Array Value} {below : List Frame} {meth : Method} {c : Code} {H : Heap} {locs : List Loc} {cells slots : Nat} {Q : State → Prop} {mask i : Int32} {sum : Int64} {y_ : Nat} (hx : p.tables.exec = Jvm.exec) (hb : c.code = b_MD_parts) : ∀ (n : Nat) (up dn : Int64) (j : Int32) (ru rd : Int64) (ls : Array Slot), lb_up mask i n up dn j = ru → lb_dn mask i n up dn j = rd → ((6 : Int32).toInt - j.toInt).toNat < n → lv_has ls 10 [(9, .int j), (7, .long dn), (5, .long up), (4, .int i), (2, .long sum), (0, .ref y_), (1, .int mask)] → (∀ ls, lv_has ls 10 [(7, .long rd), (5, .long ru), (4, .int i), (2, .long sum), (0, .ref y_), (1, .int mask)] → W p l e R s m args below meth c H locs cells slots Q (F0 m 133 ls [])) → W p l e R s m args below meth c H locs cells slots Q (F0 m 82 ls []) := by
  intro n
  induction n with
  | zero =>
    intro up dn j ru rd ls hu hd hmu
    omega
  | succ n ih =>
    intro up dn j ru rd ls hu hd hmu hl kk
    rw [lb_up] at hu
    rw [lb_dn] at hd
    refine lv_iload hx hb d_MD_parts_82 (lv_at hl 0 rfl) ?_
    refine lv_bipush (v := (6 : Int32)) hx hb d_MD_parts_84 (by decide) ?_
    refine lv_icmp_ge hx hb d_MD_parts_86 (tgt := 133) (by decide) (fun h86 => ?_) (fun h86 => ?_)
    · rw [if_pos h86] at hu
      rw [if_pos h86] at hd
      subst hu
      subst hd
      exact kk ls (lv_sub hl [1, 2, 3, 4, 5, 6] rfl)
    · rw [if_neg h86] at hu
      rw [if_neg h86] at hd
      refine lv_iload hx hb d_MD_parts_89 (lv_at hl 0 rfl) ?_
      refine lv_iload hx hb d_MD_parts_91 (lv_at hl 3 rfl) ?_
      refine lv_icmp_eq hx hb d_MD_parts_93 (tgt := 127) (by decide) (fun h93 => ?_) (fun h93 => ?_)
      · rw [if_pos h93] at hu
        rw [if_pos h93] at hd
        refine lv_iinc (v := j + (1 : Int32)) hx hb d_MD_parts_127 hl (k := 0) rfl rfl (by decide) rfl (fun ls hl => ?_)
        have hl : lv_has ls 10 [(9, .int (j + (1 : Int32))), (7, .long dn), (5, .long up), (4, .int i), (2, .long sum), (0, .ref y_), (1, .int mask)] := hl
        refine lv_goto hx hb d_MD_parts_130 (tgt := 82) (by decide) ?_
        exact ih up dn (j + (1 : Int32)) ru rd ls hu hd (xi_up h86 hmu) (lv_sub hl [0, 1, 2, 3, 4, 5, 6] rfl) kk
      · rw [if_neg h93] at hu
        rw [if_neg h93] at hd
        refine lv_iload_n hx hb d_MD_parts_96 rfl (lv_at hl 6 rfl) ?_
        refine lv_iload hx hb d_MD_parts_97 (lv_at hl 0 rfl) ?_
        refine lv_ishr hx hb d_MD_parts_99 ?_
        refine lv_iconst (v := (1 : Int32)) hx hb d_MD_parts_100 (by decide) ?_
        refine lv_iand hx hb d_MD_parts_101 ?_
        refine lv_iconst (v := (1 : Int32)) hx hb d_MD_parts_102 (by decide) ?_
        refine lv_icmp_ne hx hb d_MD_parts_103 (tgt := 127) (by decide) (fun h103 => ?_) (fun h103 => ?_)
        · rw [if_neg h103] at hu
          rw [if_neg h103] at hd
          refine lv_iinc (v := j + (1 : Int32)) hx hb d_MD_parts_127 hl (k := 0) rfl rfl (by decide) rfl (fun ls hl => ?_)
          have hl : lv_has ls 10 [(9, .int (j + (1 : Int32))), (7, .long dn), (5, .long up), (4, .int i), (2, .long sum), (0, .ref y_), (1, .int mask)] := hl
          refine lv_goto hx hb d_MD_parts_130 (tgt := 82) (by decide) ?_
          exact ih up dn (j + (1 : Int32)) ru rd ls hu hd (xi_up h86 hmu) (lv_sub hl [0, 1, 2, 3, 4, 5, 6] rfl) kk
        · rw [if_pos h103] at hu
          rw [if_pos h103] at hd
          refine lv_lload hx hb d_MD_parts_106 (lv_at hl 2 rfl) ?_
          refine lv_iload hx hb d_MD_parts_108 (lv_at hl 0 rfl) ?_
          refine lv_iconst (v := (1 : Int32)) hx hb d_MD_parts_110 (by decide) ?_
          refine lv_iadd hx hb d_MD_parts_111 ?_
          refine lv_i2l hx hb d_MD_parts_112 rfl ?_
          refine lv_lmul hx hb d_MD_parts_113 ?_
          refine lv_lstore hx hb d_MD_parts_114 hl (by decide) rfl (fun ls hl => ?_)
          have hl : lv_has ls 10 [(5, .long (up * ((j + (1 : Int32)).toInt64))), (9, .int j), (7, .long dn), (4, .int i), (2, .long sum), (0, .ref y_), (1, .int mask)] := hl
          refine lv_lload hx hb d_MD_parts_116 (lv_at hl 2 rfl) ?_
          refine lv_iload hx hb d_MD_parts_118 (lv_at hl 1 rfl) ?_
          refine lv_iload hx hb d_MD_parts_120 (lv_at hl 3 rfl) ?_
          refine lv_isub hx hb d_MD_parts_122 ?_
          refine lv_i2l hx hb d_MD_parts_123 rfl ?_
          refine lv_lmul hx hb d_MD_parts_124 ?_
          refine lv_lstore hx hb d_MD_parts_125 hl (by decide) rfl (fun ls hl => ?_)
          have hl : lv_has ls 10 [(7, .long (dn * ((j - i).toInt64))), (5, .long (up * ((j + (1 : Int32)).toInt64))), (9, .int j), (4, .int i), (2, .long sum), (0, .ref y_), (1, .int mask)] := hl
          refine lv_iinc (v := j + (1 : Int32)) hx hb d_MD_parts_127 hl (k := 2) rfl rfl (by decide) rfl (fun ls hl => ?_)
          have hl : lv_has ls 10 [(9, .int (j + (1 : Int32))), (7, .long (dn * ((j - i).toInt64))), (5, .long (up * ((j + (1 : Int32)).toInt64))), (4, .int i), (2, .long sum), (0, .ref y_), (1, .int mask)] := hl
          refine lv_goto hx hb d_MD_parts_130 (tgt := 82) (by decide) ?_
          exact ih (up * ((j + (1 : Int32)).toInt64)) (dn * ((j - i).toInt64)) (j + (1 : Int32)) ru rd ls hu hd (xi_up h86 hmu) (lv_sub hl [0, 1, 2, 3, 4, 5, 6] rfl) kk
theorem xm_fin {x : Int32} {k : Nat} (h0 : 0 ≤ x.toInt) (hk : x.toInt < k) (h9 : k ≤ 64) : ∃ t, t < k ∧ x = Int32.ofNat t := by
  refine ⟨x.toInt.toNat, by omega, ?_⟩
  apply Int32.toInt_inj.mp
  rw [Int32.toInt_ofNat']
  rw [show Int32.size = 4294967296 from rfl]
  rw [Int.bmod_eq_of_le (by omega) (by omega)]
  omega
set_option maxRecDepth 100000 in
theorem xm_dnF : ∀ t, t < 64 → ∀ i, i < 6 → ¬ lb_dn (Int32.ofNat t) (Int32.ofNat i) 7 720 1 0 = 0 := by decide +kernel
theorem xm_dn {mask i : Int32} {n : Nat} (hk : 0 ≤ mask.toInt ∧ mask.toInt ≤ 63) (hmu : 0 ≤ i.toInt ∧ ((6 : Int32).toInt - i.toInt).toNat < n) (h : ¬ (6 : Int32) ≤ i) : ¬ lb_dn mask i 7 720 1 0 = 0 := by
  rw [Int32.le_iff_toInt_le, show (6 : Int32).toInt = 6 from rfl] at h
  obtain ⟨t, ht, rfl⟩ := xm_fin (x := mask) (k := 64) hk.1 (by omega) (by omega)
  obtain ⟨j, hj, rfl⟩ := xm_fin (x := i) (k := 6) hmu.1 (by omega) (by omega)
  exact xm_dnF t ht j hj
theorem xm_mask {x : Int32} (h : ¬ x < 0) (h2 : ¬ 63 < x) : 0 ≤ x.toInt ∧ x.toInt ≤ 63 := by
  rw [Int32.lt_iff_toInt_lt] at h h2
  rw [show (0 : Int32).toInt = 0 from rfl] at h
  rw [show (63 : Int32).toInt = 63 from rfl] at h2
  omega
def lf_MD_parts_54_0 (mask : Int32) (z_n : Int64) (z_m : Int64) (z_d : Int64) (z_a : Int64) (z_b : Int64) : Nat → Int64 → Int32 → Int32
  | 0, _, _ => 0
  | n + 1, sum, i => if (6 : Int32) ≤ i then (if sum = (((720 : Int64) * z_d) - ((720 : Int64) * z_d) / z_m * z_m) then (1 : Int32) else (0 : Int32)) else (if ((mask >>> (i &&& 31)) &&& (1 : Int32)) = (1 : Int32) then (lf_MD_parts_54_0 mask z_n z_m z_d z_a z_b n ((sum + ((f_MD_part i z_m z_d z_a z_b) * (((((lb_up mask i 7 (720 : Int64) (1 : Int64) (0 : Int32)) / (lb_dn mask i 7 (720 : Int64) (1 : Int64) (0 : Int32))) - ((lb_up mask i 7 (720 : Int64) (1 : Int64) (0 : Int32)) / (lb_dn mask i 7 (720 : Int64) (1 : Int64) (0 : Int32))) / z_m * z_m) + z_m) - ((((lb_up mask i 7 (720 : Int64) (1 : Int64) (0 : Int32)) / (lb_dn mask i 7 (720 : Int64) (1 : Int64) (0 : Int32))) - ((lb_up mask i 7 (720 : Int64) (1 : Int64) (0 : Int32)) / (lb_dn mask i 7 (720 : Int64) (1 : Int64) (0 : Int32))) / z_m * z_m) + z_m) / z_m * z_m))) - (sum + ((f_MD_part i z_m z_d z_a z_b) * (((((lb_up mask i 7 (720 : Int64) (1 : Int64) (0 : Int32)) / (lb_dn mask i 7 (720 : Int64) (1 : Int64) (0 : Int32))) - ((lb_up mask i 7 (720 : Int64) (1 : Int64) (0 : Int32)) / (lb_dn mask i 7 (720 : Int64) (1 : Int64) (0 : Int32))) / z_m * z_m) + z_m) - ((((lb_up mask i 7 (720 : Int64) (1 : Int64) (0 : Int32)) / (lb_dn mask i 7 (720 : Int64) (1 : Int64) (0 : Int32))) - ((lb_up mask i 7 (720 : Int64) (1 : Int64) (0 : Int32)) / (lb_dn mask i 7 (720 : Int64) (1 : Int64) (0 : Int32))) / z_m * z_m) + z_m) / z_m * z_m))) / z_m * z_m) (i + (1 : Int32))) else (lf_MD_parts_54_0 mask z_n z_m z_d z_a z_b n sum (i + (1 : Int32))))
def f_MD_parts (mask : Int32) (z_n : Int64) (z_m : Int64) (z_d : Int64) (z_a : Int64) (z_b : Int64) : Int32 := if mask < 0 then (0 : Int32) else (if (63 : Int32) < mask then (0 : Int32) else (if (f_MD_bits mask) = (3 : Int32) then (if z_n = (0 : Int64) then (0 : Int32) else (lf_MD_parts_54_0 mask z_n z_m z_d z_a z_b 7 (0 : Int64) (0 : Int32))) else (0 : Int32)))
def f_MD_parts_thrownCode (mask : Int32) (z_n : Int64) (z_m : Int64) (z_d : Int64) (z_a : Int64) (z_b : Int64) : Int32 := if mask < 0 then (1 : Int32) else (if (63 : Int32) < mask then (1 : Int32) else (if (f_MD_bits mask) = (3 : Int32) then (if z_n = (0 : Int64) then (2 : Int32) else (0 : Int32)) else (1 : Int32)))
set_option maxHeartbeats 4000000 in
set_option maxRecDepth 100000 in
theorem wl_MD_parts_54 {p : Program} {l : Launch} {e : Env} {s : State} {m : MethodId} {args : Array Value} {below : List Frame} {meth : Method} {c : Code} {G : xg_G} {A : Nat → Prop} {y_ : Nat} {mask : Int32} {z_th : Int32} {z_n : Int64} {z_m : Int64} {z_d : Int64} {z_a : Int64} {z_b : Int64} {z_v : Int64} {z_ep : Int32} {z_su : Int32} {a_buf : Nat} {z_by : Int32} {z_mo : Int32} {a_st : Nat} {a_bl : Nat} {a_fi : Nat} {a_ob : Nat} {a_si : Nat} {a_po : Nat} {a_pr : Nat} {a_an : Nat} {z_bk : Int32} {a_bo : Nat} {z_h : Int64} (hg : xg_F G) (hw : G.1.WarmedH s.vm) (S : xc_Fix p m c b_MD_parts 10 s "SealTrustModel") (hl0 : meth.locks = false) (ht : meth.sig.returnType = (some .boolean)) (hA : ∀ q, s.heap.size ≤ q → A q) (hm : ¬ z_m = 0) (hk : 0 ≤ mask.toInt ∧ mask.toInt ≤ 63) : ∀ (n : Nat) (sum : Int64) (i : Int32) (r0 : Int32) (ls : Array Slot) (H9 : Heap) (L9 : List Loc), lf_MD_parts_54_0 mask z_n z_m z_d z_a z_b n sum i = r0 → (0 ≤ i.toInt ∧ ((6 : Int32).toInt - i.toInt).toNat < n) → lv_has ls 10 [(4, .int i), (2, .long sum), (0, .ref y_), (1, .int mask)] → va_P G.2.1 cl_all [(y_, .inr (4, [.int (0 : Int32), .long z_n, .long z_m, .long z_d, .long z_a, .long z_b, .long z_v, .int z_ep, .int z_su, .ref a_buf, .int z_by, .int z_mo, .ref a_st, .ref a_bl, .ref a_fi, .ref a_ob, .ref a_si, .ref a_po, .ref a_pr, .ref a_an, .int z_bk, .ref a_bo, .long z_h]))] H9 → va_D A [(y_, .inr (4, [.int (0 : Int32), .long z_n, .long z_m, .long z_d, .long z_a, .long z_b, .long z_v, .int z_ep, .int z_su, .ref a_buf, .int z_by, .int z_mo, .ref a_st, .ref a_bl, .ref a_fi, .ref a_ob, .ref a_si, .ref a_po, .ref a_pr, .ref a_an, .int z_bk, .ref a_bo, .long z_h]))] → va_S A s.heap H9 L9 → W p l e ({ frames := 1, cells := 0, slots := 0, locals := 17 } : Room) s m args below meth c H9 L9 0 0 (xw_Z G below A (some (.int r0)) [(y_, .inr (4, [.int (0 : Int32), .long z_n, .long z_m, .long z_d, .long z_a, .long z_b, .long z_v, .int z_ep, .int z_su, .ref a_buf, .int z_by, .int z_mo, .ref a_st, .ref a_bl, .ref a_fi, .ref a_ob, .ref a_si, .ref a_po, .ref a_pr, .ref a_an, .int z_bk, .ref a_bo, .long z_h]))] args s 0 0) (F0 m 54 ls []) := by
  have hx := S.1
  have hb := S.2.1
  intro n
  induction n with
  | zero =>
    intro sum i r0 ls H9 L9 hr0 hmu
    omega
  | succ n ih =>
    intro sum i r0 ls H9 L9 hr0 hmu hl hP hD hS
    rw [lf_MD_parts_54_0] at hr0
    refine lv_iload hx hb d_MD_parts_54 (lv_at hl 0 rfl) ?_
    refine lv_bipush (v := (6 : Int32)) hx hb d_MD_parts_56 (by decide) ?_
    refine lv_icmp_ge hx hb d_MD_parts_58 (tgt := 174) (by decide) (fun h58 => ?_) (fun h58 => ?_)
    · rw [if_pos h58] at hr0
      refine lv_lload_n hx hb d_MD_parts_174 rfl (lv_at hl 1 rfl) ?_
      refine kc_MD_166 hg hw S d_MD_parts_175 ?_
      refine lv_aload_n hx hb d_MD_parts_178 rfl (lv_at hl 2 rfl) ?_
      refine gf_MD_20 hg hw S hP 0 rfl rfl d_MD_parts_179 ?_
      refine lv_lmul hx hb d_MD_parts_182 ?_
      refine lv_aload_n hx hb d_MD_parts_183 rfl (lv_at hl 2 rfl) ?_
      refine gf_MD_17 hg hw S hP 0 rfl rfl d_MD_parts_184 ?_
      refine lv_lrem hx hb d_MD_parts_187 hm ?_
      refine W.lcmp hx hb d_MD_parts_188 ?_
      refine lv_if_ne hx hb d_MD_parts_189 (tgt := 196) (by decide) (fun h189 => ?_) (fun h189 => ?_)
      · rw [lg_cmp_eq] at h189
        rw [if_neg h189] at hr0
        refine lv_iconst (v := (0 : Int32)) hx hb d_MD_parts_196 (by decide) ?_
        subst hr0
        exact xw_zret hx hb ht hl0 rfl hP hD hS d_MD_parts_197
      · rw [lg_cmp_eq] at h189
        rw [if_pos h189] at hr0
        refine lv_iconst (v := (1 : Int32)) hx hb d_MD_parts_192 (by decide) ?_
        refine lv_goto hx hb d_MD_parts_193 (tgt := 197) (by decide) ?_
        subst hr0
        exact xw_zret hx hb ht hl0 rfl hP hD hS d_MD_parts_197
    · rw [if_neg h58] at hr0
      refine lv_iload_n hx hb d_MD_parts_61 rfl (lv_at hl 3 rfl) ?_
      refine lv_iload hx hb d_MD_parts_62 (lv_at hl 0 rfl) ?_
      refine lv_ishr hx hb d_MD_parts_64 ?_
      refine lv_iconst (v := (1 : Int32)) hx hb d_MD_parts_65 (by decide) ?_
      refine lv_iand hx hb d_MD_parts_66 ?_
      refine lv_iconst (v := (1 : Int32)) hx hb d_MD_parts_67 (by decide) ?_
      refine lv_icmp_ne hx hb d_MD_parts_68 (tgt := 168) (by decide) (fun h68 => ?_) (fun h68 => ?_)
      · rw [if_neg h68] at hr0
        refine lv_iinc (v := i + (1 : Int32)) hx hb d_MD_parts_168 hl (k := 0) rfl rfl (by decide) rfl (fun ls hl => ?_)
        have hl : lv_has ls 10 [(4, .int (i + (1 : Int32))), (2, .long sum), (0, .ref y_), (1, .int mask)] := hl
        refine lv_goto hx hb d_MD_parts_171 (tgt := 54) (by decide) ?_
        exact ih sum (i + (1 : Int32)) r0 ls H9 L9 hr0 (xi_up0 h58 hmu) (lv_sub hl [0, 1, 2, 3] rfl) hP hD hS
      · rw [if_pos h68] at hr0
        refine kc_MD_166 hg hw S d_MD_parts_71 ?_
        refine lv_lstore hx hb d_MD_parts_74 hl (by decide) rfl (fun ls hl => ?_)
        have hl : lv_has ls 10 [(5, .long (720 : Int64)), (4, .int i), (2, .long sum), (0, .ref y_), (1, .int mask)] := hl
        refine lv_lconst (v := (1 : Int64)) hx hb d_MD_parts_76 (by decide) ?_
        refine lv_lstore hx hb d_MD_parts_77 hl (by decide) rfl (fun ls hl => ?_)
        have hl : lv_has ls 10 [(7, .long (1 : Int64)), (5, .long (720 : Int64)), (4, .int i), (2, .long sum), (0, .ref y_), (1, .int mask)] := hl
        refine lv_iconst (v := (0 : Int32)) hx hb d_MD_parts_79 (by decide) ?_
        refine lv_istore hx hb d_MD_parts_80 hl (by decide) rfl (fun ls hl => ?_)
        have hl : lv_has ls 10 [(9, .int (0 : Int32)), (7, .long (1 : Int64)), (5, .long (720 : Int64)), (4, .int i), (2, .long sum), (0, .ref y_), (1, .int mask)] := hl
        refine wb_MD_parts_82 hx hb 7 (720 : Int64) (1 : Int64) (0 : Int32) _ _ ls rfl rfl (by decide) (lv_sub hl [0, 1, 2, 3, 4, 5, 6] rfl) (fun ls hl => ?_)
        have hl : lv_has ls 10 [(7, .long (lb_dn mask i 7 (720 : Int64) (1 : Int64) (0 : Int32))), (5, .long (lb_up mask i 7 (720 : Int64) (1 : Int64) (0 : Int32))), (4, .int i), (2, .long sum), (0, .ref y_), (1, .int mask)] := hl
        refine lv_lload_n hx hb d_MD_parts_133 rfl (lv_at hl 3 rfl) ?_
        refine lv_aload_n hx hb d_MD_parts_134 rfl (lv_at hl 4 rfl) ?_
        refine lv_iload hx hb d_MD_parts_135 (lv_at hl 2 rfl) ?_
        refine xg_read (xg_runV (rest := [.long sum]) (kw := 2) si_MD_92 hg hw S (va_recv (xg_k hg hw) hP (ci := 4) rfl (q0 := 0) rfl) (ct_MD_part l hg H9 y_ i (0 : Int32) z_n z_m z_d z_a z_b z_v z_ep z_su a_buf z_by z_mo a_st a_bl a_fi a_ob a_si a_po a_pr a_an z_bk a_bo z_h (hP.sub [0] rfl) hm) ⟨by decide, by decide, by decide, by decide⟩ rfl hl.1 rfl (Nat.le_of_ble_eq_true rfl) d_MD_parts_137) ?_
        refine lv_lload hx hb d_MD_parts_140 (lv_at hl 1 rfl) ?_
        refine lv_lload hx hb d_MD_parts_142 (lv_at hl 0 rfl) ?_
        refine lv_ldiv hx hb d_MD_parts_144 (xm_dn hk hmu h58) ?_
        refine lv_aload_n hx hb d_MD_parts_145 rfl (lv_at hl 4 rfl) ?_
        refine gf_MD_17 hg hw S hP 0 rfl rfl d_MD_parts_146 ?_
        refine lv_lrem hx hb d_MD_parts_149 hm ?_
        refine lv_aload_n hx hb d_MD_parts_150 rfl (lv_at hl 4 rfl) ?_
        refine gf_MD_17 hg hw S hP 0 rfl rfl d_MD_parts_151 ?_
        refine lv_ladd hx hb d_MD_parts_154 ?_
        refine lv_aload_n hx hb d_MD_parts_155 rfl (lv_at hl 4 rfl) ?_
        refine gf_MD_17 hg hw S hP 0 rfl rfl d_MD_parts_156 ?_
        refine lv_lrem hx hb d_MD_parts_159 hm ?_
        refine lv_lmul hx hb d_MD_parts_160 ?_
        refine lv_ladd hx hb d_MD_parts_161 ?_
        refine lv_aload_n hx hb d_MD_parts_162 rfl (lv_at hl 4 rfl) ?_
        refine gf_MD_17 hg hw S hP 0 rfl rfl d_MD_parts_163 ?_
        refine lv_lrem hx hb d_MD_parts_166 hm ?_
        refine lv_lstore_n hx hb d_MD_parts_167 rfl hl (by decide) rfl (fun ls hl => ?_)
        have hl : lv_has ls 10 [(2, .long ((sum + ((f_MD_part i z_m z_d z_a z_b) * (((((lb_up mask i 7 (720 : Int64) (1 : Int64) (0 : Int32)) / (lb_dn mask i 7 (720 : Int64) (1 : Int64) (0 : Int32))) - ((lb_up mask i 7 (720 : Int64) (1 : Int64) (0 : Int32)) / (lb_dn mask i 7 (720 : Int64) (1 : Int64) (0 : Int32))) / z_m * z_m) + z_m) - ((((lb_up mask i 7 (720 : Int64) (1 : Int64) (0 : Int32)) / (lb_dn mask i 7 (720 : Int64) (1 : Int64) (0 : Int32))) - ((lb_up mask i 7 (720 : Int64) (1 : Int64) (0 : Int32)) / (lb_dn mask i 7 (720 : Int64) (1 : Int64) (0 : Int32))) / z_m * z_m) + z_m) / z_m * z_m))) - (sum + ((f_MD_part i z_m z_d z_a z_b) * (((((lb_up mask i 7 (720 : Int64) (1 : Int64) (0 : Int32)) / (lb_dn mask i 7 (720 : Int64) (1 : Int64) (0 : Int32))) - ((lb_up mask i 7 (720 : Int64) (1 : Int64) (0 : Int32)) / (lb_dn mask i 7 (720 : Int64) (1 : Int64) (0 : Int32))) / z_m * z_m) + z_m) - ((((lb_up mask i 7 (720 : Int64) (1 : Int64) (0 : Int32)) / (lb_dn mask i 7 (720 : Int64) (1 : Int64) (0 : Int32))) - ((lb_up mask i 7 (720 : Int64) (1 : Int64) (0 : Int32)) / (lb_dn mask i 7 (720 : Int64) (1 : Int64) (0 : Int32))) / z_m * z_m) + z_m) / z_m * z_m))) / z_m * z_m)), (7, .long (lb_dn mask i 7 (720 : Int64) (1 : Int64) (0 : Int32))), (5, .long (lb_up mask i 7 (720 : Int64) (1 : Int64) (0 : Int32))), (4, .int i), (0, .ref y_), (1, .int mask)] := hl
        refine lv_iinc (v := i + (1 : Int32)) hx hb d_MD_parts_168 hl (k := 3) rfl rfl (by decide) rfl (fun ls hl => ?_)
        have hl : lv_has ls 10 [(4, .int (i + (1 : Int32))), (2, .long ((sum + ((f_MD_part i z_m z_d z_a z_b) * (((((lb_up mask i 7 (720 : Int64) (1 : Int64) (0 : Int32)) / (lb_dn mask i 7 (720 : Int64) (1 : Int64) (0 : Int32))) - ((lb_up mask i 7 (720 : Int64) (1 : Int64) (0 : Int32)) / (lb_dn mask i 7 (720 : Int64) (1 : Int64) (0 : Int32))) / z_m * z_m) + z_m) - ((((lb_up mask i 7 (720 : Int64) (1 : Int64) (0 : Int32)) / (lb_dn mask i 7 (720 : Int64) (1 : Int64) (0 : Int32))) - ((lb_up mask i 7 (720 : Int64) (1 : Int64) (0 : Int32)) / (lb_dn mask i 7 (720 : Int64) (1 : Int64) (0 : Int32))) / z_m * z_m) + z_m) / z_m * z_m))) - (sum + ((f_MD_part i z_m z_d z_a z_b) * (((((lb_up mask i 7 (720 : Int64) (1 : Int64) (0 : Int32)) / (lb_dn mask i 7 (720 : Int64) (1 : Int64) (0 : Int32))) - ((lb_up mask i 7 (720 : Int64) (1 : Int64) (0 : Int32)) / (lb_dn mask i 7 (720 : Int64) (1 : Int64) (0 : Int32))) / z_m * z_m) + z_m) - ((((lb_up mask i 7 (720 : Int64) (1 : Int64) (0 : Int32)) / (lb_dn mask i 7 (720 : Int64) (1 : Int64) (0 : Int32))) - ((lb_up mask i 7 (720 : Int64) (1 : Int64) (0 : Int32)) / (lb_dn mask i 7 (720 : Int64) (1 : Int64) (0 : Int32))) / z_m * z_m) + z_m) / z_m * z_m))) / z_m * z_m)), (7, .long (lb_dn mask i 7 (720 : Int64) (1 : Int64) (0 : Int32))), (5, .long (lb_up mask i 7 (720 : Int64) (1 : Int64) (0 : Int32))), (0, .ref y_), (1, .int mask)] := hl
        refine lv_goto hx hb d_MD_parts_171 (tgt := 54) (by decide) ?_
        exact ih ((sum + ((f_MD_part i z_m z_d z_a z_b) * (((((lb_up mask i 7 (720 : Int64) (1 : Int64) (0 : Int32)) / (lb_dn mask i 7 (720 : Int64) (1 : Int64) (0 : Int32))) - ((lb_up mask i 7 (720 : Int64) (1 : Int64) (0 : Int32)) / (lb_dn mask i 7 (720 : Int64) (1 : Int64) (0 : Int32))) / z_m * z_m) + z_m) - ((((lb_up mask i 7 (720 : Int64) (1 : Int64) (0 : Int32)) / (lb_dn mask i 7 (720 : Int64) (1 : Int64) (0 : Int32))) - ((lb_up mask i 7 (720 : Int64) (1 : Int64) (0 : Int32)) / (lb_dn mask i 7 (720 : Int64) (1 : Int64) (0 : Int32))) / z_m * z_m) + z_m) / z_m * z_m))) - (sum + ((f_MD_part i z_m z_d z_a z_b) * (((((lb_up mask i 7 (720 : Int64) (1 : Int64) (0 : Int32)) / (lb_dn mask i 7 (720 : Int64) (1 : Int64) (0 : Int32))) - ((lb_up mask i 7 (720 : Int64) (1 : Int64) (0 : Int32)) / (lb_dn mask i 7 (720 : Int64) (1 : Int64) (0 : Int32))) / z_m * z_m) + z_m) - ((((lb_up mask i 7 (720 : Int64) (1 : Int64) (0 : Int32)) / (lb_dn mask i 7 (720 : Int64) (1 : Int64) (0 : Int32))) - ((lb_up mask i 7 (720 : Int64) (1 : Int64) (0 : Int32)) / (lb_dn mask i 7 (720 : Int64) (1 : Int64) (0 : Int32))) / z_m * z_m) + z_m) / z_m * z_m))) / z_m * z_m) (i + (1 : Int32)) r0 ls H9 L9 hr0 (xi_up0 h58 hmu) (lv_sub hl [0, 1, 4, 5] rfl) hP hD hS
set_option maxHeartbeats 4000000 in
set_option maxRecDepth 100000 in
theorem ct_MD_parts (l : Launch) {G : xg_G} (hg : xg_F G) (H : Heap) (y_ : Nat) (mask : Int32) (z_th : Int32) (z_n : Int64) (z_m : Int64) (z_d : Int64) (z_a : Int64) (z_b : Int64) (z_v : Int64) (z_ep : Int32) (z_su : Int32) (a_buf : Nat) (z_by : Int32) (z_mo : Int32) (a_st : Nat) (a_bl : Nat) (a_fi : Nat) (a_ob : Nat) (a_si : Nat) (a_po : Nat) (a_pr : Nat) (a_an : Nat) (z_bk : Int32) (a_bo : Nat) (z_h : Int64) (hP : va_P G.2.1 cl_all [(y_, .inr (4, [.int z_th, .long z_n, .long z_m, .long z_d, .long z_a, .long z_b, .long z_v, .int z_ep, .int z_su, .ref a_buf, .int z_by, .int z_mo, .ref a_st, .ref a_bl, .ref a_fi, .ref a_ob, .ref a_si, .ref a_po, .ref a_pr, .ref a_an, .int z_bk, .ref a_bo, .long z_h]))] H) (hD0 : va_D (fun _ => True) [(y_, .inr (4, [.int z_th, .long z_n, .long z_m, .long z_d, .long z_a, .long z_b, .long z_v, .int z_ep, .int z_su, .ref a_buf, .int z_by, .int z_mo, .ref a_st, .ref a_bl, .ref a_fi, .ref a_ob, .ref a_si, .ref a_po, .ref a_pr, .ref a_an, .int z_bk, .ref a_bo, .long z_h]))]) (hN : ¬ z_n = 0 → ¬ z_m = 0) : xc_Met l y_MD_parts (.code y_MD_parts b_MD_parts 10 (some .boolean)) ({ frames := 1, cells := 0, slots := 0, locals := 17 } : Room) (xg_Pc G [.ref y_, .int mask] H) (xw_post G (va_A [(y_, .inr (4, [.int z_th, .long z_n, .long z_m, .long z_d, .long z_a, .long z_b, .long z_v, .int z_ep, .int z_su, .ref a_buf, .int z_by, .int z_mo, .ref a_st, .ref a_bl, .ref a_fi, .ref a_ob, .ref a_si, .ref a_po, .ref a_pr, .ref a_an, .int z_bk, .ref a_bo, .long z_h]))] H.size) (some (.int (f_MD_parts mask z_n z_m z_d z_a z_b))) [(y_, .inr (4, [.int (f_MD_parts_thrownCode mask z_n z_m z_d z_a z_b), .long z_n, .long z_m, .long z_d, .long z_a, .long z_b, .long z_v, .int z_ep, .int z_su, .ref a_buf, .int z_by, .int z_mo, .ref a_st, .ref a_bl, .ref a_fi, .ref a_ob, .ref a_si, .ref a_po, .ref a_pr, .ref a_an, .int z_bk, .ref a_bo, .long z_h]))]) (va_A [(y_, .inr (4, [.int z_th, .long z_n, .long z_m, .long z_d, .long z_a, .long z_b, .long z_v, .int z_ep, .int z_su, .ref a_buf, .int z_by, .int z_mo, .ref a_st, .ref a_bl, .ref a_fi, .ref a_ob, .ref a_si, .ref a_po, .ref a_pr, .ref a_an, .int z_bk, .ref a_bo, .long z_h]))] H.size) := by
  refine xc_ofW (by decide) ?_
  intro p e s m args below meth c s₁ B hml hE hv
  obtain ⟨rfl, rfl, hw⟩ := hv
  have hx := B.exec
  have hb := B.bytes
  have ht := B.returns
  have hl0 := B.notSynchronized
  have S : xc_Fix p m c b_MD_parts 10 s "SealTrustModel" := ⟨hx, hb, hml, findClass_of_methodNamed B.named⟩
  have hD := hD0.self (sz := s.heap.size)
  generalize hAe : va_A [(y_, .inr (4, [.int z_th, .long z_n, .long z_m, .long z_d, .long z_a, .long z_b, .long z_v, .int z_ep, .int z_su, .ref a_buf, .int z_by, .int z_mo, .ref a_st, .ref a_bl, .ref a_fi, .ref a_ob, .ref a_si, .ref a_po, .ref a_pr, .ref a_an, .int z_bk, .ref a_bo, .long z_h]))] s.heap.size = A at hD ⊢
  have hA : ∀ q : Nat, s.heap.size ≤ q → A q := fun q h => by rw [← hAe]; exact Or.inr h
  have hS : va_S A s.heap s.heap [] := va_S.rf
  have hl := lv_entry ([.ref y_, .int mask]) (n := 10) (Nat.le_of_ble_eq_true rfl)
  rw [lg_entry_eq]
  generalize (lg_sl ([.ref y_, .int mask]) ++ List.replicate (10 - (lg_sl ([.ref y_, .int mask])).length) Slot.unset).toArray = ls at hl ⊢
  have hl : lv_has ls 10 [(0, .ref y_), (1, .int mask)] := hl
  obtain ⟨r0, hr0⟩ : ∃ r, f_MD_parts mask z_n z_m z_d z_a z_b = r := ⟨_, rfl⟩
  rw [hr0]
  unfold f_MD_parts at hr0
  obtain ⟨r1, hr1⟩ : ∃ r, f_MD_parts_thrownCode mask z_n z_m z_d z_a z_b = r := ⟨_, rfl⟩
  rw [hr1]
  unfold f_MD_parts_thrownCode at hr1
  refine lv_aload_n hx hb d_MD_parts_0 rfl (lv_at hl 0 rfl) ?_
  refine lv_iload_n hx hb d_MD_parts_1 rfl (lv_at hl 1 rfl) ?_
  refine lv_if_lt hx hb d_MD_parts_2 (tgt := 19) (by decide) (fun h2 => ?_) (fun h2 => ?_)
  · rw [if_pos h2] at hr0
    rw [if_pos h2] at hr1
    refine lv_iconst (v := (1 : Int32)) hx hb d_MD_parts_19 (by decide) ?_
    refine lv_goto hx hb d_MD_parts_20 (tgt := 37) (by decide) ?_
    refine pf_MD_7 hg hw S hP hD hS 0 rfl rfl rfl (Nat.le_of_ble_eq_true rfl) d_MD_parts_37 (fun H1 L1 hP hD hS => ?_)
    have hP : va_P G.2.1 cl_all [(y_, .inr (4, [.int (1 : Int32), .long z_n, .long z_m, .long z_d, .long z_a, .long z_b, .long z_v, .int z_ep, .int z_su, .ref a_buf, .int z_by, .int z_mo, .ref a_st, .ref a_bl, .ref a_fi, .ref a_ob, .ref a_si, .ref a_po, .ref a_pr, .ref a_an, .int z_bk, .ref a_bo, .long z_h]))] H1 := hP
    have hD : va_D A [(y_, .inr (4, [.int (1 : Int32), .long z_n, .long z_m, .long z_d, .long z_a, .long z_b, .long z_v, .int z_ep, .int z_su, .ref a_buf, .int z_by, .int z_mo, .ref a_st, .ref a_bl, .ref a_fi, .ref a_ob, .ref a_si, .ref a_po, .ref a_pr, .ref a_an, .int z_bk, .ref a_bo, .long z_h]))] := hD
    refine lv_aload_n hx hb d_MD_parts_40 rfl (lv_at hl 0 rfl) ?_
    refine gf_MD_7 hg hw S hP 0 rfl rfl d_MD_parts_41 ?_
    refine lv_if_eq hx hb d_MD_parts_44 (tgt := 49) (by decide) (fun h44 => ?_) (fun h44 => ?_)
    · exact absurd h44 (by decide)
    · refine lv_iconst (v := (0 : Int32)) hx hb d_MD_parts_47 (by decide) ?_
      subst hr0
      subst hr1
      exact xw_zret hx hb ht hl0 rfl hP hD hS d_MD_parts_48
  · rw [if_neg h2] at hr0
    rw [if_neg h2] at hr1
    refine lv_iload_n hx hb d_MD_parts_5 rfl (lv_at hl 1 rfl) ?_
    refine lv_bipush (v := (63 : Int32)) hx hb d_MD_parts_6 (by decide) ?_
    refine lv_icmp_gt hx hb d_MD_parts_8 (tgt := 19) (by decide) (fun h8 => ?_) (fun h8 => ?_)
    · rw [if_pos h8] at hr0
      rw [if_pos h8] at hr1
      refine lv_iconst (v := (1 : Int32)) hx hb d_MD_parts_19 (by decide) ?_
      refine lv_goto hx hb d_MD_parts_20 (tgt := 37) (by decide) ?_
      refine pf_MD_7 hg hw S hP hD hS 0 rfl rfl rfl (Nat.le_of_ble_eq_true rfl) d_MD_parts_37 (fun H2 L2 hP hD hS => ?_)
      have hP : va_P G.2.1 cl_all [(y_, .inr (4, [.int (1 : Int32), .long z_n, .long z_m, .long z_d, .long z_a, .long z_b, .long z_v, .int z_ep, .int z_su, .ref a_buf, .int z_by, .int z_mo, .ref a_st, .ref a_bl, .ref a_fi, .ref a_ob, .ref a_si, .ref a_po, .ref a_pr, .ref a_an, .int z_bk, .ref a_bo, .long z_h]))] H2 := hP
      have hD : va_D A [(y_, .inr (4, [.int (1 : Int32), .long z_n, .long z_m, .long z_d, .long z_a, .long z_b, .long z_v, .int z_ep, .int z_su, .ref a_buf, .int z_by, .int z_mo, .ref a_st, .ref a_bl, .ref a_fi, .ref a_ob, .ref a_si, .ref a_po, .ref a_pr, .ref a_an, .int z_bk, .ref a_bo, .long z_h]))] := hD
      refine lv_aload_n hx hb d_MD_parts_40 rfl (lv_at hl 0 rfl) ?_
      refine gf_MD_7 hg hw S hP 0 rfl rfl d_MD_parts_41 ?_
      refine lv_if_eq hx hb d_MD_parts_44 (tgt := 49) (by decide) (fun h44 => ?_) (fun h44 => ?_)
      · exact absurd h44 (by decide)
      · refine lv_iconst (v := (0 : Int32)) hx hb d_MD_parts_47 (by decide) ?_
        subst hr0
        subst hr1
        exact xw_zret hx hb ht hl0 rfl hP hD hS d_MD_parts_48
    · rw [if_neg h8] at hr0
      rw [if_neg h8] at hr1
      refine lv_iload_n hx hb d_MD_parts_11 rfl (lv_at hl 1 rfl) ?_
      refine xg_read (xg_runS (rest := [.ref y_]) (kw := 1) si_MD_156 hg hw S (ct_MD_bits l hg s.heap mask ) ⟨by decide, by decide, by decide, by decide⟩ rfl hl.1 rfl (Nat.le_of_ble_eq_true rfl) d_MD_parts_12) ?_
      refine lv_iconst (v := (3 : Int32)) hx hb d_MD_parts_15 (by decide) ?_
      refine lv_icmp_eq hx hb d_MD_parts_16 (tgt := 23) (by decide) (fun h16 => ?_) (fun h16 => ?_)
      · rw [if_pos h16] at hr0
        rw [if_pos h16] at hr1
        refine lv_aload_n hx hb d_MD_parts_23 rfl (lv_at hl 0 rfl) ?_
        refine gf_MD_13 hg hw S hP 0 rfl rfl d_MD_parts_24 ?_
        refine lv_lconst (v := (0 : Int64)) hx hb d_MD_parts_27 (by decide) ?_
        refine W.lcmp hx hb d_MD_parts_28 ?_
        refine lv_if_ne hx hb d_MD_parts_29 (tgt := 36) (by decide) (fun h29 => ?_) (fun h29 => ?_)
        · rw [lg_cmp_eq] at h29
          rw [if_neg h29] at hr0
          rw [if_neg h29] at hr1
          refine lv_iconst (v := (0 : Int32)) hx hb d_MD_parts_36 (by decide) ?_
          refine pf_MD_7 hg hw S hP hD hS 0 rfl rfl rfl (Nat.le_of_ble_eq_true rfl) d_MD_parts_37 (fun H3 L3 hP hD hS => ?_)
          have hP : va_P G.2.1 cl_all [(y_, .inr (4, [.int (0 : Int32), .long z_n, .long z_m, .long z_d, .long z_a, .long z_b, .long z_v, .int z_ep, .int z_su, .ref a_buf, .int z_by, .int z_mo, .ref a_st, .ref a_bl, .ref a_fi, .ref a_ob, .ref a_si, .ref a_po, .ref a_pr, .ref a_an, .int z_bk, .ref a_bo, .long z_h]))] H3 := hP
          have hD : va_D A [(y_, .inr (4, [.int (0 : Int32), .long z_n, .long z_m, .long z_d, .long z_a, .long z_b, .long z_v, .int z_ep, .int z_su, .ref a_buf, .int z_by, .int z_mo, .ref a_st, .ref a_bl, .ref a_fi, .ref a_ob, .ref a_si, .ref a_po, .ref a_pr, .ref a_an, .int z_bk, .ref a_bo, .long z_h]))] := hD
          refine lv_aload_n hx hb d_MD_parts_40 rfl (lv_at hl 0 rfl) ?_
          refine gf_MD_7 hg hw S hP 0 rfl rfl d_MD_parts_41 ?_
          refine lv_if_eq hx hb d_MD_parts_44 (tgt := 49) (by decide) (fun h44 => ?_) (fun h44 => ?_)
          · refine lv_lconst (v := (0 : Int64)) hx hb d_MD_parts_49 (by decide) ?_
            refine lv_lstore_n hx hb d_MD_parts_50 rfl hl (by decide) rfl (fun ls hl => ?_)
            have hl : lv_has ls 10 [(2, .long (0 : Int64)), (0, .ref y_), (1, .int mask)] := hl
            refine lv_iconst (v := (0 : Int32)) hx hb d_MD_parts_51 (by decide) ?_
            refine lv_istore hx hb d_MD_parts_52 hl (by decide) rfl (fun ls hl => ?_)
            have hl : lv_has ls 10 [(4, .int (0 : Int32)), (2, .long (0 : Int64)), (0, .ref y_), (1, .int mask)] := hl
            subst hr1
            exact wl_MD_parts_54 (y_ := y_) (mask := mask) (z_th := z_th) (z_n := z_n) (z_m := z_m) (z_d := z_d) (z_a := z_a) (z_b := z_b) (z_v := z_v) (z_ep := z_ep) (z_su := z_su) (a_buf := a_buf) (z_by := z_by) (z_mo := z_mo) (a_st := a_st) (a_bl := a_bl) (a_fi := a_fi) (a_ob := a_ob) (a_si := a_si) (a_po := a_po) (a_pr := a_pr) (a_an := a_an) (z_bk := z_bk) (a_bo := a_bo) (z_h := z_h) hg hw S hl0 ht hA (hN h29) (xm_mask h2 h8) 7 (0 : Int64) (0 : Int32) r0 ls H3 L3 hr0 (by decide) (lv_sub hl [0, 1, 2, 3] rfl) hP hD hS
          · exact absurd h44 (by decide)
        · rw [lg_cmp_eq] at h29
          rw [if_pos h29] at hr0
          rw [if_pos h29] at hr1
          refine lv_iconst (v := (2 : Int32)) hx hb d_MD_parts_32 (by decide) ?_
          refine lv_goto hx hb d_MD_parts_33 (tgt := 37) (by decide) ?_
          refine pf_MD_7 hg hw S hP hD hS 0 rfl rfl rfl (Nat.le_of_ble_eq_true rfl) d_MD_parts_37 (fun H4 L4 hP hD hS => ?_)
          have hP : va_P G.2.1 cl_all [(y_, .inr (4, [.int (2 : Int32), .long z_n, .long z_m, .long z_d, .long z_a, .long z_b, .long z_v, .int z_ep, .int z_su, .ref a_buf, .int z_by, .int z_mo, .ref a_st, .ref a_bl, .ref a_fi, .ref a_ob, .ref a_si, .ref a_po, .ref a_pr, .ref a_an, .int z_bk, .ref a_bo, .long z_h]))] H4 := hP
          have hD : va_D A [(y_, .inr (4, [.int (2 : Int32), .long z_n, .long z_m, .long z_d, .long z_a, .long z_b, .long z_v, .int z_ep, .int z_su, .ref a_buf, .int z_by, .int z_mo, .ref a_st, .ref a_bl, .ref a_fi, .ref a_ob, .ref a_si, .ref a_po, .ref a_pr, .ref a_an, .int z_bk, .ref a_bo, .long z_h]))] := hD
          refine lv_aload_n hx hb d_MD_parts_40 rfl (lv_at hl 0 rfl) ?_
          refine gf_MD_7 hg hw S hP 0 rfl rfl d_MD_parts_41 ?_
          refine lv_if_eq hx hb d_MD_parts_44 (tgt := 49) (by decide) (fun h44 => ?_) (fun h44 => ?_)
          · exact absurd h44 (by decide)
          · refine lv_iconst (v := (0 : Int32)) hx hb d_MD_parts_47 (by decide) ?_
            subst hr0
            subst hr1
            exact xw_zret hx hb ht hl0 rfl hP hD hS d_MD_parts_48
      · rw [if_neg h16] at hr0
        rw [if_neg h16] at hr1
        refine lv_iconst (v := (1 : Int32)) hx hb d_MD_parts_19 (by decide) ?_
        refine lv_goto hx hb d_MD_parts_20 (tgt := 37) (by decide) ?_
        refine pf_MD_7 hg hw S hP hD hS 0 rfl rfl rfl (Nat.le_of_ble_eq_true rfl) d_MD_parts_37 (fun H5 L5 hP hD hS => ?_)
        have hP : va_P G.2.1 cl_all [(y_, .inr (4, [.int (1 : Int32), .long z_n, .long z_m, .long z_d, .long z_a, .long z_b, .long z_v, .int z_ep, .int z_su, .ref a_buf, .int z_by, .int z_mo, .ref a_st, .ref a_bl, .ref a_fi, .ref a_ob, .ref a_si, .ref a_po, .ref a_pr, .ref a_an, .int z_bk, .ref a_bo, .long z_h]))] H5 := hP
        have hD : va_D A [(y_, .inr (4, [.int (1 : Int32), .long z_n, .long z_m, .long z_d, .long z_a, .long z_b, .long z_v, .int z_ep, .int z_su, .ref a_buf, .int z_by, .int z_mo, .ref a_st, .ref a_bl, .ref a_fi, .ref a_ob, .ref a_si, .ref a_po, .ref a_pr, .ref a_an, .int z_bk, .ref a_bo, .long z_h]))] := hD
        refine lv_aload_n hx hb d_MD_parts_40 rfl (lv_at hl 0 rfl) ?_
        refine gf_MD_7 hg hw S hP 0 rfl rfl d_MD_parts_41 ?_
        refine lv_if_eq hx hb d_MD_parts_44 (tgt := 49) (by decide) (fun h44 => ?_) (fun h44 => ?_)
        · exact absurd h44 (by decide)
        · refine lv_iconst (v := (0 : Int32)) hx hb d_MD_parts_47 (by decide) ?_
          subst hr0
          subst hr1
          exact xw_zret hx hb ht hl0 rfl hP hD hS d_MD_parts_48
