/-! the reference: what its methods compute for themselves -/
def lf_MD_prime_9 (number : Int32) : Nat → Int32 → Int32
  | 0, _ => 0
  | n + 1, d => if number < (d * d) then (1 : Int32) else (if (number - number / d * d) = 0 then (0 : Int32) else (lf_MD_prime_9 number n (d + (1 : Int32))))
def f_MD_prime (number : Int32) : Int32 := if (2 : Int32) ≤ number then (lf_MD_prime_9 number 200 (2 : Int32)) else (0 : Int32)
set_option maxHeartbeats 4000000 in
set_option maxRecDepth 100000 in
theorem wl_MD_prime_9 {p : Program} {l : Launch} {e : Env} {s : State} {m : MethodId} {args : Array Value} {below : List Frame} {meth : Method} {c : Code} {G : xg_G} {number : Int32} (hg : xg_F G) (hw : G.1.WarmedH s.vm) (S : xc_Fix p m c b_MD_prime 2 s "SealTrustModel") (hl0 : meth.locks = false) (ht : meth.sig.returnType = (some .boolean)) (hN : number.toInt ≤ 32767) : ∀ (n : Nat) (d : Int32) (r : Int32) (ls : Array Slot), lf_MD_prime_9 number n d = r → (2 ≤ d.toInt ∧ d.toInt ≤ 200 ∧ (200 - d.toInt).toNat < n) → lv_has ls 2 [(1, .int d), (0, .int number)] → W p l e ({ frames := 0, cells := 0, slots := 0, locals := 0 } : Room) s m args below meth c s.heap [] 0 0 (xg_Z below (some (.int r)) args s) (F0 m 9 ls []) := by
  have hx := S.1
  have hb := S.2.1
  intro n
  induction n with
  | zero =>
    intro d r ls hr hmu hl
    omega
  | succ n ih =>
    intro d r ls hr hmu hl
    rw [lf_MD_prime_9] at hr
    refine lv_iload_n hx hb d_MD_prime_9 rfl (lv_at hl 0 rfl) ?_
    refine lv_iload_n hx hb d_MD_prime_10 rfl (lv_at hl 0 rfl) ?_
    refine lv_imul hx hb d_MD_prime_11 ?_
    refine lv_iload_n hx hb d_MD_prime_12 rfl (lv_at hl 1 rfl) ?_
    refine lv_icmp_gt hx hb d_MD_prime_13 (tgt := 30) (by decide) (fun h13 => ?_) (fun h13 => ?_)
    · rw [if_pos h13] at hr
      refine lv_iconst (v := (1 : Int32)) hx hb d_MD_prime_30 (by decide) ?_
      exact xg_zret hx hb ht hl0 rfl hr d_MD_prime_31
    · rw [if_neg h13] at hr
      refine lv_iload_n hx hb d_MD_prime_16 rfl (lv_at hl 1 rfl) ?_
      refine lv_iload_n hx hb d_MD_prime_17 rfl (lv_at hl 0 rfl) ?_
      refine lv_irem hx hb d_MD_prime_18 (xi_ne hmu.1) ?_
      refine lv_if_ne hx hb d_MD_prime_19 (tgt := 24) (by decide) (fun h19 => ?_) (fun h19 => ?_)
      · rw [if_neg h19] at hr
        refine lv_iinc (v := d + (1 : Int32)) hx hb d_MD_prime_24 hl (k := 0) rfl rfl (by decide) rfl (fun ls hl => ?_)
        have hl : lv_has ls 2 [(1, .int (d + (1 : Int32))), (0, .int number)] := hl
        refine lv_goto hx hb d_MD_prime_27 (tgt := 9) (by decide) ?_
        exact ih (d + (1 : Int32)) r ls hr (xi_sq hN h13 hmu) (lv_sub hl [0, 1] rfl)
      · rw [if_pos h19] at hr
        refine lv_iconst (v := (0 : Int32)) hx hb d_MD_prime_22 (by decide) ?_
        exact xg_zret hx hb ht hl0 rfl hr d_MD_prime_23
set_option maxHeartbeats 4000000 in
set_option maxRecDepth 100000 in
theorem ct_MD_prime (l : Launch) {G : xg_G} (hg : xg_F G) (H : Heap) (number : Int32) (hN : number.toInt ≤ 32767) : xc_Met l y_MD_prime (.code y_MD_prime b_MD_prime 2 (some .boolean)) ({ frames := 0, cells := 0, slots := 0, locals := 0 } : Room) (xg_Pc G [.int number] H) (xc_ro (some (.int (f_MD_prime number))) H) (fun _ => False) := by
  refine xc_ofW (by decide) ?_
  intro p e s m args below meth c s₁ B hml hE hv
  obtain ⟨rfl, rfl, hw⟩ := hv
  have hx := B.exec
  have hb := B.bytes
  have ht := B.returns
  have hl0 := B.notSynchronized
  have S : xc_Fix p m c b_MD_prime 2 s "SealTrustModel" := ⟨hx, hb, hml, findClass_of_methodNamed B.named⟩
  have hl := lv_entry ([.int number]) (n := 2) (Nat.le_of_ble_eq_true rfl)
  rw [lg_entry_eq]
  generalize (lg_sl ([.int number]) ++ List.replicate (2 - (lg_sl ([.int number])).length) Slot.unset).toArray = ls at hl ⊢
  have hl : lv_has ls 2 [(0, .int number)] := hl
  obtain ⟨r, hr⟩ : ∃ r, f_MD_prime number = r := ⟨_, rfl⟩
  rw [hr]
  unfold f_MD_prime at hr
  refine lv_iload_n hx hb d_MD_prime_0 rfl (lv_at hl 0 rfl) ?_
  refine lv_iconst (v := (2 : Int32)) hx hb d_MD_prime_1 (by decide) ?_
  refine lv_icmp_ge hx hb d_MD_prime_2 (tgt := 7) (by decide) (fun h2 => ?_) (fun h2 => ?_)
  · rw [if_pos h2] at hr
    refine lv_iconst (v := (2 : Int32)) hx hb d_MD_prime_7 (by decide) ?_
    refine lv_istore_n hx hb d_MD_prime_8 rfl hl (by decide) rfl (fun ls hl => ?_)
    have hl : lv_has ls 2 [(1, .int (2 : Int32)), (0, .int number)] := hl
    exact wl_MD_prime_9 (number := number) hg hw S hl0 ht hN 200 (2 : Int32) r ls hr (by decide) (lv_sub hl [0, 1] rfl)
  · rw [if_neg h2] at hr
    refine lv_iconst (v := (0 : Int32)) hx hb d_MD_prime_5 (by decide) ?_
    exact xg_zret hx hb ht hl0 rfl hr d_MD_prime_6
def f_MD_safe (number : Int32) : Int32 := if number < (20 : Int32) then (0 : Int32) else (if (32767 : Int32) < number then (0 : Int32) else (if (number - number / (2 : Int32) * (2 : Int32)) = (1 : Int32) then (if (f_MD_prime number) = 0 then (0 : Int32) else (if (f_MD_prime (number / (2 : Int32))) = 0 then (0 : Int32) else (1 : Int32))) else (0 : Int32)))
set_option maxHeartbeats 4000000 in
set_option maxRecDepth 100000 in
theorem ct_MD_safe (l : Launch) {G : xg_G} (hg : xg_F G) (H : Heap) (number : Int32)  : xc_Met l y_MD_safe (.code y_MD_safe b_MD_safe 1 (some .boolean)) ({ frames := 1, cells := 0, slots := 0, locals := 13 } : Room) (xg_Pc G [.int number] H) (xc_ro (some (.int (f_MD_safe number))) H) (fun _ => False) := by
  refine xc_ofW (by decide) ?_
  intro p e s m args below meth c s₁ B hml hE hv
  obtain ⟨rfl, rfl, hw⟩ := hv
  have hx := B.exec
  have hb := B.bytes
  have ht := B.returns
  have hl0 := B.notSynchronized
  have S : xc_Fix p m c b_MD_safe 1 s "SealTrustModel" := ⟨hx, hb, hml, findClass_of_methodNamed B.named⟩
  have hl := lv_entry ([.int number]) (n := 1) (Nat.le_of_ble_eq_true rfl)
  rw [lg_entry_eq]
  generalize (lg_sl ([.int number]) ++ List.replicate (1 - (lg_sl ([.int number])).length) Slot.unset).toArray = ls at hl ⊢
  have hl : lv_has ls 1 [(0, .int number)] := hl
  obtain ⟨r, hr⟩ : ∃ r, f_MD_safe number = r := ⟨_, rfl⟩
  rw [hr]
  unfold f_MD_safe at hr
  refine lv_iload_n hx hb d_MD_safe_0 rfl (lv_at hl 0 rfl) ?_
  refine lv_bipush (v := (20 : Int32)) hx hb d_MD_safe_1 (by decide) ?_
  refine lv_icmp_lt hx hb d_MD_safe_3 (tgt := 40) (by decide) (fun h3 => ?_) (fun h3 => ?_)
  · rw [if_pos h3] at hr
    refine lv_iconst (v := (0 : Int32)) hx hb d_MD_safe_40 (by decide) ?_
    exact xg_zret hx hb ht hl0 rfl hr d_MD_safe_41
  · rw [if_neg h3] at hr
    refine lv_iload_n hx hb d_MD_safe_6 rfl (lv_at hl 0 rfl) ?_
    refine lv_sipush (v := (32767 : Int32)) hx hb d_MD_safe_7 (by decide) ?_
    refine lv_icmp_gt hx hb d_MD_safe_10 (tgt := 40) (by decide) (fun h10 => ?_) (fun h10 => ?_)
    · rw [if_pos h10] at hr
      refine lv_iconst (v := (0 : Int32)) hx hb d_MD_safe_40 (by decide) ?_
      exact xg_zret hx hb ht hl0 rfl hr d_MD_safe_41
    · rw [if_neg h10] at hr
      refine lv_iload_n hx hb d_MD_safe_13 rfl (lv_at hl 0 rfl) ?_
      refine lv_iconst (v := (2 : Int32)) hx hb d_MD_safe_14 (by decide) ?_
      refine lv_irem hx hb d_MD_safe_15 (by decide) ?_
      refine lv_iconst (v := (1 : Int32)) hx hb d_MD_safe_16 (by decide) ?_
      refine lv_icmp_ne hx hb d_MD_safe_17 (tgt := 40) (by decide) (fun h17 => ?_) (fun h17 => ?_)
      · rw [if_neg h17] at hr
        refine lv_iconst (v := (0 : Int32)) hx hb d_MD_safe_40 (by decide) ?_
        exact xg_zret hx hb ht hl0 rfl hr d_MD_safe_41
      · rw [if_pos h17] at hr
        refine lv_iload_n hx hb d_MD_safe_20 rfl (lv_at hl 0 rfl) ?_
        refine xg_read (xg_runS (rest := []) (kw := 0) si_MD_82 hg hw S (ct_MD_prime l hg s.heap number (xs_small h10)) ⟨by decide, by decide, by decide, by decide⟩ rfl hl.1 rfl (Nat.le_of_ble_eq_true rfl) d_MD_safe_21) ?_
        refine lv_if_eq hx hb d_MD_safe_24 (tgt := 40) (by decide) (fun h24 => ?_) (fun h24 => ?_)
        · rw [if_pos h24] at hr
          refine lv_iconst (v := (0 : Int32)) hx hb d_MD_safe_40 (by decide) ?_
          exact xg_zret hx hb ht hl0 rfl hr d_MD_safe_41
        · rw [if_neg h24] at hr
          refine lv_iload_n hx hb d_MD_safe_27 rfl (lv_at hl 0 rfl) ?_
          refine lv_iconst (v := (2 : Int32)) hx hb d_MD_safe_28 (by decide) ?_
          refine lv_idiv hx hb d_MD_safe_29 (by decide) ?_
          refine xg_read (xg_runS (rest := []) (kw := 0) si_MD_82 hg hw S (ct_MD_prime l hg s.heap (number / (2 : Int32)) (xs_half2 h3 h10)) ⟨by decide, by decide, by decide, by decide⟩ rfl hl.1 rfl (Nat.le_of_ble_eq_true rfl) d_MD_safe_30) ?_
          refine lv_if_eq hx hb d_MD_safe_33 (tgt := 40) (by decide) (fun h33 => ?_) (fun h33 => ?_)
          · rw [if_pos h33] at hr
            refine lv_iconst (v := (0 : Int32)) hx hb d_MD_safe_40 (by decide) ?_
            exact xg_zret hx hb ht hl0 rfl hr d_MD_safe_41
          · rw [if_neg h33] at hr
            refine lv_iconst (v := (1 : Int32)) hx hb d_MD_safe_36 (by decide) ?_
            refine lv_goto hx hb d_MD_safe_37 (tgt := 41) (by decide) ?_
            exact xg_zret hx hb ht hl0 rfl hr d_MD_safe_41
theorem nb_MD_safe (number : Int32) : f_MD_safe number = 0 ∨ f_MD_safe number = 1 := by
  unfold f_MD_safe
  repeat' split
  all_goals first | exact Or.inl rfl | exact Or.inr rfl
def lf_MD_common_6 (xa : Int64) (ya : Int64) : Nat → Int64 → Int64 → Int64
  | 0, _, _ => 0
  | n + 1, pv, qv => if qv = (0 : Int64) then pv else (lf_MD_common_6 xa ya n qv (pv - pv / qv * qv))
def f_MD_common (xa : Int64) (ya : Int64) : Int64 := lf_MD_common_6 xa ya (ya.toInt.natAbs + 1) xa ya
set_option maxHeartbeats 4000000 in
set_option maxRecDepth 100000 in
theorem wl_MD_common_6 {p : Program} {l : Launch} {e : Env} {s : State} {m : MethodId} {args : Array Value} {below : List Frame} {meth : Method} {c : Code} {G : xg_G} {xa : Int64} {ya : Int64} (hg : xg_F G) (hw : G.1.WarmedH s.vm) (S : xc_Fix p m c b_MD_common 10 s "SealTrustModel") (hl0 : meth.locks = false) (ht : meth.sig.returnType = (some .long))  : ∀ (n : Nat) (pv : Int64) (qv : Int64) (r : Int64) (ls : Array Slot), lf_MD_common_6 xa ya n pv qv = r → qv.toInt.natAbs < n → lv_has ls 10 [(6, .long qv), (4, .long pv), (0, .long xa), (2, .long ya)] → W p l e ({ frames := 0, cells := 0, slots := 0, locals := 0 } : Room) s m args below meth c s.heap [] 0 0 (xg_Z below (some (.long r)) args s) (F0 m 6 ls []) := by
  have hx := S.1
  have hb := S.2.1
  intro n
  induction n with
  | zero =>
    intro pv qv r ls hr hmu hl
    omega
  | succ n ih =>
    intro pv qv r ls hr hmu hl
    rw [lf_MD_common_6] at hr
    refine lv_lload hx hb d_MD_common_6 (lv_at hl 0 rfl) ?_
    refine lv_lconst (v := (0 : Int64)) hx hb d_MD_common_8 (by decide) ?_
    refine W.lcmp hx hb d_MD_common_9 ?_
    refine lv_if_eq hx hb d_MD_common_10 (tgt := 31) (by decide) (fun h10 => ?_) (fun h10 => ?_)
    · rw [lg_cmp_eq] at h10
      rw [if_pos h10] at hr
      refine lv_lload hx hb d_MD_common_31 (lv_at hl 1 rfl) ?_
      exact xg_lret hx hb ht hl0 hr d_MD_common_33
    · rw [lg_cmp_eq] at h10
      rw [if_neg h10] at hr
      refine lv_lload hx hb d_MD_common_13 (lv_at hl 1 rfl) ?_
      refine lv_lload hx hb d_MD_common_15 (lv_at hl 0 rfl) ?_
      refine lv_lrem hx hb d_MD_common_17 h10 ?_
      refine lv_lstore hx hb d_MD_common_18 hl (by decide) rfl (fun ls hl => ?_)
      have hl : lv_has ls 10 [(8, .long (pv - pv / qv * qv)), (6, .long qv), (4, .long pv), (0, .long xa), (2, .long ya)] := hl
      refine lv_lload hx hb d_MD_common_20 (lv_at hl 1 rfl) ?_
      refine lv_lstore hx hb d_MD_common_22 hl (by decide) rfl (fun ls hl => ?_)
      have hl : lv_has ls 10 [(4, .long qv), (8, .long (pv - pv / qv * qv)), (6, .long qv), (0, .long xa), (2, .long ya)] := hl
      refine lv_lload hx hb d_MD_common_24 (lv_at hl 1 rfl) ?_
      refine lv_lstore hx hb d_MD_common_26 hl (by decide) rfl (fun ls hl => ?_)
      have hl : lv_has ls 10 [(6, .long (pv - pv / qv * qv)), (4, .long qv), (8, .long (pv - pv / qv * qv)), (0, .long xa), (2, .long ya)] := hl
      refine lv_goto hx hb d_MD_common_28 (tgt := 6) (by decide) ?_
      exact ih qv (pv - pv / qv * qv) r ls hr (xi_eu h10 hmu) (lv_sub hl [0, 1, 3, 4] rfl)
set_option maxHeartbeats 4000000 in
set_option maxRecDepth 100000 in
theorem ct_MD_common (l : Launch) {G : xg_G} (hg : xg_F G) (H : Heap) (xa : Int64) (ya : Int64)  : xc_Met l y_MD_common (.code y_MD_common b_MD_common 10 (some .long)) ({ frames := 0, cells := 0, slots := 0, locals := 0 } : Room) (xg_Pc G [.long xa, .long ya] H) (xc_ro (some (.long (f_MD_common xa ya))) H) (fun _ => False) := by
  refine xc_ofW (by decide) ?_
  intro p e s m args below meth c s₁ B hml hE hv
  obtain ⟨rfl, rfl, hw⟩ := hv
  have hx := B.exec
  have hb := B.bytes
  have ht := B.returns
  have hl0 := B.notSynchronized
  have S : xc_Fix p m c b_MD_common 10 s "SealTrustModel" := ⟨hx, hb, hml, findClass_of_methodNamed B.named⟩
  have hl := lv_entry ([.long xa, .long ya]) (n := 10) (Nat.le_of_ble_eq_true rfl)
  rw [lg_entry_eq]
  generalize (lg_sl ([.long xa, .long ya]) ++ List.replicate (10 - (lg_sl ([.long xa, .long ya])).length) Slot.unset).toArray = ls at hl ⊢
  have hl : lv_has ls 10 [(0, .long xa), (2, .long ya)] := hl
  obtain ⟨r, hr⟩ : ∃ r, f_MD_common xa ya = r := ⟨_, rfl⟩
  rw [hr]
  unfold f_MD_common at hr
  refine lv_lload_n hx hb d_MD_common_0 rfl (lv_at hl 0 rfl) ?_
  refine lv_lstore hx hb d_MD_common_1 hl (by decide) rfl (fun ls hl => ?_)
  have hl : lv_has ls 10 [(4, .long xa), (0, .long xa), (2, .long ya)] := hl
  refine lv_lload_n hx hb d_MD_common_3 rfl (lv_at hl 2 rfl) ?_
  refine lv_lstore hx hb d_MD_common_4 hl (by decide) rfl (fun ls hl => ?_)
  have hl : lv_has ls 10 [(6, .long ya), (4, .long xa), (0, .long xa), (2, .long ya)] := hl
  exact wl_MD_common_6 (xa := xa) (ya := ya) hg hw S hl0 ht  (ya.toInt.natAbs + 1) xa ya r ls hr (by omega) (lv_sub hl [0, 1, 2, 3] rfl)
def lf_MD_raised_15 (xa : Int64) (ex : Int64) (modulus : Int64) : Nat → Int64 → Int64 → Int64 → Int64
  | 0, _, _, _ => 0
  | n + 1, rv, fv, kv => if kv ≤ (0 : Int64) then rv else (if (kv &&& (1 : Int64)) = (1 : Int64) then (lf_MD_raised_15 xa ex modulus n ((rv * fv) - (rv * fv) / modulus * modulus) ((fv * fv) - (fv * fv) / modulus * modulus) (kv >>> ((1 : Int32).toInt64 &&& 63))) else (lf_MD_raised_15 xa ex modulus n rv ((fv * fv) - (fv * fv) / modulus * modulus) (kv >>> ((1 : Int32).toInt64 &&& 63))))
def f_MD_raised (xa : Int64) (ex : Int64) (modulus : Int64) : Int64 := lf_MD_raised_15 xa ex modulus (ex.toInt.toNat + 1) ((1 : Int64) - (1 : Int64) / modulus * modulus) (xa - xa / modulus * modulus) ex
set_option maxHeartbeats 4000000 in
set_option maxRecDepth 100000 in
theorem wl_MD_raised_15 {p : Program} {l : Launch} {e : Env} {s : State} {m : MethodId} {args : Array Value} {below : List Frame} {meth : Method} {c : Code} {G : xg_G} {xa : Int64} {ex : Int64} {modulus : Int64} (hg : xg_F G) (hw : G.1.WarmedH s.vm) (S : xc_Fix p m c b_MD_raised 12 s "SealTrustModel") (hl0 : meth.locks = false) (ht : meth.sig.returnType = (some .long)) (hm0 : ¬ modulus = 0) : ∀ (n : Nat) (rv : Int64) (fv : Int64) (kv : Int64) (r : Int64) (ls : Array Slot), lf_MD_raised_15 xa ex modulus n rv fv kv = r → kv.toInt.toNat < n → lv_has ls 12 [(10, .long kv), (8, .long fv), (6, .long rv), (0, .long xa), (2, .long ex), (4, .long modulus)] → W p l e ({ frames := 0, cells := 0, slots := 0, locals := 0 } : Room) s m args below meth c s.heap [] 0 0 (xg_Z below (some (.long r)) args s) (F0 m 15 ls []) := by
  have hx := S.1
  have hb := S.2.1
  intro n
  induction n with
  | zero =>
    intro rv fv kv r ls hr hmu hl
    omega
  | succ n ih =>
    intro rv fv kv r ls hr hmu hl
    rw [lf_MD_raised_15] at hr
    refine lv_lload hx hb d_MD_raised_15 (lv_at hl 0 rfl) ?_
    refine lv_lconst (v := (0 : Int64)) hx hb d_MD_raised_17 (by decide) ?_
    refine W.lcmp hx hb d_MD_raised_18 ?_
    refine lv_if_le hx hb d_MD_raised_19 (tgt := 60) (by decide) (fun h19 => ?_) (fun h19 => ?_)
    · rw [lg_cmp_le] at h19
      rw [if_pos h19] at hr
      refine lv_lload hx hb d_MD_raised_60 (lv_at hl 2 rfl) ?_
      exact xg_lret hx hb ht hl0 hr d_MD_raised_62
    · rw [lg_cmp_le] at h19
      rw [if_neg h19] at hr
      refine lv_lload hx hb d_MD_raised_22 (lv_at hl 0 rfl) ?_
      refine lv_lconst (v := (1 : Int64)) hx hb d_MD_raised_24 (by decide) ?_
      refine lv_land hx hb d_MD_raised_25 ?_
      refine lv_lconst (v := (1 : Int64)) hx hb d_MD_raised_26 (by decide) ?_
      refine W.lcmp hx hb d_MD_raised_27 ?_
      refine lv_if_ne hx hb d_MD_raised_28 (tgt := 41) (by decide) (fun h28 => ?_) (fun h28 => ?_)
      · rw [lg_cmp_eq] at h28
        rw [if_neg h28] at hr
        refine lv_lload hx hb d_MD_raised_41 (lv_at hl 1 rfl) ?_
        refine lv_lload hx hb d_MD_raised_43 (lv_at hl 1 rfl) ?_
        refine lv_lmul hx hb d_MD_raised_45 ?_
        refine lv_lload hx hb d_MD_raised_46 (lv_at hl 5 rfl) ?_
        refine lv_lrem hx hb d_MD_raised_48 hm0 ?_
        refine lv_lstore hx hb d_MD_raised_49 hl (by decide) rfl (fun ls hl => ?_)
        have hl : lv_has ls 12 [(8, .long ((fv * fv) - (fv * fv) / modulus * modulus)), (10, .long kv), (6, .long rv), (0, .long xa), (2, .long ex), (4, .long modulus)] := hl
        refine lv_lload hx hb d_MD_raised_51 (lv_at hl 1 rfl) ?_
        refine lv_iconst (v := (1 : Int32)) hx hb d_MD_raised_53 (by decide) ?_
        refine lv_lshr hx hb d_MD_raised_54 rfl ?_
        refine lv_lstore hx hb d_MD_raised_55 hl (by decide) rfl (fun ls hl => ?_)
        have hl : lv_has ls 12 [(10, .long (kv >>> ((1 : Int32).toInt64 &&& 63))), (8, .long ((fv * fv) - (fv * fv) / modulus * modulus)), (6, .long rv), (0, .long xa), (2, .long ex), (4, .long modulus)] := hl
        refine lv_goto hx hb d_MD_raised_57 (tgt := 15) (by decide) ?_
        exact ih rv ((fv * fv) - (fv * fv) / modulus * modulus) (kv >>> ((1 : Int32).toInt64 &&& 63)) r ls hr (xi_sh h19 hmu) (lv_sub hl [0, 1, 2, 3, 4, 5] rfl)
      · rw [lg_cmp_eq] at h28
        rw [if_pos h28] at hr
        refine lv_lload hx hb d_MD_raised_31 (lv_at hl 2 rfl) ?_
        refine lv_lload hx hb d_MD_raised_33 (lv_at hl 1 rfl) ?_
        refine lv_lmul hx hb d_MD_raised_35 ?_
        refine lv_lload hx hb d_MD_raised_36 (lv_at hl 5 rfl) ?_
        refine lv_lrem hx hb d_MD_raised_38 hm0 ?_
        refine lv_lstore hx hb d_MD_raised_39 hl (by decide) rfl (fun ls hl => ?_)
        have hl : lv_has ls 12 [(6, .long ((rv * fv) - (rv * fv) / modulus * modulus)), (10, .long kv), (8, .long fv), (0, .long xa), (2, .long ex), (4, .long modulus)] := hl
        refine lv_lload hx hb d_MD_raised_41 (lv_at hl 2 rfl) ?_
        refine lv_lload hx hb d_MD_raised_43 (lv_at hl 2 rfl) ?_
        refine lv_lmul hx hb d_MD_raised_45 ?_
        refine lv_lload hx hb d_MD_raised_46 (lv_at hl 5 rfl) ?_
        refine lv_lrem hx hb d_MD_raised_48 hm0 ?_
        refine lv_lstore hx hb d_MD_raised_49 hl (by decide) rfl (fun ls hl => ?_)
        have hl : lv_has ls 12 [(8, .long ((fv * fv) - (fv * fv) / modulus * modulus)), (6, .long ((rv * fv) - (rv * fv) / modulus * modulus)), (10, .long kv), (0, .long xa), (2, .long ex), (4, .long modulus)] := hl
        refine lv_lload hx hb d_MD_raised_51 (lv_at hl 2 rfl) ?_
        refine lv_iconst (v := (1 : Int32)) hx hb d_MD_raised_53 (by decide) ?_
        refine lv_lshr hx hb d_MD_raised_54 rfl ?_
        refine lv_lstore hx hb d_MD_raised_55 hl (by decide) rfl (fun ls hl => ?_)
        have hl : lv_has ls 12 [(10, .long (kv >>> ((1 : Int32).toInt64 &&& 63))), (8, .long ((fv * fv) - (fv * fv) / modulus * modulus)), (6, .long ((rv * fv) - (rv * fv) / modulus * modulus)), (0, .long xa), (2, .long ex), (4, .long modulus)] := hl
        refine lv_goto hx hb d_MD_raised_57 (tgt := 15) (by decide) ?_
        exact ih ((rv * fv) - (rv * fv) / modulus * modulus) ((fv * fv) - (fv * fv) / modulus * modulus) (kv >>> ((1 : Int32).toInt64 &&& 63)) r ls hr (xi_sh h19 hmu) (lv_sub hl [0, 1, 2, 3, 4, 5] rfl)
set_option maxHeartbeats 4000000 in
set_option maxRecDepth 100000 in
theorem ct_MD_raised (l : Launch) {G : xg_G} (hg : xg_F G) (H : Heap) (xa : Int64) (ex : Int64) (modulus : Int64) (hm0 : ¬ modulus = 0) : xc_Met l y_MD_raised (.code y_MD_raised b_MD_raised 12 (some .long)) ({ frames := 0, cells := 0, slots := 0, locals := 0 } : Room) (xg_Pc G [.long xa, .long ex, .long modulus] H) (xc_ro (some (.long (f_MD_raised xa ex modulus))) H) (fun _ => False) := by
  refine xc_ofW (by decide) ?_
  intro p e s m args below meth c s₁ B hml hE hv
  obtain ⟨rfl, rfl, hw⟩ := hv
  have hx := B.exec
  have hb := B.bytes
  have ht := B.returns
  have hl0 := B.notSynchronized
  have S : xc_Fix p m c b_MD_raised 12 s "SealTrustModel" := ⟨hx, hb, hml, findClass_of_methodNamed B.named⟩
  have hl := lv_entry ([.long xa, .long ex, .long modulus]) (n := 12) (Nat.le_of_ble_eq_true rfl)
  rw [lg_entry_eq]
  generalize (lg_sl ([.long xa, .long ex, .long modulus]) ++ List.replicate (12 - (lg_sl ([.long xa, .long ex, .long modulus])).length) Slot.unset).toArray = ls at hl ⊢
  have hl : lv_has ls 12 [(0, .long xa), (2, .long ex), (4, .long modulus)] := hl
  obtain ⟨r, hr⟩ : ∃ r, f_MD_raised xa ex modulus = r := ⟨_, rfl⟩
  rw [hr]
  unfold f_MD_raised at hr
  refine lv_lconst (v := (1 : Int64)) hx hb d_MD_raised_0 (by decide) ?_
  refine lv_lload hx hb d_MD_raised_1 (lv_at hl 2 rfl) ?_
  refine lv_lrem hx hb d_MD_raised_3 hm0 ?_
  refine lv_lstore hx hb d_MD_raised_4 hl (by decide) rfl (fun ls hl => ?_)
  have hl : lv_has ls 12 [(6, .long ((1 : Int64) - (1 : Int64) / modulus * modulus)), (0, .long xa), (2, .long ex), (4, .long modulus)] := hl
  refine lv_lload_n hx hb d_MD_raised_6 rfl (lv_at hl 1 rfl) ?_
  refine lv_lload hx hb d_MD_raised_7 (lv_at hl 3 rfl) ?_
  refine lv_lrem hx hb d_MD_raised_9 hm0 ?_
  refine lv_lstore hx hb d_MD_raised_10 hl (by decide) rfl (fun ls hl => ?_)
  have hl : lv_has ls 12 [(8, .long (xa - xa / modulus * modulus)), (6, .long ((1 : Int64) - (1 : Int64) / modulus * modulus)), (0, .long xa), (2, .long ex), (4, .long modulus)] := hl
  refine lv_lload_n hx hb d_MD_raised_12 rfl (lv_at hl 3 rfl) ?_
  refine lv_lstore hx hb d_MD_raised_13 hl (by decide) rfl (fun ls hl => ?_)
  have hl : lv_has ls 12 [(10, .long ex), (8, .long (xa - xa / modulus * modulus)), (6, .long ((1 : Int64) - (1 : Int64) / modulus * modulus)), (0, .long xa), (2, .long ex), (4, .long modulus)] := hl
  exact wl_MD_raised_15 (xa := xa) (ex := ex) (modulus := modulus) hg hw S hl0 ht hm0 (ex.toInt.toNat + 1) ((1 : Int64) - (1 : Int64) / modulus * modulus) (xa - xa / modulus * modulus) ex r ls hr (by omega) (lv_sub hl [0, 1, 2, 3, 4, 5] rfl)
def lf_MD_inverse_14 (xa : Int64) (modulus : Int64) : Nat → Int64 → Int64 → Int64 → Int64 → Int64
  | 0, _, _, _, _ => 0
  | n + 1, pv, qv, sv, tv => if qv = (0 : Int64) then (if (0 : Int64) ≤ sv then sv else (sv + modulus)) else (lf_MD_inverse_14 xa modulus n qv (pv - ((pv / qv) * qv)) tv (sv - ((pv / qv) * tv)))
def f_MD_inverse (xa : Int64) (modulus : Int64) : Int64 := lf_MD_inverse_14 xa modulus ((xa - xa / modulus * modulus).toInt.natAbs + 1) modulus (xa - xa / modulus * modulus) (0 : Int64) (1 : Int64)
set_option maxHeartbeats 4000000 in
set_option maxRecDepth 100000 in
theorem wl_MD_inverse_14 {p : Program} {l : Launch} {e : Env} {s : State} {m : MethodId} {args : Array Value} {below : List Frame} {meth : Method} {c : Code} {G : xg_G} {xa : Int64} {modulus : Int64} (hg : xg_F G) (hw : G.1.WarmedH s.vm) (S : xc_Fix p m c b_MD_inverse 18 s "SealTrustModel") (hl0 : meth.locks = false) (ht : meth.sig.returnType = (some .long))  : ∀ (n : Nat) (pv : Int64) (qv : Int64) (sv : Int64) (tv : Int64) (r : Int64) (ls : Array Slot), lf_MD_inverse_14 xa modulus n pv qv sv tv = r → qv.toInt.natAbs < n → lv_has ls 18 [(10, .long tv), (8, .long sv), (6, .long qv), (4, .long pv), (0, .long xa), (2, .long modulus)] → W p l e ({ frames := 0, cells := 0, slots := 0, locals := 0 } : Room) s m args below meth c s.heap [] 0 0 (xg_Z below (some (.long r)) args s) (F0 m 14 ls []) := by
  have hx := S.1
  have hb := S.2.1
  intro n
  induction n with
  | zero =>
    intro pv qv sv tv r ls hr hmu hl
    omega
  | succ n ih =>
    intro pv qv sv tv r ls hr hmu hl
    rw [lf_MD_inverse_14] at hr
    refine lv_lload hx hb d_MD_inverse_14 (lv_at hl 2 rfl) ?_
    refine lv_lconst (v := (0 : Int64)) hx hb d_MD_inverse_16 (by decide) ?_
    refine W.lcmp hx hb d_MD_inverse_17 ?_
    refine lv_if_eq hx hb d_MD_inverse_18 (tgt := 67) (by decide) (fun h18 => ?_) (fun h18 => ?_)
    · rw [lg_cmp_eq] at h18
      rw [if_pos h18] at hr
      refine lv_lload hx hb d_MD_inverse_67 (lv_at hl 1 rfl) ?_
      refine lv_lconst (v := (0 : Int64)) hx hb d_MD_inverse_69 (by decide) ?_
      refine W.lcmp hx hb d_MD_inverse_70 ?_
      refine lv_if_ge hx hb d_MD_inverse_71 (tgt := 81) (by decide) (fun h71 => ?_) (fun h71 => ?_)
      · rw [lg_cmp_ge] at h71
        rw [if_pos h71] at hr
        refine lv_lload hx hb d_MD_inverse_81 (lv_at hl 1 rfl) ?_
        exact xg_lret hx hb ht hl0 hr d_MD_inverse_83
      · rw [lg_cmp_ge] at h71
        rw [if_neg h71] at hr
        refine lv_lload hx hb d_MD_inverse_74 (lv_at hl 1 rfl) ?_
        refine lv_lload_n hx hb d_MD_inverse_76 rfl (lv_at hl 5 rfl) ?_
        refine lv_ladd hx hb d_MD_inverse_77 ?_
        refine lv_goto hx hb d_MD_inverse_78 (tgt := 83) (by decide) ?_
        exact xg_lret hx hb ht hl0 hr d_MD_inverse_83
    · rw [lg_cmp_eq] at h18
      rw [if_neg h18] at hr
      refine lv_lload hx hb d_MD_inverse_21 (lv_at hl 3 rfl) ?_
      refine lv_lload hx hb d_MD_inverse_23 (lv_at hl 2 rfl) ?_
      refine lv_ldiv hx hb d_MD_inverse_25 h18 ?_
      refine lv_lstore hx hb d_MD_inverse_26 hl (by decide) rfl (fun ls hl => ?_)
      have hl : lv_has ls 18 [(12, .long (pv / qv)), (10, .long tv), (8, .long sv), (6, .long qv), (4, .long pv), (0, .long xa), (2, .long modulus)] := hl
      refine lv_lload hx hb d_MD_inverse_28 (lv_at hl 4 rfl) ?_
      refine lv_lload hx hb d_MD_inverse_30 (lv_at hl 0 rfl) ?_
      refine lv_lload hx hb d_MD_inverse_32 (lv_at hl 3 rfl) ?_
      refine lv_lmul hx hb d_MD_inverse_34 ?_
      refine lv_lsub hx hb d_MD_inverse_35 ?_
      refine lv_lstore hx hb d_MD_inverse_36 hl (by decide) rfl (fun ls hl => ?_)
      have hl : lv_has ls 18 [(14, .long (pv - ((pv / qv) * qv))), (12, .long (pv / qv)), (10, .long tv), (8, .long sv), (6, .long qv), (4, .long pv), (0, .long xa), (2, .long modulus)] := hl
      refine lv_lload hx hb d_MD_inverse_38 (lv_at hl 4 rfl) ?_
      refine lv_lstore hx hb d_MD_inverse_40 hl (by decide) rfl (fun ls hl => ?_)
      have hl : lv_has ls 18 [(4, .long qv), (14, .long (pv - ((pv / qv) * qv))), (12, .long (pv / qv)), (10, .long tv), (8, .long sv), (6, .long qv), (0, .long xa), (2, .long modulus)] := hl
      refine lv_lload hx hb d_MD_inverse_42 (lv_at hl 1 rfl) ?_
      refine lv_lstore hx hb d_MD_inverse_44 hl (by decide) rfl (fun ls hl => ?_)
      have hl : lv_has ls 18 [(6, .long (pv - ((pv / qv) * qv))), (4, .long qv), (14, .long (pv - ((pv / qv) * qv))), (12, .long (pv / qv)), (10, .long tv), (8, .long sv), (0, .long xa), (2, .long modulus)] := hl
      refine lv_lload hx hb d_MD_inverse_46 (lv_at hl 5 rfl) ?_
      refine lv_lload hx hb d_MD_inverse_48 (lv_at hl 3 rfl) ?_
      refine lv_lload hx hb d_MD_inverse_50 (lv_at hl 4 rfl) ?_
      refine lv_lmul hx hb d_MD_inverse_52 ?_
      refine lv_lsub hx hb d_MD_inverse_53 ?_
      refine lv_lstore hx hb d_MD_inverse_54 hl (by decide) rfl (fun ls hl => ?_)
      have hl : lv_has ls 18 [(16, .long (sv - ((pv / qv) * tv))), (6, .long (pv - ((pv / qv) * qv))), (4, .long qv), (14, .long (pv - ((pv / qv) * qv))), (12, .long (pv / qv)), (10, .long tv), (8, .long sv), (0, .long xa), (2, .long modulus)] := hl
      refine lv_lload hx hb d_MD_inverse_56 (lv_at hl 5 rfl) ?_
      refine lv_lstore hx hb d_MD_inverse_58 hl (by decide) rfl (fun ls hl => ?_)
      have hl : lv_has ls 18 [(8, .long tv), (16, .long (sv - ((pv / qv) * tv))), (6, .long (pv - ((pv / qv) * qv))), (4, .long qv), (14, .long (pv - ((pv / qv) * qv))), (12, .long (pv / qv)), (10, .long tv), (0, .long xa), (2, .long modulus)] := hl
      refine lv_lload hx hb d_MD_inverse_60 (lv_at hl 1 rfl) ?_
      refine lv_lstore hx hb d_MD_inverse_62 hl (by decide) rfl (fun ls hl => ?_)
      have hl : lv_has ls 18 [(10, .long (sv - ((pv / qv) * tv))), (8, .long tv), (16, .long (sv - ((pv / qv) * tv))), (6, .long (pv - ((pv / qv) * qv))), (4, .long qv), (14, .long (pv - ((pv / qv) * qv))), (12, .long (pv / qv)), (0, .long xa), (2, .long modulus)] := hl
      refine lv_goto hx hb d_MD_inverse_64 (tgt := 14) (by decide) ?_
      exact ih qv (pv - ((pv / qv) * qv)) tv (sv - ((pv / qv) * tv)) r ls hr (xi_eu h18 hmu) (lv_sub hl [0, 1, 3, 4, 7, 8] rfl)
set_option maxHeartbeats 4000000 in
set_option maxRecDepth 100000 in
theorem ct_MD_inverse (l : Launch) {G : xg_G} (hg : xg_F G) (H : Heap) (xa : Int64) (modulus : Int64) (hm0 : ¬ modulus = 0) : xc_Met l y_MD_inverse (.code y_MD_inverse b_MD_inverse 18 (some .long)) ({ frames := 0, cells := 0, slots := 0, locals := 0 } : Room) (xg_Pc G [.long xa, .long modulus] H) (xc_ro (some (.long (f_MD_inverse xa modulus))) H) (fun _ => False) := by
  refine xc_ofW (by decide) ?_
  intro p e s m args below meth c s₁ B hml hE hv
  obtain ⟨rfl, rfl, hw⟩ := hv
  have hx := B.exec
  have hb := B.bytes
  have ht := B.returns
  have hl0 := B.notSynchronized
  have S : xc_Fix p m c b_MD_inverse 18 s "SealTrustModel" := ⟨hx, hb, hml, findClass_of_methodNamed B.named⟩
  have hl := lv_entry ([.long xa, .long modulus]) (n := 18) (Nat.le_of_ble_eq_true rfl)
  rw [lg_entry_eq]
  generalize (lg_sl ([.long xa, .long modulus]) ++ List.replicate (18 - (lg_sl ([.long xa, .long modulus])).length) Slot.unset).toArray = ls at hl ⊢
  have hl : lv_has ls 18 [(0, .long xa), (2, .long modulus)] := hl
  obtain ⟨r, hr⟩ : ∃ r, f_MD_inverse xa modulus = r := ⟨_, rfl⟩
  rw [hr]
  unfold f_MD_inverse at hr
  refine lv_lload_n hx hb d_MD_inverse_0 rfl (lv_at hl 1 rfl) ?_
  refine lv_lstore hx hb d_MD_inverse_1 hl (by decide) rfl (fun ls hl => ?_)
  have hl : lv_has ls 18 [(4, .long modulus), (0, .long xa), (2, .long modulus)] := hl
  refine lv_lload_n hx hb d_MD_inverse_3 rfl (lv_at hl 1 rfl) ?_
  refine lv_lload_n hx hb d_MD_inverse_4 rfl (lv_at hl 2 rfl) ?_
  refine lv_lrem hx hb d_MD_inverse_5 hm0 ?_
  refine lv_lstore hx hb d_MD_inverse_6 hl (by decide) rfl (fun ls hl => ?_)
  have hl : lv_has ls 18 [(6, .long (xa - xa / modulus * modulus)), (4, .long modulus), (0, .long xa), (2, .long modulus)] := hl
  refine lv_lconst (v := (0 : Int64)) hx hb d_MD_inverse_8 (by decide) ?_
  refine lv_lstore hx hb d_MD_inverse_9 hl (by decide) rfl (fun ls hl => ?_)
  have hl : lv_has ls 18 [(8, .long (0 : Int64)), (6, .long (xa - xa / modulus * modulus)), (4, .long modulus), (0, .long xa), (2, .long modulus)] := hl
  refine lv_lconst (v := (1 : Int64)) hx hb d_MD_inverse_11 (by decide) ?_
  refine lv_lstore hx hb d_MD_inverse_12 hl (by decide) rfl (fun ls hl => ?_)
  have hl : lv_has ls 18 [(10, .long (1 : Int64)), (8, .long (0 : Int64)), (6, .long (xa - xa / modulus * modulus)), (4, .long modulus), (0, .long xa), (2, .long modulus)] := hl
  exact wl_MD_inverse_14 (xa := xa) (modulus := modulus) hg hw S hl0 ht  ((xa - xa / modulus * modulus).toInt.natAbs + 1) modulus (xa - xa / modulus * modulus) (0 : Int64) (1 : Int64) r ls hr (by omega) (lv_sub hl [0, 1, 2, 3, 4, 5] rfl)
def lf_MD_bits_4 (kk : Int32) : Nat → Int32 → Int32 → Int32
  | 0, _, _ => 0
  | n + 1, cv, i => if (6 : Int32) ≤ i then cv else (lf_MD_bits_4 kk n (cv + ((kk >>> (i &&& 31)) &&& (1 : Int32))) (i + (1 : Int32)))
def f_MD_bits (kk : Int32) : Int32 := lf_MD_bits_4 kk 7 (0 : Int32) (0 : Int32)
set_option maxHeartbeats 4000000 in
set_option maxRecDepth 100000 in
theorem wl_MD_bits_4 {p : Program} {l : Launch} {e : Env} {s : State} {m : MethodId} {args : Array Value} {below : List Frame} {meth : Method} {c : Code} {G : xg_G} {kk : Int32} (hg : xg_F G) (hw : G.1.WarmedH s.vm) (S : xc_Fix p m c b_MD_bits 3 s "SealTrustModel") (hl0 : meth.locks = false) (ht : meth.sig.returnType = (some .int))  : ∀ (n : Nat) (cv : Int32) (i : Int32) (r : Int32) (ls : Array Slot), lf_MD_bits_4 kk n cv i = r → ((6 : Int32).toInt - i.toInt).toNat < n → lv_has ls 3 [(2, .int i), (1, .int cv), (0, .int kk)] → W p l e ({ frames := 0, cells := 0, slots := 0, locals := 0 } : Room) s m args below meth c s.heap [] 0 0 (xg_Z below (some (.int r)) args s) (F0 m 4 ls []) := by
  have hx := S.1
  have hb := S.2.1
  intro n
  induction n with
  | zero =>
    intro cv i r ls hr hmu hl
    omega
  | succ n ih =>
    intro cv i r ls hr hmu hl
    rw [lf_MD_bits_4] at hr
    refine lv_iload_n hx hb d_MD_bits_4 rfl (lv_at hl 0 rfl) ?_
    refine lv_bipush (v := (6 : Int32)) hx hb d_MD_bits_5 (by decide) ?_
    refine lv_icmp_ge hx hb d_MD_bits_7 (tgt := 24) (by decide) (fun h7 => ?_) (fun h7 => ?_)
    · rw [if_pos h7] at hr
      refine lv_iload_n hx hb d_MD_bits_24 rfl (lv_at hl 1 rfl) ?_
      exact xg_iret hx hb ht hl0 hr d_MD_bits_25
    · rw [if_neg h7] at hr
      refine lv_iload_n hx hb d_MD_bits_10 rfl (lv_at hl 1 rfl) ?_
      refine lv_iload_n hx hb d_MD_bits_11 rfl (lv_at hl 2 rfl) ?_
      refine lv_iload_n hx hb d_MD_bits_12 rfl (lv_at hl 0 rfl) ?_
      refine lv_ishr hx hb d_MD_bits_13 ?_
      refine lv_iconst (v := (1 : Int32)) hx hb d_MD_bits_14 (by decide) ?_
      refine lv_iand hx hb d_MD_bits_15 ?_
      refine lv_iadd hx hb d_MD_bits_16 ?_
      refine lv_istore_n hx hb d_MD_bits_17 rfl hl (by decide) rfl (fun ls hl => ?_)
      have hl : lv_has ls 3 [(1, .int (cv + ((kk >>> (i &&& 31)) &&& (1 : Int32)))), (2, .int i), (0, .int kk)] := hl
      refine lv_iinc (v := i + (1 : Int32)) hx hb d_MD_bits_18 hl (k := 1) rfl rfl (by decide) rfl (fun ls hl => ?_)
      have hl : lv_has ls 3 [(2, .int (i + (1 : Int32))), (1, .int (cv + ((kk >>> (i &&& 31)) &&& (1 : Int32)))), (0, .int kk)] := hl
      refine lv_goto hx hb d_MD_bits_21 (tgt := 4) (by decide) ?_
      exact ih (cv + ((kk >>> (i &&& 31)) &&& (1 : Int32))) (i + (1 : Int32)) r ls hr (xi_up h7 hmu) (lv_sub hl [0, 1, 2] rfl)
set_option maxHeartbeats 4000000 in
set_option maxRecDepth 100000 in
theorem ct_MD_bits (l : Launch) {G : xg_G} (hg : xg_F G) (H : Heap) (kk : Int32)  : xc_Met l y_MD_bits (.code y_MD_bits b_MD_bits 3 (some .int)) ({ frames := 0, cells := 0, slots := 0, locals := 0 } : Room) (xg_Pc G [.int kk] H) (xc_ro (some (.int (f_MD_bits kk))) H) (fun _ => False) := by
  refine xc_ofW (by decide) ?_
  intro p e s m args below meth c s₁ B hml hE hv
  obtain ⟨rfl, rfl, hw⟩ := hv
  have hx := B.exec
  have hb := B.bytes
  have ht := B.returns
  have hl0 := B.notSynchronized
  have S : xc_Fix p m c b_MD_bits 3 s "SealTrustModel" := ⟨hx, hb, hml, findClass_of_methodNamed B.named⟩
  have hl := lv_entry ([.int kk]) (n := 3) (Nat.le_of_ble_eq_true rfl)
  rw [lg_entry_eq]
  generalize (lg_sl ([.int kk]) ++ List.replicate (3 - (lg_sl ([.int kk])).length) Slot.unset).toArray = ls at hl ⊢
  have hl : lv_has ls 3 [(0, .int kk)] := hl
  obtain ⟨r, hr⟩ : ∃ r, f_MD_bits kk = r := ⟨_, rfl⟩
  rw [hr]
  unfold f_MD_bits at hr
  refine lv_iconst (v := (0 : Int32)) hx hb d_MD_bits_0 (by decide) ?_
  refine lv_istore_n hx hb d_MD_bits_1 rfl hl (by decide) rfl (fun ls hl => ?_)
  have hl : lv_has ls 3 [(1, .int (0 : Int32)), (0, .int kk)] := hl
  refine lv_iconst (v := (0 : Int32)) hx hb d_MD_bits_2 (by decide) ?_
  refine lv_istore_n hx hb d_MD_bits_3 rfl hl (by decide) rfl (fun ls hl => ?_)
  have hl : lv_has ls 3 [(2, .int (0 : Int32)), (1, .int (0 : Int32)), (0, .int kk)] := hl
  exact wl_MD_bits_4 (kk := kk) hg hw S hl0 ht  7 (0 : Int32) (0 : Int32) r ls hr (by decide) (lv_sub hl [0, 1, 2] rfl)
def f_MD_isTrustee (i : Int32) : Int32 := if i < 0 then (0 : Int32) else (if (6 : Int32) ≤ i then (0 : Int32) else (1 : Int32))
set_option maxHeartbeats 4000000 in
set_option maxRecDepth 100000 in
theorem ct_MD_isTrustee (l : Launch) {G : xg_G} (hg : xg_F G) (H : Heap) (i : Int32)  : xc_Met l y_MD_isTrustee (.code y_MD_isTrustee b_MD_isTrustee 1 (some .boolean)) ({ frames := 0, cells := 0, slots := 0, locals := 0 } : Room) (xg_Pc G [.int i] H) (xc_ro (some (.int (f_MD_isTrustee i))) H) (fun _ => False) := by
  refine xc_ofW (by decide) ?_
  intro p e s m args below meth c s₁ B hml hE hv
  obtain ⟨rfl, rfl, hw⟩ := hv
  have hx := B.exec
  have hb := B.bytes
  have ht := B.returns
  have hl0 := B.notSynchronized
  have S : xc_Fix p m c b_MD_isTrustee 1 s "SealTrustModel" := ⟨hx, hb, hml, findClass_of_methodNamed B.named⟩
  have hl := lv_entry ([.int i]) (n := 1) (Nat.le_of_ble_eq_true rfl)
  rw [lg_entry_eq]
  generalize (lg_sl ([.int i]) ++ List.replicate (1 - (lg_sl ([.int i])).length) Slot.unset).toArray = ls at hl ⊢
  have hl : lv_has ls 1 [(0, .int i)] := hl
  obtain ⟨r, hr⟩ : ∃ r, f_MD_isTrustee i = r := ⟨_, rfl⟩
  rw [hr]
  unfold f_MD_isTrustee at hr
  refine lv_iload_n hx hb d_MD_isTrustee_0 rfl (lv_at hl 0 rfl) ?_
  refine lv_if_lt hx hb d_MD_isTrustee_1 (tgt := 14) (by decide) (fun h1 => ?_) (fun h1 => ?_)
  · rw [if_pos h1] at hr
    refine lv_iconst (v := (0 : Int32)) hx hb d_MD_isTrustee_14 (by decide) ?_
    exact xg_zret hx hb ht hl0 rfl hr d_MD_isTrustee_15
  · rw [if_neg h1] at hr
    refine lv_iload_n hx hb d_MD_isTrustee_4 rfl (lv_at hl 0 rfl) ?_
    refine lv_bipush (v := (6 : Int32)) hx hb d_MD_isTrustee_5 (by decide) ?_
    refine lv_icmp_ge hx hb d_MD_isTrustee_7 (tgt := 14) (by decide) (fun h7 => ?_) (fun h7 => ?_)
    · rw [if_pos h7] at hr
      refine lv_iconst (v := (0 : Int32)) hx hb d_MD_isTrustee_14 (by decide) ?_
      exact xg_zret hx hb ht hl0 rfl hr d_MD_isTrustee_15
    · rw [if_neg h7] at hr
      refine lv_iconst (v := (1 : Int32)) hx hb d_MD_isTrustee_10 (by decide) ?_
      refine lv_goto hx hb d_MD_isTrustee_11 (tgt := 15) (by decide) ?_
      exact xg_zret hx hb ht hl0 rfl hr d_MD_isTrustee_15
theorem nb_MD_isTrustee (i : Int32) : f_MD_isTrustee i = 0 ∨ f_MD_isTrustee i = 1 := by
  unfold f_MD_isTrustee
  repeat' split
  all_goals first | exact Or.inl rfl | exact Or.inr rfl
def f_MD_isMotion (motion : Int32) (z_mo : Int32) : Int32 := if motion < 0 then (0 : Int32) else (if z_mo ≤ motion then (0 : Int32) else (1 : Int32))
set_option maxHeartbeats 4000000 in
set_option maxRecDepth 100000 in
theorem ct_MD_isMotion (l : Launch) {G : xg_G} (hg : xg_F G) (H : Heap) (y_ : Nat) (motion : Int32) (z_th : Int32) (z_n : Int64) (z_m : Int64) (z_d : Int64) (z_a : Int64) (z_b : Int64) (z_v : Int64) (z_ep : Int32) (z_su : Int32) (a_buf : Nat) (z_by : Int32) (z_mo : Int32) (a_st : Nat) (a_bl : Nat) (a_fi : Nat) (a_ob : Nat) (a_si : Nat) (a_po : Nat) (a_pr : Nat) (a_an : Nat) (z_bk : Int32) (a_bo : Nat) (z_h : Int64) (hP : va_P G.2.1 cl_all [(y_, .inr (4, [.int z_th, .long z_n, .long z_m, .long z_d, .long z_a, .long z_b, .long z_v, .int z_ep, .int z_su, .ref a_buf, .int z_by, .int z_mo, .ref a_st, .ref a_bl, .ref a_fi, .ref a_ob, .ref a_si, .ref a_po, .ref a_pr, .ref a_an, .int z_bk, .ref a_bo, .long z_h]))] H)  : xc_Met l y_MD_isMotion (.code y_MD_isMotion b_MD_isMotion 2 (some .boolean)) ({ frames := 0, cells := 0, slots := 0, locals := 0 } : Room) (xg_Pc G [.ref y_, .int motion] H) (xc_ro (some (.int (f_MD_isMotion motion z_mo))) H) (fun _ => False) := by
  refine xc_ofW (by decide) ?_
  intro p e s m args below meth c s₁ B hml hE hv
  obtain ⟨rfl, rfl, hw⟩ := hv
  have hx := B.exec
  have hb := B.bytes
  have ht := B.returns
  have hl0 := B.notSynchronized
  have S : xc_Fix p m c b_MD_isMotion 2 s "SealTrustModel" := ⟨hx, hb, hml, findClass_of_methodNamed B.named⟩
  have hl := lv_entry ([.ref y_, .int motion]) (n := 2) (Nat.le_of_ble_eq_true rfl)
  rw [lg_entry_eq]
  generalize (lg_sl ([.ref y_, .int motion]) ++ List.replicate (2 - (lg_sl ([.ref y_, .int motion])).length) Slot.unset).toArray = ls at hl ⊢
  have hl : lv_has ls 2 [(0, .ref y_), (1, .int motion)] := hl
  obtain ⟨r, hr⟩ : ∃ r, f_MD_isMotion motion z_mo = r := ⟨_, rfl⟩
  rw [hr]
  unfold f_MD_isMotion at hr
  refine lv_iload_n hx hb d_MD_isMotion_0 rfl (lv_at hl 1 rfl) ?_
  refine lv_if_lt hx hb d_MD_isMotion_1 (tgt := 16) (by decide) (fun h1 => ?_) (fun h1 => ?_)
  · rw [if_pos h1] at hr
    refine lv_iconst (v := (0 : Int32)) hx hb d_MD_isMotion_16 (by decide) ?_
    exact xg_zret hx hb ht hl0 rfl hr d_MD_isMotion_17
  · rw [if_neg h1] at hr
    refine lv_iload_n hx hb d_MD_isMotion_4 rfl (lv_at hl 1 rfl) ?_
    refine lv_aload_n hx hb d_MD_isMotion_5 rfl (lv_at hl 0 rfl) ?_
    refine gf_MD_45 hg hw S hP 0 rfl rfl d_MD_isMotion_6 ?_
    refine lv_icmp_ge hx hb d_MD_isMotion_9 (tgt := 16) (by decide) (fun h9 => ?_) (fun h9 => ?_)
    · rw [if_pos h9] at hr
      refine lv_iconst (v := (0 : Int32)) hx hb d_MD_isMotion_16 (by decide) ?_
      exact xg_zret hx hb ht hl0 rfl hr d_MD_isMotion_17
    · rw [if_neg h9] at hr
      refine lv_iconst (v := (1 : Int32)) hx hb d_MD_isMotion_12 (by decide) ?_
      refine lv_goto hx hb d_MD_isMotion_13 (tgt := 17) (by decide) ?_
      exact xg_zret hx hb ht hl0 rfl hr d_MD_isMotion_17
theorem nb_MD_isMotion (motion z_mo : Int32) : f_MD_isMotion motion z_mo = 0 ∨ f_MD_isMotion motion z_mo = 1 := by
  unfold f_MD_isMotion
  repeat' split
  all_goals first | exact Or.inl rfl | exact Or.inr rfl
def f_MD_mixed (z_h : Int64) : Int64 := (z_h.toUInt64 >>> ((33 : Int32).toInt64.toUInt64 &&& Int64.toUInt64 63)).toInt64
set_option maxHeartbeats 4000000 in
set_option maxRecDepth 100000 in
theorem ct_MD_mixed (l : Launch) {G : xg_G} (hg : xg_F G) (H : Heap) (y_ : Nat) (z_th : Int32) (z_n : Int64) (z_m : Int64) (z_d : Int64) (z_a : Int64) (z_b : Int64) (z_v : Int64) (z_ep : Int32) (z_su : Int32) (a_buf : Nat) (z_by : Int32) (z_mo : Int32) (a_st : Nat) (a_bl : Nat) (a_fi : Nat) (a_ob : Nat) (a_si : Nat) (a_po : Nat) (a_pr : Nat) (a_an : Nat) (z_bk : Int32) (a_bo : Nat) (z_h : Int64) (hP : va_P G.2.1 cl_all [(y_, .inr (4, [.int z_th, .long z_n, .long z_m, .long z_d, .long z_a, .long z_b, .long z_v, .int z_ep, .int z_su, .ref a_buf, .int z_by, .int z_mo, .ref a_st, .ref a_bl, .ref a_fi, .ref a_ob, .ref a_si, .ref a_po, .ref a_pr, .ref a_an, .int z_bk, .ref a_bo, .long z_h]))] H)  : xc_Met l y_MD_mixed (.code y_MD_mixed b_MD_mixed 1 (some .long)) ({ frames := 0, cells := 0, slots := 0, locals := 0 } : Room) (xg_Pc G [.ref y_] H) (xc_ro (some (.long (f_MD_mixed z_h))) H) (fun _ => False) := by
  refine xc_ofW (by decide) ?_
  intro p e s m args below meth c s₁ B hml hE hv
  obtain ⟨rfl, rfl, hw⟩ := hv
  have hx := B.exec
  have hb := B.bytes
  have ht := B.returns
  have hl0 := B.notSynchronized
  have S : xc_Fix p m c b_MD_mixed 1 s "SealTrustModel" := ⟨hx, hb, hml, findClass_of_methodNamed B.named⟩
  have hl := lv_entry ([.ref y_]) (n := 1) (Nat.le_of_ble_eq_true rfl)
  rw [lg_entry_eq]
  generalize (lg_sl ([.ref y_]) ++ List.replicate (1 - (lg_sl ([.ref y_])).length) Slot.unset).toArray = ls at hl ⊢
  have hl : lv_has ls 1 [(0, .ref y_)] := hl
  obtain ⟨r, hr⟩ : ∃ r, f_MD_mixed z_h = r := ⟨_, rfl⟩
  rw [hr]
  unfold f_MD_mixed at hr
  refine lv_aload_n hx hb d_MD_mixed_0 rfl (lv_at hl 0 rfl) ?_
  refine gf_MD_79 hg hw S hP 0 rfl rfl d_MD_mixed_1 ?_
  refine lv_bipush (v := (33 : Int32)) hx hb d_MD_mixed_4 (by decide) ?_
  refine lv_lushr hx hb d_MD_mixed_6 rfl ?_
  exact xg_lret hx hb ht hl0 hr d_MD_mixed_7
def f_MD_thrown (z_th : Int32) : Int32 := z_th
set_option maxHeartbeats 4000000 in
set_option maxRecDepth 100000 in
theorem ct_MD_thrown (l : Launch) {G : xg_G} (hg : xg_F G) (H : Heap) (y_ : Nat) (z_th : Int32) (z_n : Int64) (z_m : Int64) (z_d : Int64) (z_a : Int64) (z_b : Int64) (z_v : Int64) (z_ep : Int32) (z_su : Int32) (a_buf : Nat) (z_by : Int32) (z_mo : Int32) (a_st : Nat) (a_bl : Nat) (a_fi : Nat) (a_ob : Nat) (a_si : Nat) (a_po : Nat) (a_pr : Nat) (a_an : Nat) (z_bk : Int32) (a_bo : Nat) (z_h : Int64) (hP : va_P G.2.1 cl_all [(y_, .inr (4, [.int z_th, .long z_n, .long z_m, .long z_d, .long z_a, .long z_b, .long z_v, .int z_ep, .int z_su, .ref a_buf, .int z_by, .int z_mo, .ref a_st, .ref a_bl, .ref a_fi, .ref a_ob, .ref a_si, .ref a_po, .ref a_pr, .ref a_an, .int z_bk, .ref a_bo, .long z_h]))] H)  : xc_Met l y_MD_thrown (.code y_MD_thrown b_MD_thrown 1 (some .int)) ({ frames := 0, cells := 0, slots := 0, locals := 0 } : Room) (xg_Pc G [.ref y_] H) (xc_ro (some (.int (f_MD_thrown z_th))) H) (fun _ => False) := by
  refine xc_ofW (by decide) ?_
  intro p e s m args below meth c s₁ B hml hE hv
  obtain ⟨rfl, rfl, hw⟩ := hv
  have hx := B.exec
  have hb := B.bytes
  have ht := B.returns
  have hl0 := B.notSynchronized
  have S : xc_Fix p m c b_MD_thrown 1 s "SealTrustModel" := ⟨hx, hb, hml, findClass_of_methodNamed B.named⟩
  have hl := lv_entry ([.ref y_]) (n := 1) (Nat.le_of_ble_eq_true rfl)
  rw [lg_entry_eq]
  generalize (lg_sl ([.ref y_]) ++ List.replicate (1 - (lg_sl ([.ref y_])).length) Slot.unset).toArray = ls at hl ⊢
  have hl : lv_has ls 1 [(0, .ref y_)] := hl
  obtain ⟨r, hr⟩ : ∃ r, f_MD_thrown z_th = r := ⟨_, rfl⟩
  rw [hr]
  unfold f_MD_thrown at hr
  refine lv_aload_n hx hb d_MD_thrown_0 rfl (lv_at hl 0 rfl) ?_
  refine gf_MD_7 hg hw S hP 0 rfl rfl d_MD_thrown_1 ?_
  exact xg_iret hx hb ht hl0 hr d_MD_thrown_4
def f_MD_part (i : Int32) (z_m : Int64) (z_d : Int64) (z_a : Int64) (z_b : Int64) : Int64 := ((z_d + (z_a * (i.toInt64 + (1 : Int64)))) + (((z_b * (i.toInt64 + (1 : Int64))) - (z_b * (i.toInt64 + (1 : Int64))) / z_m * z_m) * (i.toInt64 + (1 : Int64)))) - ((z_d + (z_a * (i.toInt64 + (1 : Int64)))) + (((z_b * (i.toInt64 + (1 : Int64))) - (z_b * (i.toInt64 + (1 : Int64))) / z_m * z_m) * (i.toInt64 + (1 : Int64)))) / z_m * z_m
set_option maxHeartbeats 4000000 in
set_option maxRecDepth 100000 in
theorem ct_MD_part (l : Launch) {G : xg_G} (hg : xg_F G) (H : Heap) (y_ : Nat) (i : Int32) (z_th : Int32) (z_n : Int64) (z_m : Int64) (z_d : Int64) (z_a : Int64) (z_b : Int64) (z_v : Int64) (z_ep : Int32) (z_su : Int32) (a_buf : Nat) (z_by : Int32) (z_mo : Int32) (a_st : Nat) (a_bl : Nat) (a_fi : Nat) (a_ob : Nat) (a_si : Nat) (a_po : Nat) (a_pr : Nat) (a_an : Nat) (z_bk : Int32) (a_bo : Nat) (z_h : Int64) (hP : va_P G.2.1 cl_all [(y_, .inr (4, [.int z_th, .long z_n, .long z_m, .long z_d, .long z_a, .long z_b, .long z_v, .int z_ep, .int z_su, .ref a_buf, .int z_by, .int z_mo, .ref a_st, .ref a_bl, .ref a_fi, .ref a_ob, .ref a_si, .ref a_po, .ref a_pr, .ref a_an, .int z_bk, .ref a_bo, .long z_h]))] H) (hm : ¬ z_m = 0) : xc_Met l y_MD_part (.code y_MD_part b_MD_part 4 (some .long)) ({ frames := 0, cells := 0, slots := 0, locals := 0 } : Room) (xg_Pc G [.ref y_, .int i] H) (xc_ro (some (.long (f_MD_part i z_m z_d z_a z_b))) H) (fun _ => False) := by
  refine xc_ofW (by decide) ?_
  intro p e s m args below meth c s₁ B hml hE hv
  obtain ⟨rfl, rfl, hw⟩ := hv
  have hx := B.exec
  have hb := B.bytes
  have ht := B.returns
  have hl0 := B.notSynchronized
  have S : xc_Fix p m c b_MD_part 4 s "SealTrustModel" := ⟨hx, hb, hml, findClass_of_methodNamed B.named⟩
  have hl := lv_entry ([.ref y_, .int i]) (n := 4) (Nat.le_of_ble_eq_true rfl)
  rw [lg_entry_eq]
  generalize (lg_sl ([.ref y_, .int i]) ++ List.replicate (4 - (lg_sl ([.ref y_, .int i])).length) Slot.unset).toArray = ls at hl ⊢
  have hl : lv_has ls 4 [(0, .ref y_), (1, .int i)] := hl
  obtain ⟨r, hr⟩ : ∃ r, f_MD_part i z_m z_d z_a z_b = r := ⟨_, rfl⟩
  rw [hr]
  unfold f_MD_part at hr
  refine lv_iload_n hx hb d_MD_part_0 rfl (lv_at hl 1 rfl) ?_
  refine lv_i2l hx hb d_MD_part_1 rfl ?_
  refine lv_lconst (v := (1 : Int64)) hx hb d_MD_part_2 (by decide) ?_
  refine lv_ladd hx hb d_MD_part_3 ?_
  refine lv_lstore_n hx hb d_MD_part_4 rfl hl (by decide) rfl (fun ls hl => ?_)
  have hl : lv_has ls 4 [(2, .long (i.toInt64 + (1 : Int64))), (0, .ref y_), (1, .int i)] := hl
  refine lv_aload_n hx hb d_MD_part_5 rfl (lv_at hl 1 rfl) ?_
  refine gf_MD_20 hg hw S hP 0 rfl rfl d_MD_part_6 ?_
  refine lv_aload_n hx hb d_MD_part_9 rfl (lv_at hl 1 rfl) ?_
  refine gf_MD_23 hg hw S hP 0 rfl rfl d_MD_part_10 ?_
  refine lv_lload_n hx hb d_MD_part_13 rfl (lv_at hl 0 rfl) ?_
  refine lv_lmul hx hb d_MD_part_14 ?_
  refine lv_ladd hx hb d_MD_part_15 ?_
  refine lv_aload_n hx hb d_MD_part_16 rfl (lv_at hl 1 rfl) ?_
  refine gf_MD_26 hg hw S hP 0 rfl rfl d_MD_part_17 ?_
  refine lv_lload_n hx hb d_MD_part_20 rfl (lv_at hl 0 rfl) ?_
  refine lv_lmul hx hb d_MD_part_21 ?_
  refine lv_aload_n hx hb d_MD_part_22 rfl (lv_at hl 1 rfl) ?_
  refine gf_MD_17 hg hw S hP 0 rfl rfl d_MD_part_23 ?_
  refine lv_lrem hx hb d_MD_part_26 hm ?_
  refine lv_lload_n hx hb d_MD_part_27 rfl (lv_at hl 0 rfl) ?_
  refine lv_lmul hx hb d_MD_part_28 ?_
  refine lv_ladd hx hb d_MD_part_29 ?_
  refine lv_aload_n hx hb d_MD_part_30 rfl (lv_at hl 1 rfl) ?_
  refine gf_MD_17 hg hw S hP 0 rfl rfl d_MD_part_31 ?_
  refine lv_lrem hx hb d_MD_part_34 hm ?_
  exact xg_lret hx hb ht hl0 hr d_MD_part_35
def f_MD_check (i : Int32) (z_n : Int64) (z_m : Int64) (z_d : Int64) (z_a : Int64) (z_b : Int64) (z_v : Int64) : Int64 := f_MD_raised z_v (f_MD_part i z_m z_d z_a z_b) z_n
set_option maxHeartbeats 4000000 in
set_option maxRecDepth 100000 in
theorem ct_MD_check (l : Launch) {G : xg_G} (hg : xg_F G) (H : Heap) (y_ : Nat) (i : Int32) (z_th : Int32) (z_n : Int64) (z_m : Int64) (z_d : Int64) (z_a : Int64) (z_b : Int64) (z_v : Int64) (z_ep : Int32) (z_su : Int32) (a_buf : Nat) (z_by : Int32) (z_mo : Int32) (a_st : Nat) (a_bl : Nat) (a_fi : Nat) (a_ob : Nat) (a_si : Nat) (a_po : Nat) (a_pr : Nat) (a_an : Nat) (z_bk : Int32) (a_bo : Nat) (z_h : Int64) (hP : va_P G.2.1 cl_all [(y_, .inr (4, [.int z_th, .long z_n, .long z_m, .long z_d, .long z_a, .long z_b, .long z_v, .int z_ep, .int z_su, .ref a_buf, .int z_by, .int z_mo, .ref a_st, .ref a_bl, .ref a_fi, .ref a_ob, .ref a_si, .ref a_po, .ref a_pr, .ref a_an, .int z_bk, .ref a_bo, .long z_h]))] H) (hm : ¬ z_m = 0) (hn : ¬ z_n = 0) : xc_Met l y_MD_check (.code y_MD_check b_MD_check 2 (some .long)) ({ frames := 1, cells := 0, slots := 0, locals := 23 } : Room) (xg_Pc G [.ref y_, .int i] H) (xc_ro (some (.long (f_MD_check i z_n z_m z_d z_a z_b z_v))) H) (fun _ => False) := by
  refine xc_ofW (by decide) ?_
  intro p e s m args below meth c s₁ B hml hE hv
  obtain ⟨rfl, rfl, hw⟩ := hv
  have hx := B.exec
  have hb := B.bytes
  have ht := B.returns
  have hl0 := B.notSynchronized
  have S : xc_Fix p m c b_MD_check 2 s "SealTrustModel" := ⟨hx, hb, hml, findClass_of_methodNamed B.named⟩
  have hl := lv_entry ([.ref y_, .int i]) (n := 2) (Nat.le_of_ble_eq_true rfl)
  rw [lg_entry_eq]
  generalize (lg_sl ([.ref y_, .int i]) ++ List.replicate (2 - (lg_sl ([.ref y_, .int i])).length) Slot.unset).toArray = ls at hl ⊢
  have hl : lv_has ls 2 [(0, .ref y_), (1, .int i)] := hl
  obtain ⟨r, hr⟩ : ∃ r, f_MD_check i z_n z_m z_d z_a z_b z_v = r := ⟨_, rfl⟩
  rw [hr]
  unfold f_MD_check at hr
  refine lv_aload_n hx hb d_MD_check_0 rfl (lv_at hl 0 rfl) ?_
  refine gf_MD_29 hg hw S hP 0 rfl rfl d_MD_check_1 ?_
  refine lv_aload_n hx hb d_MD_check_4 rfl (lv_at hl 0 rfl) ?_
  refine lv_iload_n hx hb d_MD_check_5 rfl (lv_at hl 1 rfl) ?_
  refine xg_read (xg_runV (rest := [.long z_v]) (kw := 2) si_MD_92 hg hw S (va_recv (xg_k hg hw) hP (ci := 4) rfl (q0 := 0) rfl) (ct_MD_part l hg s.heap y_ i z_th z_n z_m z_d z_a z_b z_v z_ep z_su a_buf z_by z_mo a_st a_bl a_fi a_ob a_si a_po a_pr a_an z_bk a_bo z_h (hP.sub [0] rfl) hm) ⟨by decide, by decide, by decide, by decide⟩ rfl hl.1 rfl (Nat.le_of_ble_eq_true rfl) d_MD_check_6) ?_
  refine lv_aload_n hx hb d_MD_check_9 rfl (lv_at hl 0 rfl) ?_
  refine gf_MD_13 hg hw S hP 0 rfl rfl d_MD_check_10 ?_
  refine xg_read (xg_runS (rest := []) (kw := 0) si_MD_96 hg hw S (ct_MD_raised l hg s.heap z_v (f_MD_part i z_m z_d z_a z_b) z_n hn) ⟨by decide, by decide, by decide, by decide⟩ rfl hl.1 rfl (Nat.le_of_ble_eq_true rfl) d_MD_check_13) ?_
  exact xg_lret hx hb ht hl0 hr d_MD_check_16
def f_MD_voice (motion : Int32) (trustee : Int32) (z_fi : Nat → Int32) (z_ob : Nat → Int32) : Int32 := if ((((z_fi motion.toNatClampNeg) ||| (z_ob motion.toNatClampNeg)) >>> (trustee &&& 31)) &&& (1 : Int32)) = (1 : Int32) then (1 : Int32) else (0 : Int32)
set_option maxHeartbeats 4000000 in
set_option maxRecDepth 100000 in
theorem ct_MD_voice (l : Launch) {G : xg_G} (hg : xg_F G) (H : Heap) (y_ : Nat) (motion : Int32) (trustee : Int32) (z_th : Int32) (z_n : Int64) (z_m : Int64) (z_d : Int64) (z_a : Int64) (z_b : Int64) (z_v : Int64) (z_ep : Int32) (z_su : Int32) (a_buf : Nat) (z_by : Int32) (z_mo : Int32) (a_st : Nat) (a_bl : Nat) (a_fi : Nat) (a_ob : Nat) (a_si : Nat) (a_po : Nat) (a_pr : Nat) (a_an : Nat) (z_bk : Int32) (a_bo : Nat) (z_h : Int64) (z_fi : Nat → Int32) (z_ob : Nat → Int32) (hP : va_P G.2.1 cl_all [(y_, .inr (4, [.int z_th, .long z_n, .long z_m, .long z_d, .long z_a, .long z_b, .long z_v, .int z_ep, .int z_su, .ref a_buf, .int z_by, .int z_mo, .ref a_st, .ref a_bl, .ref a_fi, .ref a_ob, .ref a_si, .ref a_po, .ref a_pr, .ref a_an, .int z_bk, .ref a_bo, .long z_h])), (a_fi, .inl (G.2.2.1, 12, .inl z_fi)), (a_ob, .inl (G.2.2.1, 12, .inl z_ob))] H) (hI : vp_in motion 12) : xc_Met l y_MD_voice (.code y_MD_voice b_MD_voice 3 (some .boolean)) ({ frames := 0, cells := 0, slots := 0, locals := 0 } : Room) (xg_Pc G [.ref y_, .int motion, .int trustee] H) (xc_ro (some (.int (f_MD_voice motion trustee z_fi z_ob))) H) (fun _ => False) := by
  refine xc_ofW (by decide) ?_
  intro p e s m args below meth c s₁ B hml hE hv
  obtain ⟨rfl, rfl, hw⟩ := hv
  have hx := B.exec
  have hb := B.bytes
  have ht := B.returns
  have hl0 := B.notSynchronized
  have S : xc_Fix p m c b_MD_voice 3 s "SealTrustModel" := ⟨hx, hb, hml, findClass_of_methodNamed B.named⟩
  have hl := lv_entry ([.ref y_, .int motion, .int trustee]) (n := 3) (Nat.le_of_ble_eq_true rfl)
  rw [lg_entry_eq]
  generalize (lg_sl ([.ref y_, .int motion, .int trustee]) ++ List.replicate (3 - (lg_sl ([.ref y_, .int motion, .int trustee])).length) Slot.unset).toArray = ls at hl ⊢
  have hl : lv_has ls 3 [(0, .ref y_), (1, .int motion), (2, .int trustee)] := hl
  obtain ⟨r, hr⟩ : ∃ r, f_MD_voice motion trustee z_fi z_ob = r := ⟨_, rfl⟩
  rw [hr]
  unfold f_MD_voice at hr
  refine lv_aload_n hx hb d_MD_voice_0 rfl (lv_at hl 0 rfl) ?_
  refine gf_MD_55 hg hw S hP 0 rfl rfl d_MD_voice_1 ?_
  refine lv_iload_n hx hb d_MD_voice_4 rfl (lv_at hl 1 rfl) ?_
  refine va_iald hx hb (xg_k hg hw) hP 1 0 rfl rfl hI d_MD_voice_5 ?_
  refine lv_aload_n hx hb d_MD_voice_6 rfl (lv_at hl 0 rfl) ?_
  refine gf_MD_58 hg hw S hP 0 rfl rfl d_MD_voice_7 ?_
  refine lv_iload_n hx hb d_MD_voice_10 rfl (lv_at hl 1 rfl) ?_
  refine va_iald hx hb (xg_k hg hw) hP 2 0 rfl rfl hI d_MD_voice_11 ?_
  refine lv_ior hx hb d_MD_voice_12 ?_
  refine lv_iload_n hx hb d_MD_voice_13 rfl (lv_at hl 2 rfl) ?_
  refine lv_ishr hx hb d_MD_voice_14 ?_
  refine lv_iconst (v := (1 : Int32)) hx hb d_MD_voice_15 (by decide) ?_
  refine lv_iand hx hb d_MD_voice_16 ?_
  refine lv_iconst (v := (1 : Int32)) hx hb d_MD_voice_17 (by decide) ?_
  refine lv_icmp_ne hx hb d_MD_voice_18 (tgt := 25) (by decide) (fun h18 => ?_) (fun h18 => ?_)
  · rw [if_neg h18] at hr
    refine lv_iconst (v := (0 : Int32)) hx hb d_MD_voice_25 (by decide) ?_
    exact xg_zret hx hb ht hl0 rfl hr d_MD_voice_26
  · rw [if_pos h18] at hr
    refine lv_iconst (v := (1 : Int32)) hx hb d_MD_voice_21 (by decide) ?_
    refine lv_goto hx hb d_MD_voice_22 (tgt := 26) (by decide) ?_
    exact xg_zret hx hb ht hl0 rfl hr d_MD_voice_26
theorem nb_MD_voice (motion trustee : Int32) (z_fi z_ob : Nat → Int32) : f_MD_voice motion trustee z_fi z_ob = 0 ∨ f_MD_voice motion trustee z_fi z_ob = 1 := by
  unfold f_MD_voice
  repeat' split
  all_goals first | exact Or.inl rfl | exact Or.inr rfl
def f_MD_begin_h  : Int64 := (7 : Int64)
set_option maxHeartbeats 4000000 in
set_option maxRecDepth 100000 in
theorem ct_MD_begin (l : Launch) {G : xg_G} (hg : xg_F G) (H : Heap) (y_ : Nat) (z_th : Int32) (z_n : Int64) (z_m : Int64) (z_d : Int64) (z_a : Int64) (z_b : Int64) (z_v : Int64) (z_ep : Int32) (z_su : Int32) (a_buf : Nat) (z_by : Int32) (z_mo : Int32) (a_st : Nat) (a_bl : Nat) (a_fi : Nat) (a_ob : Nat) (a_si : Nat) (a_po : Nat) (a_pr : Nat) (a_an : Nat) (z_bk : Int32) (a_bo : Nat) (z_h : Int64) (hP : va_P G.2.1 cl_all [(y_, .inr (4, [.int z_th, .long z_n, .long z_m, .long z_d, .long z_a, .long z_b, .long z_v, .int z_ep, .int z_su, .ref a_buf, .int z_by, .int z_mo, .ref a_st, .ref a_bl, .ref a_fi, .ref a_ob, .ref a_si, .ref a_po, .ref a_pr, .ref a_an, .int z_bk, .ref a_bo, .long z_h]))] H) (hD0 : va_D (fun _ => True) [(y_, .inr (4, [.int z_th, .long z_n, .long z_m, .long z_d, .long z_a, .long z_b, .long z_v, .int z_ep, .int z_su, .ref a_buf, .int z_by, .int z_mo, .ref a_st, .ref a_bl, .ref a_fi, .ref a_ob, .ref a_si, .ref a_po, .ref a_pr, .ref a_an, .int z_bk, .ref a_bo, .long z_h]))])  : xc_Met l y_MD_begin (.code y_MD_begin b_MD_begin 1 none) ({ frames := 0, cells := 0, slots := 0, locals := 0 } : Room) (xg_Pc G [.ref y_] H) (xw_post G (va_A [(y_, .inr (4, [.int z_th, .long z_n, .long z_m, .long z_d, .long z_a, .long z_b, .long z_v, .int z_ep, .int z_su, .ref a_buf, .int z_by, .int z_mo, .ref a_st, .ref a_bl, .ref a_fi, .ref a_ob, .ref a_si, .ref a_po, .ref a_pr, .ref a_an, .int z_bk, .ref a_bo, .long z_h]))] H.size) none [(y_, .inr (4, [.int z_th, .long z_n, .long z_m, .long z_d, .long z_a, .long z_b, .long z_v, .int z_ep, .int z_su, .ref a_buf, .int z_by, .int z_mo, .ref a_st, .ref a_bl, .ref a_fi, .ref a_ob, .ref a_si, .ref a_po, .ref a_pr, .ref a_an, .int z_bk, .ref a_bo, .long f_MD_begin_h]))]) (va_A [(y_, .inr (4, [.int z_th, .long z_n, .long z_m, .long z_d, .long z_a, .long z_b, .long z_v, .int z_ep, .int z_su, .ref a_buf, .int z_by, .int z_mo, .ref a_st, .ref a_bl, .ref a_fi, .ref a_ob, .ref a_si, .ref a_po, .ref a_pr, .ref a_an, .int z_bk, .ref a_bo, .long z_h]))] H.size) := by
  refine xc_ofW (by decide) ?_
  intro p e s m args below meth c s₁ B hml hE hv
  obtain ⟨rfl, rfl, hw⟩ := hv
  have hx := B.exec
  have hb := B.bytes
  have ht := B.returns
  have hl0 := B.notSynchronized
  have S : xc_Fix p m c b_MD_begin 1 s "SealTrustModel" := ⟨hx, hb, hml, findClass_of_methodNamed B.named⟩
  have hD := hD0.self (sz := s.heap.size)
  generalize hAe : va_A [(y_, .inr (4, [.int z_th, .long z_n, .long z_m, .long z_d, .long z_a, .long z_b, .long z_v, .int z_ep, .int z_su, .ref a_buf, .int z_by, .int z_mo, .ref a_st, .ref a_bl, .ref a_fi, .ref a_ob, .ref a_si, .ref a_po, .ref a_pr, .ref a_an, .int z_bk, .ref a_bo, .long z_h]))] s.heap.size = A at hD ⊢
  have hA : ∀ q : Nat, s.heap.size ≤ q → A q := fun q h => by rw [← hAe]; exact Or.inr h
  have hS : va_S A s.heap s.heap [] := va_S.rf
  have hl := lv_entry ([.ref y_]) (n := 1) (Nat.le_of_ble_eq_true rfl)
  rw [lg_entry_eq]
  generalize (lg_sl ([.ref y_]) ++ List.replicate (1 - (lg_sl ([.ref y_])).length) Slot.unset).toArray = ls at hl ⊢
  have hl : lv_has ls 1 [(0, .ref y_)] := hl
  obtain ⟨r0, hr0⟩ : ∃ r, f_MD_begin_h  = r := ⟨_, rfl⟩
  rw [hr0]
  unfold f_MD_begin_h at hr0
  refine lv_aload_n hx hb d_MD_begin_0 rfl (lv_at hl 0 rfl) ?_
  refine kc_MD_86 hg hw S d_MD_begin_1 ?_
  refine pf_MD_79 hg hw S hP hD hS 0 rfl rfl rfl (Nat.le_of_ble_eq_true rfl) d_MD_begin_4 (fun H1 L1 hP hD hS => ?_)
  have hP : va_P G.2.1 cl_all [(y_, .inr (4, [.int z_th, .long z_n, .long z_m, .long z_d, .long z_a, .long z_b, .long z_v, .int z_ep, .int z_su, .ref a_buf, .int z_by, .int z_mo, .ref a_st, .ref a_bl, .ref a_fi, .ref a_ob, .ref a_si, .ref a_po, .ref a_pr, .ref a_an, .int z_bk, .ref a_bo, .long (7 : Int64)]))] H1 := hP
  have hD : va_D A [(y_, .inr (4, [.int z_th, .long z_n, .long z_m, .long z_d, .long z_a, .long z_b, .long z_v, .int z_ep, .int z_su, .ref a_buf, .int z_by, .int z_mo, .ref a_st, .ref a_bl, .ref a_fi, .ref a_ob, .ref a_si, .ref a_po, .ref a_pr, .ref a_an, .int z_bk, .ref a_bo, .long (7 : Int64)]))] := hD
  subst hr0
  exact xw_vret hx hb ht hl0 hP hD hS d_MD_begin_7
def f_MD_mix_h (kx : Int64) (z_h : Int64) : Int64 := ((z_h ^^^ kx) * (6364136223846793005 : Int64)) + (1442695040888963407 : Int64)
set_option maxHeartbeats 4000000 in
set_option maxRecDepth 100000 in
theorem ct_MD_mix (l : Launch) {G : xg_G} (hg : xg_F G) (H : Heap) (y_ : Nat) (kx : Int64) (z_th : Int32) (z_n : Int64) (z_m : Int64) (z_d : Int64) (z_a : Int64) (z_b : Int64) (z_v : Int64) (z_ep : Int32) (z_su : Int32) (a_buf : Nat) (z_by : Int32) (z_mo : Int32) (a_st : Nat) (a_bl : Nat) (a_fi : Nat) (a_ob : Nat) (a_si : Nat) (a_po : Nat) (a_pr : Nat) (a_an : Nat) (z_bk : Int32) (a_bo : Nat) (z_h : Int64) (hP : va_P G.2.1 cl_all [(y_, .inr (4, [.int z_th, .long z_n, .long z_m, .long z_d, .long z_a, .long z_b, .long z_v, .int z_ep, .int z_su, .ref a_buf, .int z_by, .int z_mo, .ref a_st, .ref a_bl, .ref a_fi, .ref a_ob, .ref a_si, .ref a_po, .ref a_pr, .ref a_an, .int z_bk, .ref a_bo, .long z_h]))] H) (hD0 : va_D (fun _ => True) [(y_, .inr (4, [.int z_th, .long z_n, .long z_m, .long z_d, .long z_a, .long z_b, .long z_v, .int z_ep, .int z_su, .ref a_buf, .int z_by, .int z_mo, .ref a_st, .ref a_bl, .ref a_fi, .ref a_ob, .ref a_si, .ref a_po, .ref a_pr, .ref a_an, .int z_bk, .ref a_bo, .long z_h]))])  : xc_Met l y_MD_mix (.code y_MD_mix b_MD_mix 3 none) ({ frames := 0, cells := 0, slots := 0, locals := 0 } : Room) (xg_Pc G [.ref y_, .long kx] H) (xw_post G (va_A [(y_, .inr (4, [.int z_th, .long z_n, .long z_m, .long z_d, .long z_a, .long z_b, .long z_v, .int z_ep, .int z_su, .ref a_buf, .int z_by, .int z_mo, .ref a_st, .ref a_bl, .ref a_fi, .ref a_ob, .ref a_si, .ref a_po, .ref a_pr, .ref a_an, .int z_bk, .ref a_bo, .long z_h]))] H.size) none [(y_, .inr (4, [.int z_th, .long z_n, .long z_m, .long z_d, .long z_a, .long z_b, .long z_v, .int z_ep, .int z_su, .ref a_buf, .int z_by, .int z_mo, .ref a_st, .ref a_bl, .ref a_fi, .ref a_ob, .ref a_si, .ref a_po, .ref a_pr, .ref a_an, .int z_bk, .ref a_bo, .long (f_MD_mix_h kx z_h)]))]) (va_A [(y_, .inr (4, [.int z_th, .long z_n, .long z_m, .long z_d, .long z_a, .long z_b, .long z_v, .int z_ep, .int z_su, .ref a_buf, .int z_by, .int z_mo, .ref a_st, .ref a_bl, .ref a_fi, .ref a_ob, .ref a_si, .ref a_po, .ref a_pr, .ref a_an, .int z_bk, .ref a_bo, .long z_h]))] H.size) := by
  refine xc_ofW (by decide) ?_
  intro p e s m args below meth c s₁ B hml hE hv
  obtain ⟨rfl, rfl, hw⟩ := hv
  have hx := B.exec
  have hb := B.bytes
  have ht := B.returns
  have hl0 := B.notSynchronized
  have S : xc_Fix p m c b_MD_mix 3 s "SealTrustModel" := ⟨hx, hb, hml, findClass_of_methodNamed B.named⟩
  have hD := hD0.self (sz := s.heap.size)
  generalize hAe : va_A [(y_, .inr (4, [.int z_th, .long z_n, .long z_m, .long z_d, .long z_a, .long z_b, .long z_v, .int z_ep, .int z_su, .ref a_buf, .int z_by, .int z_mo, .ref a_st, .ref a_bl, .ref a_fi, .ref a_ob, .ref a_si, .ref a_po, .ref a_pr, .ref a_an, .int z_bk, .ref a_bo, .long z_h]))] s.heap.size = A at hD ⊢
  have hA : ∀ q : Nat, s.heap.size ≤ q → A q := fun q h => by rw [← hAe]; exact Or.inr h
  have hS : va_S A s.heap s.heap [] := va_S.rf
  have hl := lv_entry ([.ref y_, .long kx]) (n := 3) (Nat.le_of_ble_eq_true rfl)
  rw [lg_entry_eq]
  generalize (lg_sl ([.ref y_, .long kx]) ++ List.replicate (3 - (lg_sl ([.ref y_, .long kx])).length) Slot.unset).toArray = ls at hl ⊢
  have hl : lv_has ls 3 [(0, .ref y_), (1, .long kx)] := hl
  obtain ⟨r0, hr0⟩ : ∃ r, f_MD_mix_h kx z_h = r := ⟨_, rfl⟩
  rw [hr0]
  unfold f_MD_mix_h at hr0
  refine lv_aload_n hx hb d_MD_mix_0 rfl (lv_at hl 0 rfl) ?_
  refine lv_aload_n hx hb d_MD_mix_1 rfl (lv_at hl 0 rfl) ?_
  refine gf_MD_79 hg hw S hP 0 rfl rfl d_MD_mix_2 ?_
  refine lv_lload_n hx hb d_MD_mix_5 rfl (lv_at hl 1 rfl) ?_
  refine lv_lxor hx hb d_MD_mix_6 ?_
  refine kc_MD_88 hg hw S d_MD_mix_7 ?_
  refine lv_lmul hx hb d_MD_mix_10 ?_
  refine kc_MD_90 hg hw S d_MD_mix_11 ?_
  refine lv_ladd hx hb d_MD_mix_14 ?_
  refine pf_MD_79 hg hw S hP hD hS 0 rfl rfl rfl (Nat.le_of_ble_eq_true rfl) d_MD_mix_15 (fun H1 L1 hP hD hS => ?_)
  have hP : va_P G.2.1 cl_all [(y_, .inr (4, [.int z_th, .long z_n, .long z_m, .long z_d, .long z_a, .long z_b, .long z_v, .int z_ep, .int z_su, .ref a_buf, .int z_by, .int z_mo, .ref a_st, .ref a_bl, .ref a_fi, .ref a_ob, .ref a_si, .ref a_po, .ref a_pr, .ref a_an, .int z_bk, .ref a_bo, .long (((z_h ^^^ kx) * (6364136223846793005 : Int64)) + (1442695040888963407 : Int64))]))] H1 := hP
  have hD : va_D A [(y_, .inr (4, [.int z_th, .long z_n, .long z_m, .long z_d, .long z_a, .long z_b, .long z_v, .int z_ep, .int z_su, .ref a_buf, .int z_by, .int z_mo, .ref a_st, .ref a_bl, .ref a_fi, .ref a_ob, .ref a_si, .ref a_po, .ref a_pr, .ref a_an, .int z_bk, .ref a_bo, .long (((z_h ^^^ kx) * (6364136223846793005 : Int64)) + (1442695040888963407 : Int64))]))] := hD
  subst hr0
  exact xw_vret hx hb ht hl0 hP hD hS d_MD_mix_18
def lf_MD_blockOf_6_0 (z_n : Int64) (z_by : Int32) (z_buf : Nat → Int32) : Nat → Int32 → Int64 → Int64
  | 0, _, _ => 0
  | n + 1, i, hv => if z_by ≤ i then ((2 : Int64) + ((f_MD_mixed (f_MD_mix_h z_by.toInt64 hv)) - (f_MD_mixed (f_MD_mix_h z_by.toInt64 hv)) / (z_n - (3 : Int64)) * (z_n - (3 : Int64)))) else (lf_MD_blockOf_6_0 z_n z_by z_buf n (i + (1 : Int32)) (f_MD_mix_h ((z_buf i.toNatClampNeg).toInt64) hv))
def lf_MD_blockOf_6_1 (z_n : Int64) (z_by : Int32) (z_buf : Nat → Int32) : Nat → Int32 → Int64 → Int64
  | 0, _, _ => 0
  | n + 1, i, hv => if z_by ≤ i then (f_MD_mix_h z_by.toInt64 hv) else (lf_MD_blockOf_6_1 z_n z_by z_buf n (i + (1 : Int32)) (f_MD_mix_h ((z_buf i.toNatClampNeg).toInt64) hv))
def f_MD_blockOf (z_n : Int64) (z_by : Int32) (z_buf : Nat → Int32) : Int64 := lf_MD_blockOf_6_0 z_n z_by z_buf 25 (0 : Int32) f_MD_begin_h
def f_MD_blockOf_h (z_n : Int64) (z_by : Int32) (z_buf : Nat → Int32) : Int64 := lf_MD_blockOf_6_1 z_n z_by z_buf 25 (0 : Int32) f_MD_begin_h
set_option maxHeartbeats 4000000 in
set_option maxRecDepth 100000 in
theorem wl_MD_blockOf_6 {p : Program} {l : Launch} {e : Env} {s : State} {m : MethodId} {args : Array Value} {below : List Frame} {meth : Method} {c : Code} {G : xg_G} {A : Nat → Prop} {y_ : Nat} {z_th : Int32} {z_n : Int64} {z_m : Int64} {z_d : Int64} {z_a : Int64} {z_b : Int64} {z_v : Int64} {z_ep : Int32} {z_su : Int32} {a_buf : Nat} {z_by : Int32} {z_mo : Int32} {a_st : Nat} {a_bl : Nat} {a_fi : Nat} {a_ob : Nat} {a_si : Nat} {a_po : Nat} {a_pr : Nat} {a_an : Nat} {z_bk : Int32} {a_bo : Nat} {z_h : Int64} {z_buf : Nat → Int32} (hg : xg_F G) (hw : G.1.WarmedH s.vm) (S : xc_Fix p m c b_MD_blockOf 2 s "SealTrustModel") (hl0 : meth.locks = false) (ht : meth.sig.returnType = (some .long)) (hA : ∀ q, s.heap.size ≤ q → A q) (h0 : ¬ z_n - (3 : Int64) = 0) (hZ : z_by.toInt ≤ 24) : ∀ (n : Nat) (i : Int32) (hv : Int64) (r0 : Int64) (r1 : Int64) (ls : Array Slot) (H9 : Heap) (L9 : List Loc), lf_MD_blockOf_6_0 z_n z_by z_buf n i hv = r0 → lf_MD_blockOf_6_1 z_n z_by z_buf n i hv = r1 → (0 ≤ i.toInt ∧ (z_by.toInt - i.toInt).toNat < n) → lv_has ls 2 [(1, .int i), (0, .ref y_)] → va_P G.2.1 cl_all [(a_buf, .inl (G.2.2.1, 24, .inl z_buf)), (y_, .inr (4, [.int z_th, .long z_n, .long z_m, .long z_d, .long z_a, .long z_b, .long z_v, .int z_ep, .int z_su, .ref a_buf, .int z_by, .int z_mo, .ref a_st, .ref a_bl, .ref a_fi, .ref a_ob, .ref a_si, .ref a_po, .ref a_pr, .ref a_an, .int z_bk, .ref a_bo, .long hv]))] H9 → va_D A [(a_buf, .inl (G.2.2.1, 24, .inl z_buf)), (y_, .inr (4, [.int z_th, .long z_n, .long z_m, .long z_d, .long z_a, .long z_b, .long z_v, .int z_ep, .int z_su, .ref a_buf, .int z_by, .int z_mo, .ref a_st, .ref a_bl, .ref a_fi, .ref a_ob, .ref a_si, .ref a_po, .ref a_pr, .ref a_an, .int z_bk, .ref a_bo, .long hv]))] → va_S A s.heap H9 L9 → W p l e ({ frames := 1, cells := 0, slots := 0, locals := 14 } : Room) s m args below meth c H9 L9 0 0 (xw_Z G below A (some (.long r0)) [(y_, .inr (4, [.int z_th, .long z_n, .long z_m, .long z_d, .long z_a, .long z_b, .long z_v, .int z_ep, .int z_su, .ref a_buf, .int z_by, .int z_mo, .ref a_st, .ref a_bl, .ref a_fi, .ref a_ob, .ref a_si, .ref a_po, .ref a_pr, .ref a_an, .int z_bk, .ref a_bo, .long r1])), (a_buf, .inl (G.2.2.1, 24, .inl z_buf))] args s 0 0) (F0 m 6 ls []) := by
  have hx := S.1
  have hb := S.2.1
  intro n
  induction n with
  | zero =>
    intro i hv r0 r1 ls H9 L9 hr0 hr1 hmu
    omega
  | succ n ih =>
    intro i hv r0 r1 ls H9 L9 hr0 hr1 hmu hl hP hD hS
    rw [lf_MD_blockOf_6_0] at hr0
    rw [lf_MD_blockOf_6_1] at hr1
    refine lv_iload_n hx hb d_MD_blockOf_6 rfl (lv_at hl 0 rfl) ?_
    refine lv_aload_n hx hb d_MD_blockOf_7 rfl (lv_at hl 1 rfl) ?_
    refine gf_MD_42 hg hw S hP 1 rfl rfl d_MD_blockOf_8 ?_
    refine lv_icmp_ge hx hb d_MD_blockOf_11 (tgt := 31) (by decide) (fun h11 => ?_) (fun h11 => ?_)
    · rw [if_pos h11] at hr0
      rw [if_pos h11] at hr1
      refine lv_aload_n hx hb d_MD_blockOf_31 rfl (lv_at hl 1 rfl) ?_
      refine lv_aload_n hx hb d_MD_blockOf_32 rfl (lv_at hl 1 rfl) ?_
      refine gf_MD_42 hg hw S hP 1 rfl rfl d_MD_blockOf_33 ?_
      refine lv_i2l hx hb d_MD_blockOf_36 rfl ?_
      refine xw_use (wc := [(y_, .inr (4, [.int z_th, .long z_n, .long z_m, .long z_d, .long z_a, .long z_b, .long z_v, .int z_ep, .int z_su, .ref a_buf, .int z_by, .int z_mo, .ref a_st, .ref a_bl, .ref a_fi, .ref a_ob, .ref a_si, .ref a_po, .ref a_pr, .ref a_an, .int z_bk, .ref a_bo, .long hv]))]) (wr := [(a_buf, .inl (G.2.2.1, 24, .inl z_buf))]) (xg_runV (rest := []) (kw := 0) si_MD_103 hg hw S (va_recv (xg_k hg hw) hP (ci := 4) rfl (q0 := 1) rfl) (ct_MD_mix l hg H9 y_ z_by.toInt64 z_th z_n z_m z_d z_a z_b z_v z_ep z_su a_buf z_by z_mo a_st a_bl a_fi a_ob a_si a_po a_pr a_an z_bk a_bo hv (hP.sub [1] rfl) ((hD.sub [1] (by decide) rfl).weaken (fun _ _ _ _ => trivial)) ) ⟨by decide, by decide, by decide, by decide⟩ rfl hl.1 rfl (Nat.le_of_ble_eq_true rfl) d_MD_blockOf_37) hP hD hS hA [1] [0] rfl rfl (by decide) (by decide) (fun H2 L2 hP hD hS => ?_)
      have hP : va_P G.2.1 cl_all [(a_buf, .inl (G.2.2.1, 24, .inl z_buf)), (y_, .inr (4, [.int z_th, .long z_n, .long z_m, .long z_d, .long z_a, .long z_b, .long z_v, .int z_ep, .int z_su, .ref a_buf, .int z_by, .int z_mo, .ref a_st, .ref a_bl, .ref a_fi, .ref a_ob, .ref a_si, .ref a_po, .ref a_pr, .ref a_an, .int z_bk, .ref a_bo, .long (f_MD_mix_h z_by.toInt64 hv)]))] H2 := hP
      have hD : va_D A [(a_buf, .inl (G.2.2.1, 24, .inl z_buf)), (y_, .inr (4, [.int z_th, .long z_n, .long z_m, .long z_d, .long z_a, .long z_b, .long z_v, .int z_ep, .int z_su, .ref a_buf, .int z_by, .int z_mo, .ref a_st, .ref a_bl, .ref a_fi, .ref a_ob, .ref a_si, .ref a_po, .ref a_pr, .ref a_an, .int z_bk, .ref a_bo, .long (f_MD_mix_h z_by.toInt64 hv)]))] := hD
      refine kc_MD_107 hg hw S d_MD_blockOf_40 ?_
      refine lv_aload_n hx hb d_MD_blockOf_43 rfl (lv_at hl 1 rfl) ?_
      refine xg_read (xg_runV (rest := [.long (2 : Int64)]) (kw := 2) si_MD_109 hg hw S (va_recv (xg_k hg hw) hP (ci := 4) rfl (q0 := 1) rfl) (ct_MD_mixed l hg H2 y_ z_th z_n z_m z_d z_a z_b z_v z_ep z_su a_buf z_by z_mo a_st a_bl a_fi a_ob a_si a_po a_pr a_an z_bk a_bo (f_MD_mix_h z_by.toInt64 hv) (hP.sub [1] rfl) ) ⟨by decide, by decide, by decide, by decide⟩ rfl hl.1 rfl (Nat.le_of_ble_eq_true rfl) d_MD_blockOf_44) ?_
      refine lv_aload_n hx hb d_MD_blockOf_47 rfl (lv_at hl 1 rfl) ?_
      refine gf_MD_13 hg hw S hP 1 rfl rfl d_MD_blockOf_48 ?_
      refine kc_MD_113 hg hw S d_MD_blockOf_51 ?_
      refine lv_lsub hx hb d_MD_blockOf_54 ?_
      refine lv_lrem hx hb d_MD_blockOf_55 h0 ?_
      refine lv_ladd hx hb d_MD_blockOf_56 ?_
      subst hr0
      subst hr1
      have hP := hP.sub (ws' := [(y_, .inr (4, [.int z_th, .long z_n, .long z_m, .long z_d, .long z_a, .long z_b, .long z_v, .int z_ep, .int z_su, .ref a_buf, .int z_by, .int z_mo, .ref a_st, .ref a_bl, .ref a_fi, .ref a_ob, .ref a_si, .ref a_po, .ref a_pr, .ref a_an, .int z_bk, .ref a_bo, .long (f_MD_mix_h z_by.toInt64 hv)])), (a_buf, .inl (G.2.2.1, 24, .inl z_buf))]) [1, 0] rfl
      have hD := hD.sub (ws' := [(y_, .inr (4, [.int z_th, .long z_n, .long z_m, .long z_d, .long z_a, .long z_b, .long z_v, .int z_ep, .int z_su, .ref a_buf, .int z_by, .int z_mo, .ref a_st, .ref a_bl, .ref a_fi, .ref a_ob, .ref a_si, .ref a_po, .ref a_pr, .ref a_an, .int z_bk, .ref a_bo, .long (f_MD_mix_h z_by.toInt64 hv)])), (a_buf, .inl (G.2.2.1, 24, .inl z_buf))]) [1, 0] (by decide) rfl
      exact xw_lret hx hb ht hl0 hP hD hS d_MD_blockOf_57
    · rw [if_neg h11] at hr0
      rw [if_neg h11] at hr1
      refine lv_aload_n hx hb d_MD_blockOf_14 rfl (lv_at hl 1 rfl) ?_
      refine lv_aload_n hx hb d_MD_blockOf_15 rfl (lv_at hl 1 rfl) ?_
      refine gf_MD_38 hg hw S hP 1 rfl rfl d_MD_blockOf_16 ?_
      refine lv_iload_n hx hb d_MD_blockOf_19 rfl (lv_at hl 0 rfl) ?_
      refine va_iald hx hb (xg_k hg hw) hP 0 0 rfl rfl (xi_in h11 hmu.1 hZ) d_MD_blockOf_20 ?_
      refine lv_i2l hx hb d_MD_blockOf_21 rfl ?_
      refine xw_use (wc := [(y_, .inr (4, [.int z_th, .long z_n, .long z_m, .long z_d, .long z_a, .long z_b, .long z_v, .int z_ep, .int z_su, .ref a_buf, .int z_by, .int z_mo, .ref a_st, .ref a_bl, .ref a_fi, .ref a_ob, .ref a_si, .ref a_po, .ref a_pr, .ref a_an, .int z_bk, .ref a_bo, .long hv]))]) (wr := [(a_buf, .inl (G.2.2.1, 24, .inl z_buf))]) (xg_runV (rest := []) (kw := 0) si_MD_103 hg hw S (va_recv (xg_k hg hw) hP (ci := 4) rfl (q0 := 1) rfl) (ct_MD_mix l hg H9 y_ ((z_buf i.toNatClampNeg).toInt64) z_th z_n z_m z_d z_a z_b z_v z_ep z_su a_buf z_by z_mo a_st a_bl a_fi a_ob a_si a_po a_pr a_an z_bk a_bo hv (hP.sub [1] rfl) ((hD.sub [1] (by decide) rfl).weaken (fun _ _ _ _ => trivial)) ) ⟨by decide, by decide, by decide, by decide⟩ rfl hl.1 rfl (Nat.le_of_ble_eq_true rfl) d_MD_blockOf_22) hP hD hS hA [1] [0] rfl rfl (by decide) (by decide) (fun H3 L3 hP hD hS => ?_)
      have hP : va_P G.2.1 cl_all [(a_buf, .inl (G.2.2.1, 24, .inl z_buf)), (y_, .inr (4, [.int z_th, .long z_n, .long z_m, .long z_d, .long z_a, .long z_b, .long z_v, .int z_ep, .int z_su, .ref a_buf, .int z_by, .int z_mo, .ref a_st, .ref a_bl, .ref a_fi, .ref a_ob, .ref a_si, .ref a_po, .ref a_pr, .ref a_an, .int z_bk, .ref a_bo, .long (f_MD_mix_h ((z_buf i.toNatClampNeg).toInt64) hv)]))] H3 := hP
      have hD : va_D A [(a_buf, .inl (G.2.2.1, 24, .inl z_buf)), (y_, .inr (4, [.int z_th, .long z_n, .long z_m, .long z_d, .long z_a, .long z_b, .long z_v, .int z_ep, .int z_su, .ref a_buf, .int z_by, .int z_mo, .ref a_st, .ref a_bl, .ref a_fi, .ref a_ob, .ref a_si, .ref a_po, .ref a_pr, .ref a_an, .int z_bk, .ref a_bo, .long (f_MD_mix_h ((z_buf i.toNatClampNeg).toInt64) hv)]))] := hD
      refine lv_iinc (v := i + (1 : Int32)) hx hb d_MD_blockOf_25 hl (k := 0) rfl rfl (by decide) rfl (fun ls hl => ?_)
      have hl : lv_has ls 2 [(1, .int (i + (1 : Int32))), (0, .ref y_)] := hl
      refine lv_goto hx hb d_MD_blockOf_28 (tgt := 6) (by decide) ?_
      exact ih (i + (1 : Int32)) (f_MD_mix_h ((z_buf i.toNatClampNeg).toInt64) hv) r0 r1 ls H3 L3 hr0 hr1 (xi_up0 h11 hmu) (lv_sub hl [0, 1] rfl) hP hD hS
set_option maxHeartbeats 4000000 in
set_option maxRecDepth 100000 in
theorem ct_MD_blockOf (l : Launch) {G : xg_G} (hg : xg_F G) (H : Heap) (y_ : Nat) (z_th : Int32) (z_n : Int64) (z_m : Int64) (z_d : Int64) (z_a : Int64) (z_b : Int64) (z_v : Int64) (z_ep : Int32) (z_su : Int32) (a_buf : Nat) (z_by : Int32) (z_mo : Int32) (a_st : Nat) (a_bl : Nat) (a_fi : Nat) (a_ob : Nat) (a_si : Nat) (a_po : Nat) (a_pr : Nat) (a_an : Nat) (z_bk : Int32) (a_bo : Nat) (z_h : Int64) (z_buf : Nat → Int32) (hP : va_P G.2.1 cl_all [(y_, .inr (4, [.int z_th, .long z_n, .long z_m, .long z_d, .long z_a, .long z_b, .long z_v, .int z_ep, .int z_su, .ref a_buf, .int z_by, .int z_mo, .ref a_st, .ref a_bl, .ref a_fi, .ref a_ob, .ref a_si, .ref a_po, .ref a_pr, .ref a_an, .int z_bk, .ref a_bo, .long z_h])), (a_buf, .inl (G.2.2.1, 24, .inl z_buf))] H) (hD0 : va_D (fun _ => True) [(y_, .inr (4, [.int z_th, .long z_n, .long z_m, .long z_d, .long z_a, .long z_b, .long z_v, .int z_ep, .int z_su, .ref a_buf, .int z_by, .int z_mo, .ref a_st, .ref a_bl, .ref a_fi, .ref a_ob, .ref a_si, .ref a_po, .ref a_pr, .ref a_an, .int z_bk, .ref a_bo, .long z_h])), (a_buf, .inl (G.2.2.1, 24, .inl z_buf))]) (h0 : ¬ z_n - (3 : Int64) = 0) (hZ : z_by.toInt ≤ 24) : xc_Met l y_MD_blockOf (.code y_MD_blockOf b_MD_blockOf 2 (some .long)) ({ frames := 1, cells := 0, slots := 0, locals := 14 } : Room) (xg_Pc G [.ref y_] H) (xw_post G (va_A [(y_, .inr (4, [.int z_th, .long z_n, .long z_m, .long z_d, .long z_a, .long z_b, .long z_v, .int z_ep, .int z_su, .ref a_buf, .int z_by, .int z_mo, .ref a_st, .ref a_bl, .ref a_fi, .ref a_ob, .ref a_si, .ref a_po, .ref a_pr, .ref a_an, .int z_bk, .ref a_bo, .long z_h])), (a_buf, .inl (G.2.2.1, 24, .inl z_buf))] H.size) (some (.long (f_MD_blockOf z_n z_by z_buf))) [(y_, .inr (4, [.int z_th, .long z_n, .long z_m, .long z_d, .long z_a, .long z_b, .long z_v, .int z_ep, .int z_su, .ref a_buf, .int z_by, .int z_mo, .ref a_st, .ref a_bl, .ref a_fi, .ref a_ob, .ref a_si, .ref a_po, .ref a_pr, .ref a_an, .int z_bk, .ref a_bo, .long (f_MD_blockOf_h z_n z_by z_buf)])), (a_buf, .inl (G.2.2.1, 24, .inl z_buf))]) (va_A [(y_, .inr (4, [.int z_th, .long z_n, .long z_m, .long z_d, .long z_a, .long z_b, .long z_v, .int z_ep, .int z_su, .ref a_buf, .int z_by, .int z_mo, .ref a_st, .ref a_bl, .ref a_fi, .ref a_ob, .ref a_si, .ref a_po, .ref a_pr, .ref a_an, .int z_bk, .ref a_bo, .long z_h])), (a_buf, .inl (G.2.2.1, 24, .inl z_buf))] H.size) := by
  refine xc_ofW (by decide) ?_
  intro p e s m args below meth c s₁ B hml hE hv
  obtain ⟨rfl, rfl, hw⟩ := hv
  have hx := B.exec
  have hb := B.bytes
  have ht := B.returns
  have hl0 := B.notSynchronized
  have S : xc_Fix p m c b_MD_blockOf 2 s "SealTrustModel" := ⟨hx, hb, hml, findClass_of_methodNamed B.named⟩
  have hD := hD0.self (sz := s.heap.size)
  generalize hAe : va_A [(y_, .inr (4, [.int z_th, .long z_n, .long z_m, .long z_d, .long z_a, .long z_b, .long z_v, .int z_ep, .int z_su, .ref a_buf, .int z_by, .int z_mo, .ref a_st, .ref a_bl, .ref a_fi, .ref a_ob, .ref a_si, .ref a_po, .ref a_pr, .ref a_an, .int z_bk, .ref a_bo, .long z_h])), (a_buf, .inl (G.2.2.1, 24, .inl z_buf))] s.heap.size = A at hD ⊢
  have hA : ∀ q : Nat, s.heap.size ≤ q → A q := fun q h => by rw [← hAe]; exact Or.inr h
  have hS : va_S A s.heap s.heap [] := va_S.rf
  have hl := lv_entry ([.ref y_]) (n := 2) (Nat.le_of_ble_eq_true rfl)
  rw [lg_entry_eq]
  generalize (lg_sl ([.ref y_]) ++ List.replicate (2 - (lg_sl ([.ref y_])).length) Slot.unset).toArray = ls at hl ⊢
  have hl : lv_has ls 2 [(0, .ref y_)] := hl
  obtain ⟨r0, hr0⟩ : ∃ r, f_MD_blockOf z_n z_by z_buf = r := ⟨_, rfl⟩
  rw [hr0]
  unfold f_MD_blockOf at hr0
  obtain ⟨r1, hr1⟩ : ∃ r, f_MD_blockOf_h z_n z_by z_buf = r := ⟨_, rfl⟩
  rw [hr1]
  unfold f_MD_blockOf_h at hr1
  refine lv_aload_n hx hb d_MD_blockOf_0 rfl (lv_at hl 0 rfl) ?_
  refine xw_use (wc := [(y_, .inr (4, [.int z_th, .long z_n, .long z_m, .long z_d, .long z_a, .long z_b, .long z_v, .int z_ep, .int z_su, .ref a_buf, .int z_by, .int z_mo, .ref a_st, .ref a_bl, .ref a_fi, .ref a_ob, .ref a_si, .ref a_po, .ref a_pr, .ref a_an, .int z_bk, .ref a_bo, .long z_h]))]) (wr := [(a_buf, .inl (G.2.2.1, 24, .inl z_buf))]) (xg_runV (rest := []) (kw := 0) si_MD_100 hg hw S (va_recv (xg_k hg hw) hP (ci := 4) rfl (q0 := 0) rfl) (ct_MD_begin l hg s.heap y_ z_th z_n z_m z_d z_a z_b z_v z_ep z_su a_buf z_by z_mo a_st a_bl a_fi a_ob a_si a_po a_pr a_an z_bk a_bo z_h (hP.sub [0] rfl) ((hD.sub [0] (by decide) rfl).weaken (fun _ _ _ _ => trivial)) ) ⟨by decide, by decide, by decide, by decide⟩ rfl hl.1 rfl (Nat.le_of_ble_eq_true rfl) d_MD_blockOf_1) hP hD hS hA [0] [1] rfl rfl (by decide) (by decide) (fun H1 L1 hP hD hS => ?_)
  have hP : va_P G.2.1 cl_all [(a_buf, .inl (G.2.2.1, 24, .inl z_buf)), (y_, .inr (4, [.int z_th, .long z_n, .long z_m, .long z_d, .long z_a, .long z_b, .long z_v, .int z_ep, .int z_su, .ref a_buf, .int z_by, .int z_mo, .ref a_st, .ref a_bl, .ref a_fi, .ref a_ob, .ref a_si, .ref a_po, .ref a_pr, .ref a_an, .int z_bk, .ref a_bo, .long f_MD_begin_h]))] H1 := hP
  have hD : va_D A [(a_buf, .inl (G.2.2.1, 24, .inl z_buf)), (y_, .inr (4, [.int z_th, .long z_n, .long z_m, .long z_d, .long z_a, .long z_b, .long z_v, .int z_ep, .int z_su, .ref a_buf, .int z_by, .int z_mo, .ref a_st, .ref a_bl, .ref a_fi, .ref a_ob, .ref a_si, .ref a_po, .ref a_pr, .ref a_an, .int z_bk, .ref a_bo, .long f_MD_begin_h]))] := hD
  refine lv_iconst (v := (0 : Int32)) hx hb d_MD_blockOf_4 (by decide) ?_
  refine lv_istore_n hx hb d_MD_blockOf_5 rfl hl (by decide) rfl (fun ls hl => ?_)
  have hl : lv_has ls 2 [(1, .int (0 : Int32)), (0, .ref y_)] := hl
  exact wl_MD_blockOf_6 (y_ := y_) (z_th := z_th) (z_n := z_n) (z_m := z_m) (z_d := z_d) (z_a := z_a) (z_b := z_b) (z_v := z_v) (z_ep := z_ep) (z_su := z_su) (a_buf := a_buf) (z_by := z_by) (z_mo := z_mo) (a_st := a_st) (a_bl := a_bl) (a_fi := a_fi) (a_ob := a_ob) (a_si := a_si) (a_po := a_po) (a_pr := a_pr) (a_an := a_an) (z_bk := z_bk) (a_bo := a_bo) (z_h := z_h) (z_buf := z_buf) hg hw S hl0 ht hA h0 hZ 25 (0 : Int32) f_MD_begin_h r0 r1 ls H1 L1 hr0 hr1 ⟨by decide, by rw [show (0 : Int32).toInt = 0 from rfl]; omega⟩ (lv_sub hl [0, 1] rfl) hP hD hS
def f_MD_challenge (ua : Int64) (ck : Int64) (wa : Int64) (o1 : Int64) (o2 : Int64) (z_v : Int64) : Int32 := (((f_MD_mixed (f_MD_mix_h o2 (f_MD_mix_h o1 (f_MD_mix_h wa (f_MD_mix_h ck (f_MD_mix_h ua (f_MD_mix_h z_v f_MD_begin_h))))))).toUInt64 >>> ((15 : Int32).toInt64.toUInt64 &&& Int64.toUInt64 63)).toInt64).toInt32
def f_MD_challenge_h (ua : Int64) (ck : Int64) (wa : Int64) (o1 : Int64) (o2 : Int64) (z_v : Int64) : Int64 := f_MD_mix_h o2 (f_MD_mix_h o1 (f_MD_mix_h wa (f_MD_mix_h ck (f_MD_mix_h ua (f_MD_mix_h z_v f_MD_begin_h)))))
set_option maxHeartbeats 4000000 in
set_option maxRecDepth 100000 in
theorem ct_MD_challenge (l : Launch) {G : xg_G} (hg : xg_F G) (H : Heap) (y_ : Nat) (ua : Int64) (ck : Int64) (wa : Int64) (o1 : Int64) (o2 : Int64) (z_th : Int32) (z_n : Int64) (z_m : Int64) (z_d : Int64) (z_a : Int64) (z_b : Int64) (z_v : Int64) (z_ep : Int32) (z_su : Int32) (a_buf : Nat) (z_by : Int32) (z_mo : Int32) (a_st : Nat) (a_bl : Nat) (a_fi : Nat) (a_ob : Nat) (a_si : Nat) (a_po : Nat) (a_pr : Nat) (a_an : Nat) (z_bk : Int32) (a_bo : Nat) (z_h : Int64) (hP : va_P G.2.1 cl_all [(y_, .inr (4, [.int z_th, .long z_n, .long z_m, .long z_d, .long z_a, .long z_b, .long z_v, .int z_ep, .int z_su, .ref a_buf, .int z_by, .int z_mo, .ref a_st, .ref a_bl, .ref a_fi, .ref a_ob, .ref a_si, .ref a_po, .ref a_pr, .ref a_an, .int z_bk, .ref a_bo, .long z_h]))] H) (hD0 : va_D (fun _ => True) [(y_, .inr (4, [.int z_th, .long z_n, .long z_m, .long z_d, .long z_a, .long z_b, .long z_v, .int z_ep, .int z_su, .ref a_buf, .int z_by, .int z_mo, .ref a_st, .ref a_bl, .ref a_fi, .ref a_ob, .ref a_si, .ref a_po, .ref a_pr, .ref a_an, .int z_bk, .ref a_bo, .long z_h]))])  : xc_Met l y_MD_challenge (.code y_MD_challenge b_MD_challenge 11 (some .int)) ({ frames := 1, cells := 0, slots := 0, locals := 14 } : Room) (xg_Pc G [.ref y_, .long ua, .long ck, .long wa, .long o1, .long o2] H) (xw_post G (va_A [(y_, .inr (4, [.int z_th, .long z_n, .long z_m, .long z_d, .long z_a, .long z_b, .long z_v, .int z_ep, .int z_su, .ref a_buf, .int z_by, .int z_mo, .ref a_st, .ref a_bl, .ref a_fi, .ref a_ob, .ref a_si, .ref a_po, .ref a_pr, .ref a_an, .int z_bk, .ref a_bo, .long z_h]))] H.size) (some (.int (f_MD_challenge ua ck wa o1 o2 z_v))) [(y_, .inr (4, [.int z_th, .long z_n, .long z_m, .long z_d, .long z_a, .long z_b, .long z_v, .int z_ep, .int z_su, .ref a_buf, .int z_by, .int z_mo, .ref a_st, .ref a_bl, .ref a_fi, .ref a_ob, .ref a_si, .ref a_po, .ref a_pr, .ref a_an, .int z_bk, .ref a_bo, .long (f_MD_challenge_h ua ck wa o1 o2 z_v)]))]) (va_A [(y_, .inr (4, [.int z_th, .long z_n, .long z_m, .long z_d, .long z_a, .long z_b, .long z_v, .int z_ep, .int z_su, .ref a_buf, .int z_by, .int z_mo, .ref a_st, .ref a_bl, .ref a_fi, .ref a_ob, .ref a_si, .ref a_po, .ref a_pr, .ref a_an, .int z_bk, .ref a_bo, .long z_h]))] H.size) := by
  refine xc_ofW (by decide) ?_
  intro p e s m args below meth c s₁ B hml hE hv
  obtain ⟨rfl, rfl, hw⟩ := hv
  have hx := B.exec
  have hb := B.bytes
  have ht := B.returns
  have hl0 := B.notSynchronized
  have S : xc_Fix p m c b_MD_challenge 11 s "SealTrustModel" := ⟨hx, hb, hml, findClass_of_methodNamed B.named⟩
  have hD := hD0.self (sz := s.heap.size)
  generalize hAe : va_A [(y_, .inr (4, [.int z_th, .long z_n, .long z_m, .long z_d, .long z_a, .long z_b, .long z_v, .int z_ep, .int z_su, .ref a_buf, .int z_by, .int z_mo, .ref a_st, .ref a_bl, .ref a_fi, .ref a_ob, .ref a_si, .ref a_po, .ref a_pr, .ref a_an, .int z_bk, .ref a_bo, .long z_h]))] s.heap.size = A at hD ⊢
  have hA : ∀ q : Nat, s.heap.size ≤ q → A q := fun q h => by rw [← hAe]; exact Or.inr h
  have hS : va_S A s.heap s.heap [] := va_S.rf
  have hl := lv_entry ([.ref y_, .long ua, .long ck, .long wa, .long o1, .long o2]) (n := 11) (Nat.le_of_ble_eq_true rfl)
  rw [lg_entry_eq]
  generalize (lg_sl ([.ref y_, .long ua, .long ck, .long wa, .long o1, .long o2]) ++ List.replicate (11 - (lg_sl ([.ref y_, .long ua, .long ck, .long wa, .long o1, .long o2])).length) Slot.unset).toArray = ls at hl ⊢
  have hl : lv_has ls 11 [(0, .ref y_), (1, .long ua), (3, .long ck), (5, .long wa), (7, .long o1), (9, .long o2)] := hl
  obtain ⟨r0, hr0⟩ : ∃ r, f_MD_challenge ua ck wa o1 o2 z_v = r := ⟨_, rfl⟩
  rw [hr0]
  unfold f_MD_challenge at hr0
  obtain ⟨r1, hr1⟩ : ∃ r, f_MD_challenge_h ua ck wa o1 o2 z_v = r := ⟨_, rfl⟩
  rw [hr1]
  unfold f_MD_challenge_h at hr1
  refine lv_aload_n hx hb d_MD_challenge_0 rfl (lv_at hl 0 rfl) ?_
  refine xw_use (wc := [(y_, .inr (4, [.int z_th, .long z_n, .long z_m, .long z_d, .long z_a, .long z_b, .long z_v, .int z_ep, .int z_su, .ref a_buf, .int z_by, .int z_mo, .ref a_st, .ref a_bl, .ref a_fi, .ref a_ob, .ref a_si, .ref a_po, .ref a_pr, .ref a_an, .int z_bk, .ref a_bo, .long z_h]))]) (wr := []) (xg_runV (rest := []) (kw := 0) si_MD_100 hg hw S (va_recv (xg_k hg hw) hP (ci := 4) rfl (q0 := 0) rfl) (ct_MD_begin l hg s.heap y_ z_th z_n z_m z_d z_a z_b z_v z_ep z_su a_buf z_by z_mo a_st a_bl a_fi a_ob a_si a_po a_pr a_an z_bk a_bo z_h (hP.sub [0] rfl) ((hD.sub [0] (by decide) rfl).weaken (fun _ _ _ _ => trivial)) ) ⟨by decide, by decide, by decide, by decide⟩ rfl hl.1 rfl (Nat.le_of_ble_eq_true rfl) d_MD_challenge_1) hP hD hS hA [0] [] rfl rfl (by decide) (by decide) (fun H1 L1 hP hD hS => ?_)
  have hP : va_P G.2.1 cl_all [(y_, .inr (4, [.int z_th, .long z_n, .long z_m, .long z_d, .long z_a, .long z_b, .long z_v, .int z_ep, .int z_su, .ref a_buf, .int z_by, .int z_mo, .ref a_st, .ref a_bl, .ref a_fi, .ref a_ob, .ref a_si, .ref a_po, .ref a_pr, .ref a_an, .int z_bk, .ref a_bo, .long f_MD_begin_h]))] H1 := hP
  have hD : va_D A [(y_, .inr (4, [.int z_th, .long z_n, .long z_m, .long z_d, .long z_a, .long z_b, .long z_v, .int z_ep, .int z_su, .ref a_buf, .int z_by, .int z_mo, .ref a_st, .ref a_bl, .ref a_fi, .ref a_ob, .ref a_si, .ref a_po, .ref a_pr, .ref a_an, .int z_bk, .ref a_bo, .long f_MD_begin_h]))] := hD
  refine lv_aload_n hx hb d_MD_challenge_4 rfl (lv_at hl 0 rfl) ?_
  refine lv_aload_n hx hb d_MD_challenge_5 rfl (lv_at hl 0 rfl) ?_
  refine gf_MD_29 hg hw S hP 0 rfl rfl d_MD_challenge_6 ?_
  refine xw_use (wc := [(y_, .inr (4, [.int z_th, .long z_n, .long z_m, .long z_d, .long z_a, .long z_b, .long z_v, .int z_ep, .int z_su, .ref a_buf, .int z_by, .int z_mo, .ref a_st, .ref a_bl, .ref a_fi, .ref a_ob, .ref a_si, .ref a_po, .ref a_pr, .ref a_an, .int z_bk, .ref a_bo, .long f_MD_begin_h]))]) (wr := []) (xg_runV (rest := []) (kw := 0) si_MD_103 hg hw S (va_recv (xg_k hg hw) hP (ci := 4) rfl (q0 := 0) rfl) (ct_MD_mix l hg H1 y_ z_v z_th z_n z_m z_d z_a z_b z_v z_ep z_su a_buf z_by z_mo a_st a_bl a_fi a_ob a_si a_po a_pr a_an z_bk a_bo f_MD_begin_h (hP.sub [0] rfl) ((hD.sub [0] (by decide) rfl).weaken (fun _ _ _ _ => trivial)) ) ⟨by decide, by decide, by decide, by decide⟩ rfl hl.1 rfl (Nat.le_of_ble_eq_true rfl) d_MD_challenge_9) hP hD hS hA [0] [] rfl rfl (by decide) (by decide) (fun H2 L2 hP hD hS => ?_)
  have hP : va_P G.2.1 cl_all [(y_, .inr (4, [.int z_th, .long z_n, .long z_m, .long z_d, .long z_a, .long z_b, .long z_v, .int z_ep, .int z_su, .ref a_buf, .int z_by, .int z_mo, .ref a_st, .ref a_bl, .ref a_fi, .ref a_ob, .ref a_si, .ref a_po, .ref a_pr, .ref a_an, .int z_bk, .ref a_bo, .long (f_MD_mix_h z_v f_MD_begin_h)]))] H2 := hP
  have hD : va_D A [(y_, .inr (4, [.int z_th, .long z_n, .long z_m, .long z_d, .long z_a, .long z_b, .long z_v, .int z_ep, .int z_su, .ref a_buf, .int z_by, .int z_mo, .ref a_st, .ref a_bl, .ref a_fi, .ref a_ob, .ref a_si, .ref a_po, .ref a_pr, .ref a_an, .int z_bk, .ref a_bo, .long (f_MD_mix_h z_v f_MD_begin_h)]))] := hD
  refine lv_aload_n hx hb d_MD_challenge_12 rfl (lv_at hl 0 rfl) ?_
  refine lv_lload_n hx hb d_MD_challenge_13 rfl (lv_at hl 1 rfl) ?_
  refine xw_use (wc := [(y_, .inr (4, [.int z_th, .long z_n, .long z_m, .long z_d, .long z_a, .long z_b, .long z_v, .int z_ep, .int z_su, .ref a_buf, .int z_by, .int z_mo, .ref a_st, .ref a_bl, .ref a_fi, .ref a_ob, .ref a_si, .ref a_po, .ref a_pr, .ref a_an, .int z_bk, .ref a_bo, .long (f_MD_mix_h z_v f_MD_begin_h)]))]) (wr := []) (xg_runV (rest := []) (kw := 0) si_MD_103 hg hw S (va_recv (xg_k hg hw) hP (ci := 4) rfl (q0 := 0) rfl) (ct_MD_mix l hg H2 y_ ua z_th z_n z_m z_d z_a z_b z_v z_ep z_su a_buf z_by z_mo a_st a_bl a_fi a_ob a_si a_po a_pr a_an z_bk a_bo (f_MD_mix_h z_v f_MD_begin_h) (hP.sub [0] rfl) ((hD.sub [0] (by decide) rfl).weaken (fun _ _ _ _ => trivial)) ) ⟨by decide, by decide, by decide, by decide⟩ rfl hl.1 rfl (Nat.le_of_ble_eq_true rfl) d_MD_challenge_14) hP hD hS hA [0] [] rfl rfl (by decide) (by decide) (fun H3 L3 hP hD hS => ?_)
  have hP : va_P G.2.1 cl_all [(y_, .inr (4, [.int z_th, .long z_n, .long z_m, .long z_d, .long z_a, .long z_b, .long z_v, .int z_ep, .int z_su, .ref a_buf, .int z_by, .int z_mo, .ref a_st, .ref a_bl, .ref a_fi, .ref a_ob, .ref a_si, .ref a_po, .ref a_pr, .ref a_an, .int z_bk, .ref a_bo, .long (f_MD_mix_h ua (f_MD_mix_h z_v f_MD_begin_h))]))] H3 := hP
  have hD : va_D A [(y_, .inr (4, [.int z_th, .long z_n, .long z_m, .long z_d, .long z_a, .long z_b, .long z_v, .int z_ep, .int z_su, .ref a_buf, .int z_by, .int z_mo, .ref a_st, .ref a_bl, .ref a_fi, .ref a_ob, .ref a_si, .ref a_po, .ref a_pr, .ref a_an, .int z_bk, .ref a_bo, .long (f_MD_mix_h ua (f_MD_mix_h z_v f_MD_begin_h))]))] := hD
  refine lv_aload_n hx hb d_MD_challenge_17 rfl (lv_at hl 0 rfl) ?_
  refine lv_lload_n hx hb d_MD_challenge_18 rfl (lv_at hl 2 rfl) ?_
  refine xw_use (wc := [(y_, .inr (4, [.int z_th, .long z_n, .long z_m, .long z_d, .long z_a, .long z_b, .long z_v, .int z_ep, .int z_su, .ref a_buf, .int z_by, .int z_mo, .ref a_st, .ref a_bl, .ref a_fi, .ref a_ob, .ref a_si, .ref a_po, .ref a_pr, .ref a_an, .int z_bk, .ref a_bo, .long (f_MD_mix_h ua (f_MD_mix_h z_v f_MD_begin_h))]))]) (wr := []) (xg_runV (rest := []) (kw := 0) si_MD_103 hg hw S (va_recv (xg_k hg hw) hP (ci := 4) rfl (q0 := 0) rfl) (ct_MD_mix l hg H3 y_ ck z_th z_n z_m z_d z_a z_b z_v z_ep z_su a_buf z_by z_mo a_st a_bl a_fi a_ob a_si a_po a_pr a_an z_bk a_bo (f_MD_mix_h ua (f_MD_mix_h z_v f_MD_begin_h)) (hP.sub [0] rfl) ((hD.sub [0] (by decide) rfl).weaken (fun _ _ _ _ => trivial)) ) ⟨by decide, by decide, by decide, by decide⟩ rfl hl.1 rfl (Nat.le_of_ble_eq_true rfl) d_MD_challenge_19) hP hD hS hA [0] [] rfl rfl (by decide) (by decide) (fun H4 L4 hP hD hS => ?_)
  have hP : va_P G.2.1 cl_all [(y_, .inr (4, [.int z_th, .long z_n, .long z_m, .long z_d, .long z_a, .long z_b, .long z_v, .int z_ep, .int z_su, .ref a_buf, .int z_by, .int z_mo, .ref a_st, .ref a_bl, .ref a_fi, .ref a_ob, .ref a_si, .ref a_po, .ref a_pr, .ref a_an, .int z_bk, .ref a_bo, .long (f_MD_mix_h ck (f_MD_mix_h ua (f_MD_mix_h z_v f_MD_begin_h)))]))] H4 := hP
  have hD : va_D A [(y_, .inr (4, [.int z_th, .long z_n, .long z_m, .long z_d, .long z_a, .long z_b, .long z_v, .int z_ep, .int z_su, .ref a_buf, .int z_by, .int z_mo, .ref a_st, .ref a_bl, .ref a_fi, .ref a_ob, .ref a_si, .ref a_po, .ref a_pr, .ref a_an, .int z_bk, .ref a_bo, .long (f_MD_mix_h ck (f_MD_mix_h ua (f_MD_mix_h z_v f_MD_begin_h)))]))] := hD
  refine lv_aload_n hx hb d_MD_challenge_22 rfl (lv_at hl 0 rfl) ?_
  refine lv_lload hx hb d_MD_challenge_23 (lv_at hl 3 rfl) ?_
  refine xw_use (wc := [(y_, .inr (4, [.int z_th, .long z_n, .long z_m, .long z_d, .long z_a, .long z_b, .long z_v, .int z_ep, .int z_su, .ref a_buf, .int z_by, .int z_mo, .ref a_st, .ref a_bl, .ref a_fi, .ref a_ob, .ref a_si, .ref a_po, .ref a_pr, .ref a_an, .int z_bk, .ref a_bo, .long (f_MD_mix_h ck (f_MD_mix_h ua (f_MD_mix_h z_v f_MD_begin_h)))]))]) (wr := []) (xg_runV (rest := []) (kw := 0) si_MD_103 hg hw S (va_recv (xg_k hg hw) hP (ci := 4) rfl (q0 := 0) rfl) (ct_MD_mix l hg H4 y_ wa z_th z_n z_m z_d z_a z_b z_v z_ep z_su a_buf z_by z_mo a_st a_bl a_fi a_ob a_si a_po a_pr a_an z_bk a_bo (f_MD_mix_h ck (f_MD_mix_h ua (f_MD_mix_h z_v f_MD_begin_h))) (hP.sub [0] rfl) ((hD.sub [0] (by decide) rfl).weaken (fun _ _ _ _ => trivial)) ) ⟨by decide, by decide, by decide, by decide⟩ rfl hl.1 rfl (Nat.le_of_ble_eq_true rfl) d_MD_challenge_25) hP hD hS hA [0] [] rfl rfl (by decide) (by decide) (fun H5 L5 hP hD hS => ?_)
  have hP : va_P G.2.1 cl_all [(y_, .inr (4, [.int z_th, .long z_n, .long z_m, .long z_d, .long z_a, .long z_b, .long z_v, .int z_ep, .int z_su, .ref a_buf, .int z_by, .int z_mo, .ref a_st, .ref a_bl, .ref a_fi, .ref a_ob, .ref a_si, .ref a_po, .ref a_pr, .ref a_an, .int z_bk, .ref a_bo, .long (f_MD_mix_h wa (f_MD_mix_h ck (f_MD_mix_h ua (f_MD_mix_h z_v f_MD_begin_h))))]))] H5 := hP
  have hD : va_D A [(y_, .inr (4, [.int z_th, .long z_n, .long z_m, .long z_d, .long z_a, .long z_b, .long z_v, .int z_ep, .int z_su, .ref a_buf, .int z_by, .int z_mo, .ref a_st, .ref a_bl, .ref a_fi, .ref a_ob, .ref a_si, .ref a_po, .ref a_pr, .ref a_an, .int z_bk, .ref a_bo, .long (f_MD_mix_h wa (f_MD_mix_h ck (f_MD_mix_h ua (f_MD_mix_h z_v f_MD_begin_h))))]))] := hD
  refine lv_aload_n hx hb d_MD_challenge_28 rfl (lv_at hl 0 rfl) ?_
  refine lv_lload hx hb d_MD_challenge_29 (lv_at hl 4 rfl) ?_
  refine xw_use (wc := [(y_, .inr (4, [.int z_th, .long z_n, .long z_m, .long z_d, .long z_a, .long z_b, .long z_v, .int z_ep, .int z_su, .ref a_buf, .int z_by, .int z_mo, .ref a_st, .ref a_bl, .ref a_fi, .ref a_ob, .ref a_si, .ref a_po, .ref a_pr, .ref a_an, .int z_bk, .ref a_bo, .long (f_MD_mix_h wa (f_MD_mix_h ck (f_MD_mix_h ua (f_MD_mix_h z_v f_MD_begin_h))))]))]) (wr := []) (xg_runV (rest := []) (kw := 0) si_MD_103 hg hw S (va_recv (xg_k hg hw) hP (ci := 4) rfl (q0 := 0) rfl) (ct_MD_mix l hg H5 y_ o1 z_th z_n z_m z_d z_a z_b z_v z_ep z_su a_buf z_by z_mo a_st a_bl a_fi a_ob a_si a_po a_pr a_an z_bk a_bo (f_MD_mix_h wa (f_MD_mix_h ck (f_MD_mix_h ua (f_MD_mix_h z_v f_MD_begin_h)))) (hP.sub [0] rfl) ((hD.sub [0] (by decide) rfl).weaken (fun _ _ _ _ => trivial)) ) ⟨by decide, by decide, by decide, by decide⟩ rfl hl.1 rfl (Nat.le_of_ble_eq_true rfl) d_MD_challenge_31) hP hD hS hA [0] [] rfl rfl (by decide) (by decide) (fun H6 L6 hP hD hS => ?_)
  have hP : va_P G.2.1 cl_all [(y_, .inr (4, [.int z_th, .long z_n, .long z_m, .long z_d, .long z_a, .long z_b, .long z_v, .int z_ep, .int z_su, .ref a_buf, .int z_by, .int z_mo, .ref a_st, .ref a_bl, .ref a_fi, .ref a_ob, .ref a_si, .ref a_po, .ref a_pr, .ref a_an, .int z_bk, .ref a_bo, .long (f_MD_mix_h o1 (f_MD_mix_h wa (f_MD_mix_h ck (f_MD_mix_h ua (f_MD_mix_h z_v f_MD_begin_h)))))]))] H6 := hP
  have hD : va_D A [(y_, .inr (4, [.int z_th, .long z_n, .long z_m, .long z_d, .long z_a, .long z_b, .long z_v, .int z_ep, .int z_su, .ref a_buf, .int z_by, .int z_mo, .ref a_st, .ref a_bl, .ref a_fi, .ref a_ob, .ref a_si, .ref a_po, .ref a_pr, .ref a_an, .int z_bk, .ref a_bo, .long (f_MD_mix_h o1 (f_MD_mix_h wa (f_MD_mix_h ck (f_MD_mix_h ua (f_MD_mix_h z_v f_MD_begin_h)))))]))] := hD
  refine lv_aload_n hx hb d_MD_challenge_34 rfl (lv_at hl 0 rfl) ?_
  refine lv_lload hx hb d_MD_challenge_35 (lv_at hl 5 rfl) ?_
  refine xw_use (wc := [(y_, .inr (4, [.int z_th, .long z_n, .long z_m, .long z_d, .long z_a, .long z_b, .long z_v, .int z_ep, .int z_su, .ref a_buf, .int z_by, .int z_mo, .ref a_st, .ref a_bl, .ref a_fi, .ref a_ob, .ref a_si, .ref a_po, .ref a_pr, .ref a_an, .int z_bk, .ref a_bo, .long (f_MD_mix_h o1 (f_MD_mix_h wa (f_MD_mix_h ck (f_MD_mix_h ua (f_MD_mix_h z_v f_MD_begin_h)))))]))]) (wr := []) (xg_runV (rest := []) (kw := 0) si_MD_103 hg hw S (va_recv (xg_k hg hw) hP (ci := 4) rfl (q0 := 0) rfl) (ct_MD_mix l hg H6 y_ o2 z_th z_n z_m z_d z_a z_b z_v z_ep z_su a_buf z_by z_mo a_st a_bl a_fi a_ob a_si a_po a_pr a_an z_bk a_bo (f_MD_mix_h o1 (f_MD_mix_h wa (f_MD_mix_h ck (f_MD_mix_h ua (f_MD_mix_h z_v f_MD_begin_h))))) (hP.sub [0] rfl) ((hD.sub [0] (by decide) rfl).weaken (fun _ _ _ _ => trivial)) ) ⟨by decide, by decide, by decide, by decide⟩ rfl hl.1 rfl (Nat.le_of_ble_eq_true rfl) d_MD_challenge_37) hP hD hS hA [0] [] rfl rfl (by decide) (by decide) (fun H7 L7 hP hD hS => ?_)
  have hP : va_P G.2.1 cl_all [(y_, .inr (4, [.int z_th, .long z_n, .long z_m, .long z_d, .long z_a, .long z_b, .long z_v, .int z_ep, .int z_su, .ref a_buf, .int z_by, .int z_mo, .ref a_st, .ref a_bl, .ref a_fi, .ref a_ob, .ref a_si, .ref a_po, .ref a_pr, .ref a_an, .int z_bk, .ref a_bo, .long (f_MD_mix_h o2 (f_MD_mix_h o1 (f_MD_mix_h wa (f_MD_mix_h ck (f_MD_mix_h ua (f_MD_mix_h z_v f_MD_begin_h))))))]))] H7 := hP
  have hD : va_D A [(y_, .inr (4, [.int z_th, .long z_n, .long z_m, .long z_d, .long z_a, .long z_b, .long z_v, .int z_ep, .int z_su, .ref a_buf, .int z_by, .int z_mo, .ref a_st, .ref a_bl, .ref a_fi, .ref a_ob, .ref a_si, .ref a_po, .ref a_pr, .ref a_an, .int z_bk, .ref a_bo, .long (f_MD_mix_h o2 (f_MD_mix_h o1 (f_MD_mix_h wa (f_MD_mix_h ck (f_MD_mix_h ua (f_MD_mix_h z_v f_MD_begin_h))))))]))] := hD
  refine lv_aload_n hx hb d_MD_challenge_40 rfl (lv_at hl 0 rfl) ?_
  refine xg_read (xg_runV (rest := []) (kw := 0) si_MD_109 hg hw S (va_recv (xg_k hg hw) hP (ci := 4) rfl (q0 := 0) rfl) (ct_MD_mixed l hg H7 y_ z_th z_n z_m z_d z_a z_b z_v z_ep z_su a_buf z_by z_mo a_st a_bl a_fi a_ob a_si a_po a_pr a_an z_bk a_bo (f_MD_mix_h o2 (f_MD_mix_h o1 (f_MD_mix_h wa (f_MD_mix_h ck (f_MD_mix_h ua (f_MD_mix_h z_v f_MD_begin_h)))))) (hP.sub [0] rfl) ) ⟨by decide, by decide, by decide, by decide⟩ rfl hl.1 rfl (Nat.le_of_ble_eq_true rfl) d_MD_challenge_41) ?_
  refine lv_bipush (v := (15 : Int32)) hx hb d_MD_challenge_44 (by decide) ?_
  refine lv_lushr hx hb d_MD_challenge_46 rfl ?_
  refine lv_l2i hx hb d_MD_challenge_47 rfl ?_
  subst hr0
  subst hr1
  exact xw_iret hx hb ht hl0 hP hD hS d_MD_challenge_48
def f_MD_make_h (motion : Int32) (i : Int32) (z_n : Int64) (z_m : Int64) (z_d : Int64) (z_a : Int64) (z_b : Int64) (z_v : Int64) (z_ep : Int32) (z_bl : Nat → Int64) : Int64 := f_MD_challenge_h (f_MD_raised (z_bl motion.toNatClampNeg) (2880 : Int64) z_n) (f_MD_check i z_n z_m z_d z_a z_b z_v) (((f_MD_raised (z_bl motion.toNatClampNeg) ((1440 : Int64) * (f_MD_part i z_m z_d z_a z_b)) z_n) * (f_MD_raised (z_bl motion.toNatClampNeg) ((1440 : Int64) * (f_MD_part i z_m z_d z_a z_b)) z_n)) - ((f_MD_raised (z_bl motion.toNatClampNeg) ((1440 : Int64) * (f_MD_part i z_m z_d z_a z_b)) z_n) * (f_MD_raised (z_bl motion.toNatClampNeg) ((1440 : Int64) * (f_MD_part i z_m z_d z_a z_b)) z_n)) / z_n * z_n) (f_MD_raised z_v (f_MD_mixed (f_MD_mix_h z_ep.toInt64 (f_MD_mix_h (z_bl motion.toNatClampNeg) (f_MD_mix_h (f_MD_part i z_m z_d z_a z_b) f_MD_begin_h)))) z_n) (f_MD_raised (f_MD_raised (z_bl motion.toNatClampNeg) (2880 : Int64) z_n) (f_MD_mixed (f_MD_mix_h z_ep.toInt64 (f_MD_mix_h (z_bl motion.toNatClampNeg) (f_MD_mix_h (f_MD_part i z_m z_d z_a z_b) f_MD_begin_h)))) z_n) z_v
def f_MD_make_a_po (motion : Int32) (i : Int32) (z_n : Int64) (z_m : Int64) (z_d : Int64) (z_a : Int64) (z_b : Int64) (z_bl : Nat → Int64) (z_po : Nat → Int64) : Nat → Int64 := vp_updL z_po (((6 : Int32) * motion) + i).toNatClampNeg (f_MD_raised (z_bl motion.toNatClampNeg) ((1440 : Int64) * (f_MD_part i z_m z_d z_a z_b)) z_n)
def f_MD_make_a_pr (motion : Int32) (i : Int32) (z_n : Int64) (z_m : Int64) (z_d : Int64) (z_a : Int64) (z_b : Int64) (z_v : Int64) (z_ep : Int32) (z_bl : Nat → Int64) (z_pr : Nat → Int32) : Nat → Int32 := upd z_pr (((6 : Int32) * motion) + i).toNatClampNeg (f_MD_challenge (f_MD_raised (z_bl motion.toNatClampNeg) (2880 : Int64) z_n) (f_MD_check i z_n z_m z_d z_a z_b z_v) (((f_MD_raised (z_bl motion.toNatClampNeg) ((1440 : Int64) * (f_MD_part i z_m z_d z_a z_b)) z_n) * (f_MD_raised (z_bl motion.toNatClampNeg) ((1440 : Int64) * (f_MD_part i z_m z_d z_a z_b)) z_n)) - ((f_MD_raised (z_bl motion.toNatClampNeg) ((1440 : Int64) * (f_MD_part i z_m z_d z_a z_b)) z_n) * (f_MD_raised (z_bl motion.toNatClampNeg) ((1440 : Int64) * (f_MD_part i z_m z_d z_a z_b)) z_n)) / z_n * z_n) (f_MD_raised z_v (f_MD_mixed (f_MD_mix_h z_ep.toInt64 (f_MD_mix_h (z_bl motion.toNatClampNeg) (f_MD_mix_h (f_MD_part i z_m z_d z_a z_b) f_MD_begin_h)))) z_n) (f_MD_raised (f_MD_raised (z_bl motion.toNatClampNeg) (2880 : Int64) z_n) (f_MD_mixed (f_MD_mix_h z_ep.toInt64 (f_MD_mix_h (z_bl motion.toNatClampNeg) (f_MD_mix_h (f_MD_part i z_m z_d z_a z_b) f_MD_begin_h)))) z_n) z_v)
def f_MD_make_a_an (motion : Int32) (i : Int32) (z_n : Int64) (z_m : Int64) (z_d : Int64) (z_a : Int64) (z_b : Int64) (z_v : Int64) (z_ep : Int32) (z_bl : Nat → Int64) (z_an : Nat → Int64) : Nat → Int64 := vp_updL z_an (((6 : Int32) * motion) + i).toNatClampNeg (((f_MD_part i z_m z_d z_a z_b) * ((f_MD_challenge (f_MD_raised (z_bl motion.toNatClampNeg) (2880 : Int64) z_n) (f_MD_check i z_n z_m z_d z_a z_b z_v) (((f_MD_raised (z_bl motion.toNatClampNeg) ((1440 : Int64) * (f_MD_part i z_m z_d z_a z_b)) z_n) * (f_MD_raised (z_bl motion.toNatClampNeg) ((1440 : Int64) * (f_MD_part i z_m z_d z_a z_b)) z_n)) - ((f_MD_raised (z_bl motion.toNatClampNeg) ((1440 : Int64) * (f_MD_part i z_m z_d z_a z_b)) z_n) * (f_MD_raised (z_bl motion.toNatClampNeg) ((1440 : Int64) * (f_MD_part i z_m z_d z_a z_b)) z_n)) / z_n * z_n) (f_MD_raised z_v (f_MD_mixed (f_MD_mix_h z_ep.toInt64 (f_MD_mix_h (z_bl motion.toNatClampNeg) (f_MD_mix_h (f_MD_part i z_m z_d z_a z_b) f_MD_begin_h)))) z_n) (f_MD_raised (f_MD_raised (z_bl motion.toNatClampNeg) (2880 : Int64) z_n) (f_MD_mixed (f_MD_mix_h z_ep.toInt64 (f_MD_mix_h (z_bl motion.toNatClampNeg) (f_MD_mix_h (f_MD_part i z_m z_d z_a z_b) f_MD_begin_h)))) z_n) z_v).toInt64)) + (f_MD_mixed (f_MD_mix_h z_ep.toInt64 (f_MD_mix_h (z_bl motion.toNatClampNeg) (f_MD_mix_h (f_MD_part i z_m z_d z_a z_b) f_MD_begin_h)))))
set_option maxHeartbeats 4000000 in
set_option maxRecDepth 100000 in
theorem ct_MD_make (l : Launch) {G : xg_G} (hg : xg_F G) (H : Heap) (y_ : Nat) (motion : Int32) (i : Int32) (z_th : Int32) (z_n : Int64) (z_m : Int64) (z_d : Int64) (z_a : Int64) (z_b : Int64) (z_v : Int64) (z_ep : Int32) (z_su : Int32) (a_buf : Nat) (z_by : Int32) (z_mo : Int32) (a_st : Nat) (a_bl : Nat) (a_fi : Nat) (a_ob : Nat) (a_si : Nat) (a_po : Nat) (a_pr : Nat) (a_an : Nat) (z_bk : Int32) (a_bo : Nat) (z_h : Int64) (z_bl : Nat → Int64) (z_po : Nat → Int64) (z_pr : Nat → Int32) (z_an : Nat → Int64) (hP : va_P G.2.1 cl_all [(y_, .inr (4, [.int z_th, .long z_n, .long z_m, .long z_d, .long z_a, .long z_b, .long z_v, .int z_ep, .int z_su, .ref a_buf, .int z_by, .int z_mo, .ref a_st, .ref a_bl, .ref a_fi, .ref a_ob, .ref a_si, .ref a_po, .ref a_pr, .ref a_an, .int z_bk, .ref a_bo, .long z_h])), (a_bl, .inl (G.2.2.2.1, 12, .inr (.inl z_bl))), (a_po, .inl (G.2.2.2.1, 72, .inr (.inl z_po))), (a_pr, .inl (G.2.2.1, 72, .inl z_pr)), (a_an, .inl (G.2.2.2.1, 72, .inr (.inl z_an)))] H) (hD0 : va_D (fun _ => True) [(y_, .inr (4, [.int z_th, .long z_n, .long z_m, .long z_d, .long z_a, .long z_b, .long z_v, .int z_ep, .int z_su, .ref a_buf, .int z_by, .int z_mo, .ref a_st, .ref a_bl, .ref a_fi, .ref a_ob, .ref a_si, .ref a_po, .ref a_pr, .ref a_an, .int z_bk, .ref a_bo, .long z_h])), (a_bl, .inl (G.2.2.2.1, 12, .inr (.inl z_bl))), (a_po, .inl (G.2.2.2.1, 72, .inr (.inl z_po))), (a_pr, .inl (G.2.2.1, 72, .inl z_pr)), (a_an, .inl (G.2.2.2.1, 72, .inr (.inl z_an)))]) (hm : ¬ z_m = 0) (hn : ¬ z_n = 0) (hI : vp_in motion 12) (hT : vp_in i 6) : xc_Met l y_MD_make (.code y_MD_make b_MD_make 14 none) ({ frames := 2, cells := 0, slots := 0, locals := 39 } : Room) (xg_Pc G [.ref y_, .int motion, .int i] H) (xw_post G (va_A [(y_, .inr (4, [.int z_th, .long z_n, .long z_m, .long z_d, .long z_a, .long z_b, .long z_v, .int z_ep, .int z_su, .ref a_buf, .int z_by, .int z_mo, .ref a_st, .ref a_bl, .ref a_fi, .ref a_ob, .ref a_si, .ref a_po, .ref a_pr, .ref a_an, .int z_bk, .ref a_bo, .long z_h])), (a_bl, .inl (G.2.2.2.1, 12, .inr (.inl z_bl))), (a_po, .inl (G.2.2.2.1, 72, .inr (.inl z_po))), (a_pr, .inl (G.2.2.1, 72, .inl z_pr)), (a_an, .inl (G.2.2.2.1, 72, .inr (.inl z_an)))] H.size) none [(y_, .inr (4, [.int z_th, .long z_n, .long z_m, .long z_d, .long z_a, .long z_b, .long z_v, .int z_ep, .int z_su, .ref a_buf, .int z_by, .int z_mo, .ref a_st, .ref a_bl, .ref a_fi, .ref a_ob, .ref a_si, .ref a_po, .ref a_pr, .ref a_an, .int z_bk, .ref a_bo, .long (f_MD_make_h motion i z_n z_m z_d z_a z_b z_v z_ep z_bl)])), (a_bl, .inl (G.2.2.2.1, 12, .inr (.inl z_bl))), (a_po, .inl (G.2.2.2.1, 72, .inr (.inl (f_MD_make_a_po motion i z_n z_m z_d z_a z_b z_bl z_po)))), (a_pr, .inl (G.2.2.1, 72, .inl (f_MD_make_a_pr motion i z_n z_m z_d z_a z_b z_v z_ep z_bl z_pr))), (a_an, .inl (G.2.2.2.1, 72, .inr (.inl (f_MD_make_a_an motion i z_n z_m z_d z_a z_b z_v z_ep z_bl z_an))))]) (va_A [(y_, .inr (4, [.int z_th, .long z_n, .long z_m, .long z_d, .long z_a, .long z_b, .long z_v, .int z_ep, .int z_su, .ref a_buf, .int z_by, .int z_mo, .ref a_st, .ref a_bl, .ref a_fi, .ref a_ob, .ref a_si, .ref a_po, .ref a_pr, .ref a_an, .int z_bk, .ref a_bo, .long z_h])), (a_bl, .inl (G.2.2.2.1, 12, .inr (.inl z_bl))), (a_po, .inl (G.2.2.2.1, 72, .inr (.inl z_po))), (a_pr, .inl (G.2.2.1, 72, .inl z_pr)), (a_an, .inl (G.2.2.2.1, 72, .inr (.inl z_an)))] H.size) := by
  refine xc_ofW (by decide) ?_
  intro p e s m args below meth c s₁ B hml hE hv
  obtain ⟨rfl, rfl, hw⟩ := hv
  have hx := B.exec
  have hb := B.bytes
  have ht := B.returns
  have hl0 := B.notSynchronized
  have S : xc_Fix p m c b_MD_make 14 s "SealTrustModel" := ⟨hx, hb, hml, findClass_of_methodNamed B.named⟩
  have hD := hD0.self (sz := s.heap.size)
  generalize hAe : va_A [(y_, .inr (4, [.int z_th, .long z_n, .long z_m, .long z_d, .long z_a, .long z_b, .long z_v, .int z_ep, .int z_su, .ref a_buf, .int z_by, .int z_mo, .ref a_st, .ref a_bl, .ref a_fi, .ref a_ob, .ref a_si, .ref a_po, .ref a_pr, .ref a_an, .int z_bk, .ref a_bo, .long z_h])), (a_bl, .inl (G.2.2.2.1, 12, .inr (.inl z_bl))), (a_po, .inl (G.2.2.2.1, 72, .inr (.inl z_po))), (a_pr, .inl (G.2.2.1, 72, .inl z_pr)), (a_an, .inl (G.2.2.2.1, 72, .inr (.inl z_an)))] s.heap.size = A at hD ⊢
  have hA : ∀ q : Nat, s.heap.size ≤ q → A q := fun q h => by rw [← hAe]; exact Or.inr h
  have hS : va_S A s.heap s.heap [] := va_S.rf
  have hl := lv_entry ([.ref y_, .int motion, .int i]) (n := 14) (Nat.le_of_ble_eq_true rfl)
  rw [lg_entry_eq]
  generalize (lg_sl ([.ref y_, .int motion, .int i]) ++ List.replicate (14 - (lg_sl ([.ref y_, .int motion, .int i])).length) Slot.unset).toArray = ls at hl ⊢
  have hl : lv_has ls 14 [(0, .ref y_), (1, .int motion), (2, .int i)] := hl
  obtain ⟨r0, hr0⟩ : ∃ r, f_MD_make_h motion i z_n z_m z_d z_a z_b z_v z_ep z_bl = r := ⟨_, rfl⟩
  rw [hr0]
  unfold f_MD_make_h at hr0
  obtain ⟨r1, hr1⟩ : ∃ r, f_MD_make_a_po motion i z_n z_m z_d z_a z_b z_bl z_po = r := ⟨_, rfl⟩
  rw [hr1]
  unfold f_MD_make_a_po at hr1
  obtain ⟨r2, hr2⟩ : ∃ r, f_MD_make_a_pr motion i z_n z_m z_d z_a z_b z_v z_ep z_bl z_pr = r := ⟨_, rfl⟩
  rw [hr2]
  unfold f_MD_make_a_pr at hr2
  obtain ⟨r3, hr3⟩ : ∃ r, f_MD_make_a_an motion i z_n z_m z_d z_a z_b z_v z_ep z_bl z_an = r := ⟨_, rfl⟩
  rw [hr3]
  unfold f_MD_make_a_an at hr3
  refine lv_aload_n hx hb d_MD_make_0 rfl (lv_at hl 0 rfl) ?_
  refine gf_MD_51 hg hw S hP 0 rfl rfl d_MD_make_1 ?_
  refine lv_iload_n hx hb d_MD_make_4 rfl (lv_at hl 1 rfl) ?_
  refine va_lald hx hb (xg_k hg hw) hP 1 1 rfl rfl hI d_MD_make_5 ?_
  refine lv_lstore_n hx hb d_MD_make_6 rfl hl (by decide) rfl (fun ls hl => ?_)
  have hl : lv_has ls 14 [(3, .long (z_bl motion.toNatClampNeg)), (0, .ref y_), (1, .int motion), (2, .int i)] := hl
  refine lv_aload_n hx hb d_MD_make_7 rfl (lv_at hl 1 rfl) ?_
  refine lv_iload_n hx hb d_MD_make_8 rfl (lv_at hl 3 rfl) ?_
  refine xg_read (xg_runV (rest := []) (kw := 0) si_MD_92 hg hw S (va_recv (xg_k hg hw) hP (ci := 4) rfl (q0 := 0) rfl) (ct_MD_part l hg s.heap y_ i z_th z_n z_m z_d z_a z_b z_v z_ep z_su a_buf z_by z_mo a_st a_bl a_fi a_ob a_si a_po a_pr a_an z_bk a_bo z_h (hP.sub [0] rfl) hm) ⟨by decide, by decide, by decide, by decide⟩ rfl hl.1 rfl (Nat.le_of_ble_eq_true rfl) d_MD_make_9) ?_
  refine lv_lstore hx hb d_MD_make_12 hl (by decide) rfl (fun ls hl => ?_)
  have hl : lv_has ls 14 [(5, .long (f_MD_part i z_m z_d z_a z_b)), (3, .long (z_bl motion.toNatClampNeg)), (0, .ref y_), (1, .int motion), (2, .int i)] := hl
  refine lv_lload_n hx hb d_MD_make_14 rfl (lv_at hl 1 rfl) ?_
  refine kc_MD_115 hg hw S d_MD_make_15 ?_
  refine lv_lload hx hb d_MD_make_18 (lv_at hl 0 rfl) ?_
  refine lv_lmul hx hb d_MD_make_20 ?_
  refine lv_aload_n hx hb d_MD_make_21 rfl (lv_at hl 2 rfl) ?_
  refine gf_MD_13 hg hw S hP 0 rfl rfl d_MD_make_22 ?_
  refine xg_read (xg_runS (rest := []) (kw := 0) si_MD_96 hg hw S (ct_MD_raised l hg s.heap (z_bl motion.toNatClampNeg) ((1440 : Int64) * (f_MD_part i z_m z_d z_a z_b)) z_n hn) ⟨by decide, by decide, by decide, by decide⟩ rfl hl.1 rfl (Nat.le_of_ble_eq_true rfl) d_MD_make_25) ?_
  refine lv_lstore hx hb d_MD_make_28 hl (by decide) rfl (fun ls hl => ?_)
  have hl : lv_has ls 14 [(7, .long (f_MD_raised (z_bl motion.toNatClampNeg) ((1440 : Int64) * (f_MD_part i z_m z_d z_a z_b)) z_n)), (5, .long (f_MD_part i z_m z_d z_a z_b)), (3, .long (z_bl motion.toNatClampNeg)), (0, .ref y_), (1, .int motion), (2, .int i)] := hl
  refine lv_aload_n hx hb d_MD_make_30 rfl (lv_at hl 3 rfl) ?_
  refine xw_use (wc := [(y_, .inr (4, [.int z_th, .long z_n, .long z_m, .long z_d, .long z_a, .long z_b, .long z_v, .int z_ep, .int z_su, .ref a_buf, .int z_by, .int z_mo, .ref a_st, .ref a_bl, .ref a_fi, .ref a_ob, .ref a_si, .ref a_po, .ref a_pr, .ref a_an, .int z_bk, .ref a_bo, .long z_h]))]) (wr := [(a_bl, .inl (G.2.2.2.1, 12, .inr (.inl z_bl))), (a_po, .inl (G.2.2.2.1, 72, .inr (.inl z_po))), (a_pr, .inl (G.2.2.1, 72, .inl z_pr)), (a_an, .inl (G.2.2.2.1, 72, .inr (.inl z_an)))]) (xg_runV (rest := []) (kw := 0) si_MD_100 hg hw S (va_recv (xg_k hg hw) hP (ci := 4) rfl (q0 := 0) rfl) (ct_MD_begin l hg s.heap y_ z_th z_n z_m z_d z_a z_b z_v z_ep z_su a_buf z_by z_mo a_st a_bl a_fi a_ob a_si a_po a_pr a_an z_bk a_bo z_h (hP.sub [0] rfl) ((hD.sub [0] (by decide) rfl).weaken (fun _ _ _ _ => trivial)) ) ⟨by decide, by decide, by decide, by decide⟩ rfl hl.1 rfl (Nat.le_of_ble_eq_true rfl) d_MD_make_31) hP hD hS hA [0] [1, 2, 3, 4] rfl rfl (by decide) (by decide) (fun H1 L1 hP hD hS => ?_)
  have hP : va_P G.2.1 cl_all [(a_bl, .inl (G.2.2.2.1, 12, .inr (.inl z_bl))), (a_po, .inl (G.2.2.2.1, 72, .inr (.inl z_po))), (a_pr, .inl (G.2.2.1, 72, .inl z_pr)), (a_an, .inl (G.2.2.2.1, 72, .inr (.inl z_an))), (y_, .inr (4, [.int z_th, .long z_n, .long z_m, .long z_d, .long z_a, .long z_b, .long z_v, .int z_ep, .int z_su, .ref a_buf, .int z_by, .int z_mo, .ref a_st, .ref a_bl, .ref a_fi, .ref a_ob, .ref a_si, .ref a_po, .ref a_pr, .ref a_an, .int z_bk, .ref a_bo, .long f_MD_begin_h]))] H1 := hP
  have hD : va_D A [(a_bl, .inl (G.2.2.2.1, 12, .inr (.inl z_bl))), (a_po, .inl (G.2.2.2.1, 72, .inr (.inl z_po))), (a_pr, .inl (G.2.2.1, 72, .inl z_pr)), (a_an, .inl (G.2.2.2.1, 72, .inr (.inl z_an))), (y_, .inr (4, [.int z_th, .long z_n, .long z_m, .long z_d, .long z_a, .long z_b, .long z_v, .int z_ep, .int z_su, .ref a_buf, .int z_by, .int z_mo, .ref a_st, .ref a_bl, .ref a_fi, .ref a_ob, .ref a_si, .ref a_po, .ref a_pr, .ref a_an, .int z_bk, .ref a_bo, .long f_MD_begin_h]))] := hD
  refine lv_aload_n hx hb d_MD_make_34 rfl (lv_at hl 3 rfl) ?_
  refine lv_lload hx hb d_MD_make_35 (lv_at hl 1 rfl) ?_
  refine xw_use (wc := [(y_, .inr (4, [.int z_th, .long z_n, .long z_m, .long z_d, .long z_a, .long z_b, .long z_v, .int z_ep, .int z_su, .ref a_buf, .int z_by, .int z_mo, .ref a_st, .ref a_bl, .ref a_fi, .ref a_ob, .ref a_si, .ref a_po, .ref a_pr, .ref a_an, .int z_bk, .ref a_bo, .long f_MD_begin_h]))]) (wr := [(a_bl, .inl (G.2.2.2.1, 12, .inr (.inl z_bl))), (a_po, .inl (G.2.2.2.1, 72, .inr (.inl z_po))), (a_pr, .inl (G.2.2.1, 72, .inl z_pr)), (a_an, .inl (G.2.2.2.1, 72, .inr (.inl z_an)))]) (xg_runV (rest := []) (kw := 0) si_MD_103 hg hw S (va_recv (xg_k hg hw) hP (ci := 4) rfl (q0 := 4) rfl) (ct_MD_mix l hg H1 y_ (f_MD_part i z_m z_d z_a z_b) z_th z_n z_m z_d z_a z_b z_v z_ep z_su a_buf z_by z_mo a_st a_bl a_fi a_ob a_si a_po a_pr a_an z_bk a_bo f_MD_begin_h (hP.sub [4] rfl) ((hD.sub [4] (by decide) rfl).weaken (fun _ _ _ _ => trivial)) ) ⟨by decide, by decide, by decide, by decide⟩ rfl hl.1 rfl (Nat.le_of_ble_eq_true rfl) d_MD_make_37) hP hD hS hA [4] [0, 1, 2, 3] rfl rfl (by decide) (by decide) (fun H2 L2 hP hD hS => ?_)
  have hP : va_P G.2.1 cl_all [(a_bl, .inl (G.2.2.2.1, 12, .inr (.inl z_bl))), (a_po, .inl (G.2.2.2.1, 72, .inr (.inl z_po))), (a_pr, .inl (G.2.2.1, 72, .inl z_pr)), (a_an, .inl (G.2.2.2.1, 72, .inr (.inl z_an))), (y_, .inr (4, [.int z_th, .long z_n, .long z_m, .long z_d, .long z_a, .long z_b, .long z_v, .int z_ep, .int z_su, .ref a_buf, .int z_by, .int z_mo, .ref a_st, .ref a_bl, .ref a_fi, .ref a_ob, .ref a_si, .ref a_po, .ref a_pr, .ref a_an, .int z_bk, .ref a_bo, .long (f_MD_mix_h (f_MD_part i z_m z_d z_a z_b) f_MD_begin_h)]))] H2 := hP
  have hD : va_D A [(a_bl, .inl (G.2.2.2.1, 12, .inr (.inl z_bl))), (a_po, .inl (G.2.2.2.1, 72, .inr (.inl z_po))), (a_pr, .inl (G.2.2.1, 72, .inl z_pr)), (a_an, .inl (G.2.2.2.1, 72, .inr (.inl z_an))), (y_, .inr (4, [.int z_th, .long z_n, .long z_m, .long z_d, .long z_a, .long z_b, .long z_v, .int z_ep, .int z_su, .ref a_buf, .int z_by, .int z_mo, .ref a_st, .ref a_bl, .ref a_fi, .ref a_ob, .ref a_si, .ref a_po, .ref a_pr, .ref a_an, .int z_bk, .ref a_bo, .long (f_MD_mix_h (f_MD_part i z_m z_d z_a z_b) f_MD_begin_h)]))] := hD
  refine lv_aload_n hx hb d_MD_make_40 rfl (lv_at hl 3 rfl) ?_
  refine lv_lload_n hx hb d_MD_make_41 rfl (lv_at hl 2 rfl) ?_
  refine xw_use (wc := [(y_, .inr (4, [.int z_th, .long z_n, .long z_m, .long z_d, .long z_a, .long z_b, .long z_v, .int z_ep, .int z_su, .ref a_buf, .int z_by, .int z_mo, .ref a_st, .ref a_bl, .ref a_fi, .ref a_ob, .ref a_si, .ref a_po, .ref a_pr, .ref a_an, .int z_bk, .ref a_bo, .long (f_MD_mix_h (f_MD_part i z_m z_d z_a z_b) f_MD_begin_h)]))]) (wr := [(a_bl, .inl (G.2.2.2.1, 12, .inr (.inl z_bl))), (a_po, .inl (G.2.2.2.1, 72, .inr (.inl z_po))), (a_pr, .inl (G.2.2.1, 72, .inl z_pr)), (a_an, .inl (G.2.2.2.1, 72, .inr (.inl z_an)))]) (xg_runV (rest := []) (kw := 0) si_MD_103 hg hw S (va_recv (xg_k hg hw) hP (ci := 4) rfl (q0 := 4) rfl) (ct_MD_mix l hg H2 y_ (z_bl motion.toNatClampNeg) z_th z_n z_m z_d z_a z_b z_v z_ep z_su a_buf z_by z_mo a_st a_bl a_fi a_ob a_si a_po a_pr a_an z_bk a_bo (f_MD_mix_h (f_MD_part i z_m z_d z_a z_b) f_MD_begin_h) (hP.sub [4] rfl) ((hD.sub [4] (by decide) rfl).weaken (fun _ _ _ _ => trivial)) ) ⟨by decide, by decide, by decide, by decide⟩ rfl hl.1 rfl (Nat.le_of_ble_eq_true rfl) d_MD_make_42) hP hD hS hA [4] [0, 1, 2, 3] rfl rfl (by decide) (by decide) (fun H3 L3 hP hD hS => ?_)
  have hP : va_P G.2.1 cl_all [(a_bl, .inl (G.2.2.2.1, 12, .inr (.inl z_bl))), (a_po, .inl (G.2.2.2.1, 72, .inr (.inl z_po))), (a_pr, .inl (G.2.2.1, 72, .inl z_pr)), (a_an, .inl (G.2.2.2.1, 72, .inr (.inl z_an))), (y_, .inr (4, [.int z_th, .long z_n, .long z_m, .long z_d, .long z_a, .long z_b, .long z_v, .int z_ep, .int z_su, .ref a_buf, .int z_by, .int z_mo, .ref a_st, .ref a_bl, .ref a_fi, .ref a_ob, .ref a_si, .ref a_po, .ref a_pr, .ref a_an, .int z_bk, .ref a_bo, .long (f_MD_mix_h (z_bl motion.toNatClampNeg) (f_MD_mix_h (f_MD_part i z_m z_d z_a z_b) f_MD_begin_h))]))] H3 := hP
  have hD : va_D A [(a_bl, .inl (G.2.2.2.1, 12, .inr (.inl z_bl))), (a_po, .inl (G.2.2.2.1, 72, .inr (.inl z_po))), (a_pr, .inl (G.2.2.1, 72, .inl z_pr)), (a_an, .inl (G.2.2.2.1, 72, .inr (.inl z_an))), (y_, .inr (4, [.int z_th, .long z_n, .long z_m, .long z_d, .long z_a, .long z_b, .long z_v, .int z_ep, .int z_su, .ref a_buf, .int z_by, .int z_mo, .ref a_st, .ref a_bl, .ref a_fi, .ref a_ob, .ref a_si, .ref a_po, .ref a_pr, .ref a_an, .int z_bk, .ref a_bo, .long (f_MD_mix_h (z_bl motion.toNatClampNeg) (f_MD_mix_h (f_MD_part i z_m z_d z_a z_b) f_MD_begin_h))]))] := hD
  refine lv_aload_n hx hb d_MD_make_45 rfl (lv_at hl 3 rfl) ?_
  refine lv_aload_n hx hb d_MD_make_46 rfl (lv_at hl 3 rfl) ?_
  refine gf_MD_32 hg hw S hP 4 rfl rfl d_MD_make_47 ?_
  refine lv_i2l hx hb d_MD_make_50 rfl ?_
  refine xw_use (wc := [(y_, .inr (4, [.int z_th, .long z_n, .long z_m, .long z_d, .long z_a, .long z_b, .long z_v, .int z_ep, .int z_su, .ref a_buf, .int z_by, .int z_mo, .ref a_st, .ref a_bl, .ref a_fi, .ref a_ob, .ref a_si, .ref a_po, .ref a_pr, .ref a_an, .int z_bk, .ref a_bo, .long (f_MD_mix_h (z_bl motion.toNatClampNeg) (f_MD_mix_h (f_MD_part i z_m z_d z_a z_b) f_MD_begin_h))]))]) (wr := [(a_bl, .inl (G.2.2.2.1, 12, .inr (.inl z_bl))), (a_po, .inl (G.2.2.2.1, 72, .inr (.inl z_po))), (a_pr, .inl (G.2.2.1, 72, .inl z_pr)), (a_an, .inl (G.2.2.2.1, 72, .inr (.inl z_an)))]) (xg_runV (rest := []) (kw := 0) si_MD_103 hg hw S (va_recv (xg_k hg hw) hP (ci := 4) rfl (q0 := 4) rfl) (ct_MD_mix l hg H3 y_ z_ep.toInt64 z_th z_n z_m z_d z_a z_b z_v z_ep z_su a_buf z_by z_mo a_st a_bl a_fi a_ob a_si a_po a_pr a_an z_bk a_bo (f_MD_mix_h (z_bl motion.toNatClampNeg) (f_MD_mix_h (f_MD_part i z_m z_d z_a z_b) f_MD_begin_h)) (hP.sub [4] rfl) ((hD.sub [4] (by decide) rfl).weaken (fun _ _ _ _ => trivial)) ) ⟨by decide, by decide, by decide, by decide⟩ rfl hl.1 rfl (Nat.le_of_ble_eq_true rfl) d_MD_make_51) hP hD hS hA [4] [0, 1, 2, 3] rfl rfl (by decide) (by decide) (fun H4 L4 hP hD hS => ?_)
  have hP : va_P G.2.1 cl_all [(a_bl, .inl (G.2.2.2.1, 12, .inr (.inl z_bl))), (a_po, .inl (G.2.2.2.1, 72, .inr (.inl z_po))), (a_pr, .inl (G.2.2.1, 72, .inl z_pr)), (a_an, .inl (G.2.2.2.1, 72, .inr (.inl z_an))), (y_, .inr (4, [.int z_th, .long z_n, .long z_m, .long z_d, .long z_a, .long z_b, .long z_v, .int z_ep, .int z_su, .ref a_buf, .int z_by, .int z_mo, .ref a_st, .ref a_bl, .ref a_fi, .ref a_ob, .ref a_si, .ref a_po, .ref a_pr, .ref a_an, .int z_bk, .ref a_bo, .long (f_MD_mix_h z_ep.toInt64 (f_MD_mix_h (z_bl motion.toNatClampNeg) (f_MD_mix_h (f_MD_part i z_m z_d z_a z_b) f_MD_begin_h)))]))] H4 := hP
  have hD : va_D A [(a_bl, .inl (G.2.2.2.1, 12, .inr (.inl z_bl))), (a_po, .inl (G.2.2.2.1, 72, .inr (.inl z_po))), (a_pr, .inl (G.2.2.1, 72, .inl z_pr)), (a_an, .inl (G.2.2.2.1, 72, .inr (.inl z_an))), (y_, .inr (4, [.int z_th, .long z_n, .long z_m, .long z_d, .long z_a, .long z_b, .long z_v, .int z_ep, .int z_su, .ref a_buf, .int z_by, .int z_mo, .ref a_st, .ref a_bl, .ref a_fi, .ref a_ob, .ref a_si, .ref a_po, .ref a_pr, .ref a_an, .int z_bk, .ref a_bo, .long (f_MD_mix_h z_ep.toInt64 (f_MD_mix_h (z_bl motion.toNatClampNeg) (f_MD_mix_h (f_MD_part i z_m z_d z_a z_b) f_MD_begin_h)))]))] := hD
  refine lv_aload_n hx hb d_MD_make_54 rfl (lv_at hl 3 rfl) ?_
  refine xg_read (xg_runV (rest := []) (kw := 0) si_MD_109 hg hw S (va_recv (xg_k hg hw) hP (ci := 4) rfl (q0 := 4) rfl) (ct_MD_mixed l hg H4 y_ z_th z_n z_m z_d z_a z_b z_v z_ep z_su a_buf z_by z_mo a_st a_bl a_fi a_ob a_si a_po a_pr a_an z_bk a_bo (f_MD_mix_h z_ep.toInt64 (f_MD_mix_h (z_bl motion.toNatClampNeg) (f_MD_mix_h (f_MD_part i z_m z_d z_a z_b) f_MD_begin_h))) (hP.sub [4] rfl) ) ⟨by decide, by decide, by decide, by decide⟩ rfl hl.1 rfl (Nat.le_of_ble_eq_true rfl) d_MD_make_55) ?_
  refine lv_lstore hx hb d_MD_make_58 hl (by decide) rfl (fun ls hl => ?_)
  have hl : lv_has ls 14 [(9, .long (f_MD_mixed (f_MD_mix_h z_ep.toInt64 (f_MD_mix_h (z_bl motion.toNatClampNeg) (f_MD_mix_h (f_MD_part i z_m z_d z_a z_b) f_MD_begin_h))))), (7, .long (f_MD_raised (z_bl motion.toNatClampNeg) ((1440 : Int64) * (f_MD_part i z_m z_d z_a z_b)) z_n)), (5, .long (f_MD_part i z_m z_d z_a z_b)), (3, .long (z_bl motion.toNatClampNeg)), (0, .ref y_), (1, .int motion), (2, .int i)] := hl
  refine lv_lload_n hx hb d_MD_make_60 rfl (lv_at hl 3 rfl) ?_
  refine kc_MD_117 hg hw S d_MD_make_61 ?_
  refine lv_aload_n hx hb d_MD_make_64 rfl (lv_at hl 4 rfl) ?_
  refine gf_MD_13 hg hw S hP 4 rfl rfl d_MD_make_65 ?_
  refine xg_read (xg_runS (rest := []) (kw := 0) si_MD_96 hg hw S (ct_MD_raised l hg H4 (z_bl motion.toNatClampNeg) (2880 : Int64) z_n hn) ⟨by decide, by decide, by decide, by decide⟩ rfl hl.1 rfl (Nat.le_of_ble_eq_true rfl) d_MD_make_68) ?_
  refine lv_lstore hx hb d_MD_make_71 hl (by decide) rfl (fun ls hl => ?_)
  have hl : lv_has ls 14 [(11, .long (f_MD_raised (z_bl motion.toNatClampNeg) (2880 : Int64) z_n)), (9, .long (f_MD_mixed (f_MD_mix_h z_ep.toInt64 (f_MD_mix_h (z_bl motion.toNatClampNeg) (f_MD_mix_h (f_MD_part i z_m z_d z_a z_b) f_MD_begin_h))))), (7, .long (f_MD_raised (z_bl motion.toNatClampNeg) ((1440 : Int64) * (f_MD_part i z_m z_d z_a z_b)) z_n)), (5, .long (f_MD_part i z_m z_d z_a z_b)), (3, .long (z_bl motion.toNatClampNeg)), (0, .ref y_), (1, .int motion), (2, .int i)] := hl
  refine lv_aload_n hx hb d_MD_make_73 rfl (lv_at hl 5 rfl) ?_
  refine lv_lload hx hb d_MD_make_74 (lv_at hl 0 rfl) ?_
  refine lv_aload_n hx hb d_MD_make_76 rfl (lv_at hl 5 rfl) ?_
  refine lv_iload_n hx hb d_MD_make_77 rfl (lv_at hl 7 rfl) ?_
  refine xg_read (xg_runV (rest := [.long (f_MD_raised (z_bl motion.toNatClampNeg) (2880 : Int64) z_n), .ref y_]) (kw := 3) si_MD_119 hg hw S (va_recv (xg_k hg hw) hP (ci := 4) rfl (q0 := 4) rfl) (ct_MD_check l hg H4 y_ i z_th z_n z_m z_d z_a z_b z_v z_ep z_su a_buf z_by z_mo a_st a_bl a_fi a_ob a_si a_po a_pr a_an z_bk a_bo (f_MD_mix_h z_ep.toInt64 (f_MD_mix_h (z_bl motion.toNatClampNeg) (f_MD_mix_h (f_MD_part i z_m z_d z_a z_b) f_MD_begin_h))) (hP.sub [4] rfl) hm hn) ⟨by decide, by decide, by decide, by decide⟩ rfl hl.1 rfl (Nat.le_of_ble_eq_true rfl) d_MD_make_78) ?_
  refine lv_lload hx hb d_MD_make_81 (lv_at hl 2 rfl) ?_
  refine lv_lload hx hb d_MD_make_83 (lv_at hl 2 rfl) ?_
  refine lv_lmul hx hb d_MD_make_85 ?_
  refine lv_aload_n hx hb d_MD_make_86 rfl (lv_at hl 5 rfl) ?_
  refine gf_MD_13 hg hw S hP 4 rfl rfl d_MD_make_87 ?_
  refine lv_lrem hx hb d_MD_make_90 hn ?_
  refine lv_aload_n hx hb d_MD_make_91 rfl (lv_at hl 5 rfl) ?_
  refine gf_MD_29 hg hw S hP 4 rfl rfl d_MD_make_92 ?_
  refine lv_lload hx hb d_MD_make_95 (lv_at hl 1 rfl) ?_
  refine lv_aload_n hx hb d_MD_make_97 rfl (lv_at hl 5 rfl) ?_
  refine gf_MD_13 hg hw S hP 4 rfl rfl d_MD_make_98 ?_
  refine xg_read (xg_runS (rest := [.long (((f_MD_raised (z_bl motion.toNatClampNeg) ((1440 : Int64) * (f_MD_part i z_m z_d z_a z_b)) z_n) * (f_MD_raised (z_bl motion.toNatClampNeg) ((1440 : Int64) * (f_MD_part i z_m z_d z_a z_b)) z_n)) - ((f_MD_raised (z_bl motion.toNatClampNeg) ((1440 : Int64) * (f_MD_part i z_m z_d z_a z_b)) z_n) * (f_MD_raised (z_bl motion.toNatClampNeg) ((1440 : Int64) * (f_MD_part i z_m z_d z_a z_b)) z_n)) / z_n * z_n), .long (f_MD_check i z_n z_m z_d z_a z_b z_v), .long (f_MD_raised (z_bl motion.toNatClampNeg) (2880 : Int64) z_n), .ref y_]) (kw := 7) si_MD_96 hg hw S (ct_MD_raised l hg H4 z_v (f_MD_mixed (f_MD_mix_h z_ep.toInt64 (f_MD_mix_h (z_bl motion.toNatClampNeg) (f_MD_mix_h (f_MD_part i z_m z_d z_a z_b) f_MD_begin_h)))) z_n hn) ⟨by decide, by decide, by decide, by decide⟩ rfl hl.1 rfl (Nat.le_of_ble_eq_true rfl) d_MD_make_101) ?_
  refine lv_lload hx hb d_MD_make_104 (lv_at hl 0 rfl) ?_
  refine lv_lload hx hb d_MD_make_106 (lv_at hl 1 rfl) ?_
  refine lv_aload_n hx hb d_MD_make_108 rfl (lv_at hl 5 rfl) ?_
  refine gf_MD_13 hg hw S hP 4 rfl rfl d_MD_make_109 ?_
  refine xg_read (xg_runS (rest := [.long (f_MD_raised z_v (f_MD_mixed (f_MD_mix_h z_ep.toInt64 (f_MD_mix_h (z_bl motion.toNatClampNeg) (f_MD_mix_h (f_MD_part i z_m z_d z_a z_b) f_MD_begin_h)))) z_n), .long (((f_MD_raised (z_bl motion.toNatClampNeg) ((1440 : Int64) * (f_MD_part i z_m z_d z_a z_b)) z_n) * (f_MD_raised (z_bl motion.toNatClampNeg) ((1440 : Int64) * (f_MD_part i z_m z_d z_a z_b)) z_n)) - ((f_MD_raised (z_bl motion.toNatClampNeg) ((1440 : Int64) * (f_MD_part i z_m z_d z_a z_b)) z_n) * (f_MD_raised (z_bl motion.toNatClampNeg) ((1440 : Int64) * (f_MD_part i z_m z_d z_a z_b)) z_n)) / z_n * z_n), .long (f_MD_check i z_n z_m z_d z_a z_b z_v), .long (f_MD_raised (z_bl motion.toNatClampNeg) (2880 : Int64) z_n), .ref y_]) (kw := 9) si_MD_96 hg hw S (ct_MD_raised l hg H4 (f_MD_raised (z_bl motion.toNatClampNeg) (2880 : Int64) z_n) (f_MD_mixed (f_MD_mix_h z_ep.toInt64 (f_MD_mix_h (z_bl motion.toNatClampNeg) (f_MD_mix_h (f_MD_part i z_m z_d z_a z_b) f_MD_begin_h)))) z_n hn) ⟨by decide, by decide, by decide, by decide⟩ rfl hl.1 rfl (Nat.le_of_ble_eq_true rfl) d_MD_make_112) ?_
  refine xw_use (wc := [(y_, .inr (4, [.int z_th, .long z_n, .long z_m, .long z_d, .long z_a, .long z_b, .long z_v, .int z_ep, .int z_su, .ref a_buf, .int z_by, .int z_mo, .ref a_st, .ref a_bl, .ref a_fi, .ref a_ob, .ref a_si, .ref a_po, .ref a_pr, .ref a_an, .int z_bk, .ref a_bo, .long (f_MD_mix_h z_ep.toInt64 (f_MD_mix_h (z_bl motion.toNatClampNeg) (f_MD_mix_h (f_MD_part i z_m z_d z_a z_b) f_MD_begin_h)))]))]) (wr := [(a_bl, .inl (G.2.2.2.1, 12, .inr (.inl z_bl))), (a_po, .inl (G.2.2.2.1, 72, .inr (.inl z_po))), (a_pr, .inl (G.2.2.1, 72, .inl z_pr)), (a_an, .inl (G.2.2.2.1, 72, .inr (.inl z_an)))]) (xg_runV (rest := []) (kw := 0) si_MD_122 hg hw S (va_recv (xg_k hg hw) hP (ci := 4) rfl (q0 := 4) rfl) (ct_MD_challenge l hg H4 y_ (f_MD_raised (z_bl motion.toNatClampNeg) (2880 : Int64) z_n) (f_MD_check i z_n z_m z_d z_a z_b z_v) (((f_MD_raised (z_bl motion.toNatClampNeg) ((1440 : Int64) * (f_MD_part i z_m z_d z_a z_b)) z_n) * (f_MD_raised (z_bl motion.toNatClampNeg) ((1440 : Int64) * (f_MD_part i z_m z_d z_a z_b)) z_n)) - ((f_MD_raised (z_bl motion.toNatClampNeg) ((1440 : Int64) * (f_MD_part i z_m z_d z_a z_b)) z_n) * (f_MD_raised (z_bl motion.toNatClampNeg) ((1440 : Int64) * (f_MD_part i z_m z_d z_a z_b)) z_n)) / z_n * z_n) (f_MD_raised z_v (f_MD_mixed (f_MD_mix_h z_ep.toInt64 (f_MD_mix_h (z_bl motion.toNatClampNeg) (f_MD_mix_h (f_MD_part i z_m z_d z_a z_b) f_MD_begin_h)))) z_n) (f_MD_raised (f_MD_raised (z_bl motion.toNatClampNeg) (2880 : Int64) z_n) (f_MD_mixed (f_MD_mix_h z_ep.toInt64 (f_MD_mix_h (z_bl motion.toNatClampNeg) (f_MD_mix_h (f_MD_part i z_m z_d z_a z_b) f_MD_begin_h)))) z_n) z_th z_n z_m z_d z_a z_b z_v z_ep z_su a_buf z_by z_mo a_st a_bl a_fi a_ob a_si a_po a_pr a_an z_bk a_bo (f_MD_mix_h z_ep.toInt64 (f_MD_mix_h (z_bl motion.toNatClampNeg) (f_MD_mix_h (f_MD_part i z_m z_d z_a z_b) f_MD_begin_h))) (hP.sub [4] rfl) ((hD.sub [4] (by decide) rfl).weaken (fun _ _ _ _ => trivial)) ) ⟨by decide, by decide, by decide, by decide⟩ rfl hl.1 rfl (Nat.le_of_ble_eq_true rfl) d_MD_make_115) hP hD hS hA [4] [0, 1, 2, 3] rfl rfl (by decide) (by decide) (fun H5 L5 hP hD hS => ?_)
  have hP : va_P G.2.1 cl_all [(a_bl, .inl (G.2.2.2.1, 12, .inr (.inl z_bl))), (a_po, .inl (G.2.2.2.1, 72, .inr (.inl z_po))), (a_pr, .inl (G.2.2.1, 72, .inl z_pr)), (a_an, .inl (G.2.2.2.1, 72, .inr (.inl z_an))), (y_, .inr (4, [.int z_th, .long z_n, .long z_m, .long z_d, .long z_a, .long z_b, .long z_v, .int z_ep, .int z_su, .ref a_buf, .int z_by, .int z_mo, .ref a_st, .ref a_bl, .ref a_fi, .ref a_ob, .ref a_si, .ref a_po, .ref a_pr, .ref a_an, .int z_bk, .ref a_bo, .long (f_MD_challenge_h (f_MD_raised (z_bl motion.toNatClampNeg) (2880 : Int64) z_n) (f_MD_check i z_n z_m z_d z_a z_b z_v) (((f_MD_raised (z_bl motion.toNatClampNeg) ((1440 : Int64) * (f_MD_part i z_m z_d z_a z_b)) z_n) * (f_MD_raised (z_bl motion.toNatClampNeg) ((1440 : Int64) * (f_MD_part i z_m z_d z_a z_b)) z_n)) - ((f_MD_raised (z_bl motion.toNatClampNeg) ((1440 : Int64) * (f_MD_part i z_m z_d z_a z_b)) z_n) * (f_MD_raised (z_bl motion.toNatClampNeg) ((1440 : Int64) * (f_MD_part i z_m z_d z_a z_b)) z_n)) / z_n * z_n) (f_MD_raised z_v (f_MD_mixed (f_MD_mix_h z_ep.toInt64 (f_MD_mix_h (z_bl motion.toNatClampNeg) (f_MD_mix_h (f_MD_part i z_m z_d z_a z_b) f_MD_begin_h)))) z_n) (f_MD_raised (f_MD_raised (z_bl motion.toNatClampNeg) (2880 : Int64) z_n) (f_MD_mixed (f_MD_mix_h z_ep.toInt64 (f_MD_mix_h (z_bl motion.toNatClampNeg) (f_MD_mix_h (f_MD_part i z_m z_d z_a z_b) f_MD_begin_h)))) z_n) z_v)]))] H5 := hP
  have hD : va_D A [(a_bl, .inl (G.2.2.2.1, 12, .inr (.inl z_bl))), (a_po, .inl (G.2.2.2.1, 72, .inr (.inl z_po))), (a_pr, .inl (G.2.2.1, 72, .inl z_pr)), (a_an, .inl (G.2.2.2.1, 72, .inr (.inl z_an))), (y_, .inr (4, [.int z_th, .long z_n, .long z_m, .long z_d, .long z_a, .long z_b, .long z_v, .int z_ep, .int z_su, .ref a_buf, .int z_by, .int z_mo, .ref a_st, .ref a_bl, .ref a_fi, .ref a_ob, .ref a_si, .ref a_po, .ref a_pr, .ref a_an, .int z_bk, .ref a_bo, .long (f_MD_challenge_h (f_MD_raised (z_bl motion.toNatClampNeg) (2880 : Int64) z_n) (f_MD_check i z_n z_m z_d z_a z_b z_v) (((f_MD_raised (z_bl motion.toNatClampNeg) ((1440 : Int64) * (f_MD_part i z_m z_d z_a z_b)) z_n) * (f_MD_raised (z_bl motion.toNatClampNeg) ((1440 : Int64) * (f_MD_part i z_m z_d z_a z_b)) z_n)) - ((f_MD_raised (z_bl motion.toNatClampNeg) ((1440 : Int64) * (f_MD_part i z_m z_d z_a z_b)) z_n) * (f_MD_raised (z_bl motion.toNatClampNeg) ((1440 : Int64) * (f_MD_part i z_m z_d z_a z_b)) z_n)) / z_n * z_n) (f_MD_raised z_v (f_MD_mixed (f_MD_mix_h z_ep.toInt64 (f_MD_mix_h (z_bl motion.toNatClampNeg) (f_MD_mix_h (f_MD_part i z_m z_d z_a z_b) f_MD_begin_h)))) z_n) (f_MD_raised (f_MD_raised (z_bl motion.toNatClampNeg) (2880 : Int64) z_n) (f_MD_mixed (f_MD_mix_h z_ep.toInt64 (f_MD_mix_h (z_bl motion.toNatClampNeg) (f_MD_mix_h (f_MD_part i z_m z_d z_a z_b) f_MD_begin_h)))) z_n) z_v)]))] := hD
  refine lv_istore hx hb d_MD_make_118 hl (by decide) rfl (fun ls hl => ?_)
  have hl : lv_has ls 14 [(13, .int (f_MD_challenge (f_MD_raised (z_bl motion.toNatClampNeg) (2880 : Int64) z_n) (f_MD_check i z_n z_m z_d z_a z_b z_v) (((f_MD_raised (z_bl motion.toNatClampNeg) ((1440 : Int64) * (f_MD_part i z_m z_d z_a z_b)) z_n) * (f_MD_raised (z_bl motion.toNatClampNeg) ((1440 : Int64) * (f_MD_part i z_m z_d z_a z_b)) z_n)) - ((f_MD_raised (z_bl motion.toNatClampNeg) ((1440 : Int64) * (f_MD_part i z_m z_d z_a z_b)) z_n) * (f_MD_raised (z_bl motion.toNatClampNeg) ((1440 : Int64) * (f_MD_part i z_m z_d z_a z_b)) z_n)) / z_n * z_n) (f_MD_raised z_v (f_MD_mixed (f_MD_mix_h z_ep.toInt64 (f_MD_mix_h (z_bl motion.toNatClampNeg) (f_MD_mix_h (f_MD_part i z_m z_d z_a z_b) f_MD_begin_h)))) z_n) (f_MD_raised (f_MD_raised (z_bl motion.toNatClampNeg) (2880 : Int64) z_n) (f_MD_mixed (f_MD_mix_h z_ep.toInt64 (f_MD_mix_h (z_bl motion.toNatClampNeg) (f_MD_mix_h (f_MD_part i z_m z_d z_a z_b) f_MD_begin_h)))) z_n) z_v)), (11, .long (f_MD_raised (z_bl motion.toNatClampNeg) (2880 : Int64) z_n)), (9, .long (f_MD_mixed (f_MD_mix_h z_ep.toInt64 (f_MD_mix_h (z_bl motion.toNatClampNeg) (f_MD_mix_h (f_MD_part i z_m z_d z_a z_b) f_MD_begin_h))))), (7, .long (f_MD_raised (z_bl motion.toNatClampNeg) ((1440 : Int64) * (f_MD_part i z_m z_d z_a z_b)) z_n)), (5, .long (f_MD_part i z_m z_d z_a z_b)), (3, .long (z_bl motion.toNatClampNeg)), (0, .ref y_), (1, .int motion), (2, .int i)] := hl
  refine lv_aload_n hx hb d_MD_make_120 rfl (lv_at hl 6 rfl) ?_
  refine gf_MD_64 hg hw S hP 4 rfl rfl d_MD_make_121 ?_
  refine lv_bipush (v := (6 : Int32)) hx hb d_MD_make_124 (by decide) ?_
  refine lv_iload_n hx hb d_MD_make_126 rfl (lv_at hl 7 rfl) ?_
  refine lv_imul hx hb d_MD_make_127 ?_
  refine lv_iload_n hx hb d_MD_make_128 rfl (lv_at hl 8 rfl) ?_
  refine lv_iadd hx hb d_MD_make_129 ?_
  refine lv_lload hx hb d_MD_make_130 (lv_at hl 3 rfl) ?_
  refine va_last hx hb (xg_k hg hw) hP hD hS 1 1 rfl rfl (xs_72 hI hT) d_MD_make_132 (fun H6 L6 hP hD hS => ?_)
  have hP : va_P G.2.1 cl_all [(a_bl, .inl (G.2.2.2.1, 12, .inr (.inl z_bl))), (a_po, .inl (G.2.2.2.1, 72, .inr (.inl (vp_updL z_po (((6 : Int32) * motion) + i).toNatClampNeg (f_MD_raised (z_bl motion.toNatClampNeg) ((1440 : Int64) * (f_MD_part i z_m z_d z_a z_b)) z_n))))), (a_pr, .inl (G.2.2.1, 72, .inl z_pr)), (a_an, .inl (G.2.2.2.1, 72, .inr (.inl z_an))), (y_, .inr (4, [.int z_th, .long z_n, .long z_m, .long z_d, .long z_a, .long z_b, .long z_v, .int z_ep, .int z_su, .ref a_buf, .int z_by, .int z_mo, .ref a_st, .ref a_bl, .ref a_fi, .ref a_ob, .ref a_si, .ref a_po, .ref a_pr, .ref a_an, .int z_bk, .ref a_bo, .long (f_MD_challenge_h (f_MD_raised (z_bl motion.toNatClampNeg) (2880 : Int64) z_n) (f_MD_check i z_n z_m z_d z_a z_b z_v) (((f_MD_raised (z_bl motion.toNatClampNeg) ((1440 : Int64) * (f_MD_part i z_m z_d z_a z_b)) z_n) * (f_MD_raised (z_bl motion.toNatClampNeg) ((1440 : Int64) * (f_MD_part i z_m z_d z_a z_b)) z_n)) - ((f_MD_raised (z_bl motion.toNatClampNeg) ((1440 : Int64) * (f_MD_part i z_m z_d z_a z_b)) z_n) * (f_MD_raised (z_bl motion.toNatClampNeg) ((1440 : Int64) * (f_MD_part i z_m z_d z_a z_b)) z_n)) / z_n * z_n) (f_MD_raised z_v (f_MD_mixed (f_MD_mix_h z_ep.toInt64 (f_MD_mix_h (z_bl motion.toNatClampNeg) (f_MD_mix_h (f_MD_part i z_m z_d z_a z_b) f_MD_begin_h)))) z_n) (f_MD_raised (f_MD_raised (z_bl motion.toNatClampNeg) (2880 : Int64) z_n) (f_MD_mixed (f_MD_mix_h z_ep.toInt64 (f_MD_mix_h (z_bl motion.toNatClampNeg) (f_MD_mix_h (f_MD_part i z_m z_d z_a z_b) f_MD_begin_h)))) z_n) z_v)]))] H6 := hP
  have hD : va_D A [(a_bl, .inl (G.2.2.2.1, 12, .inr (.inl z_bl))), (a_po, .inl (G.2.2.2.1, 72, .inr (.inl (vp_updL z_po (((6 : Int32) * motion) + i).toNatClampNeg (f_MD_raised (z_bl motion.toNatClampNeg) ((1440 : Int64) * (f_MD_part i z_m z_d z_a z_b)) z_n))))), (a_pr, .inl (G.2.2.1, 72, .inl z_pr)), (a_an, .inl (G.2.2.2.1, 72, .inr (.inl z_an))), (y_, .inr (4, [.int z_th, .long z_n, .long z_m, .long z_d, .long z_a, .long z_b, .long z_v, .int z_ep, .int z_su, .ref a_buf, .int z_by, .int z_mo, .ref a_st, .ref a_bl, .ref a_fi, .ref a_ob, .ref a_si, .ref a_po, .ref a_pr, .ref a_an, .int z_bk, .ref a_bo, .long (f_MD_challenge_h (f_MD_raised (z_bl motion.toNatClampNeg) (2880 : Int64) z_n) (f_MD_check i z_n z_m z_d z_a z_b z_v) (((f_MD_raised (z_bl motion.toNatClampNeg) ((1440 : Int64) * (f_MD_part i z_m z_d z_a z_b)) z_n) * (f_MD_raised (z_bl motion.toNatClampNeg) ((1440 : Int64) * (f_MD_part i z_m z_d z_a z_b)) z_n)) - ((f_MD_raised (z_bl motion.toNatClampNeg) ((1440 : Int64) * (f_MD_part i z_m z_d z_a z_b)) z_n) * (f_MD_raised (z_bl motion.toNatClampNeg) ((1440 : Int64) * (f_MD_part i z_m z_d z_a z_b)) z_n)) / z_n * z_n) (f_MD_raised z_v (f_MD_mixed (f_MD_mix_h z_ep.toInt64 (f_MD_mix_h (z_bl motion.toNatClampNeg) (f_MD_mix_h (f_MD_part i z_m z_d z_a z_b) f_MD_begin_h)))) z_n) (f_MD_raised (f_MD_raised (z_bl motion.toNatClampNeg) (2880 : Int64) z_n) (f_MD_mixed (f_MD_mix_h z_ep.toInt64 (f_MD_mix_h (z_bl motion.toNatClampNeg) (f_MD_mix_h (f_MD_part i z_m z_d z_a z_b) f_MD_begin_h)))) z_n) z_v)]))] := hD
  refine lv_aload_n hx hb d_MD_make_133 rfl (lv_at hl 6 rfl) ?_
  refine gf_MD_67 hg hw S hP 4 rfl rfl d_MD_make_134 ?_
  refine lv_bipush (v := (6 : Int32)) hx hb d_MD_make_137 (by decide) ?_
  refine lv_iload_n hx hb d_MD_make_139 rfl (lv_at hl 7 rfl) ?_
  refine lv_imul hx hb d_MD_make_140 ?_
  refine lv_iload_n hx hb d_MD_make_141 rfl (lv_at hl 8 rfl) ?_
  refine lv_iadd hx hb d_MD_make_142 ?_
  refine lv_iload hx hb d_MD_make_143 (lv_at hl 0 rfl) ?_
  refine va_iast hx hb (xg_k hg hw) hP hD hS 2 0 rfl rfl (xs_72 hI hT) d_MD_make_145 (fun H7 L7 hP hD hS => ?_)
  have hP : va_P G.2.1 cl_all [(a_bl, .inl (G.2.2.2.1, 12, .inr (.inl z_bl))), (a_po, .inl (G.2.2.2.1, 72, .inr (.inl (vp_updL z_po (((6 : Int32) * motion) + i).toNatClampNeg (f_MD_raised (z_bl motion.toNatClampNeg) ((1440 : Int64) * (f_MD_part i z_m z_d z_a z_b)) z_n))))), (a_pr, .inl (G.2.2.1, 72, .inl (upd z_pr (((6 : Int32) * motion) + i).toNatClampNeg (f_MD_challenge (f_MD_raised (z_bl motion.toNatClampNeg) (2880 : Int64) z_n) (f_MD_check i z_n z_m z_d z_a z_b z_v) (((f_MD_raised (z_bl motion.toNatClampNeg) ((1440 : Int64) * (f_MD_part i z_m z_d z_a z_b)) z_n) * (f_MD_raised (z_bl motion.toNatClampNeg) ((1440 : Int64) * (f_MD_part i z_m z_d z_a z_b)) z_n)) - ((f_MD_raised (z_bl motion.toNatClampNeg) ((1440 : Int64) * (f_MD_part i z_m z_d z_a z_b)) z_n) * (f_MD_raised (z_bl motion.toNatClampNeg) ((1440 : Int64) * (f_MD_part i z_m z_d z_a z_b)) z_n)) / z_n * z_n) (f_MD_raised z_v (f_MD_mixed (f_MD_mix_h z_ep.toInt64 (f_MD_mix_h (z_bl motion.toNatClampNeg) (f_MD_mix_h (f_MD_part i z_m z_d z_a z_b) f_MD_begin_h)))) z_n) (f_MD_raised (f_MD_raised (z_bl motion.toNatClampNeg) (2880 : Int64) z_n) (f_MD_mixed (f_MD_mix_h z_ep.toInt64 (f_MD_mix_h (z_bl motion.toNatClampNeg) (f_MD_mix_h (f_MD_part i z_m z_d z_a z_b) f_MD_begin_h)))) z_n) z_v)))), (a_an, .inl (G.2.2.2.1, 72, .inr (.inl z_an))), (y_, .inr (4, [.int z_th, .long z_n, .long z_m, .long z_d, .long z_a, .long z_b, .long z_v, .int z_ep, .int z_su, .ref a_buf, .int z_by, .int z_mo, .ref a_st, .ref a_bl, .ref a_fi, .ref a_ob, .ref a_si, .ref a_po, .ref a_pr, .ref a_an, .int z_bk, .ref a_bo, .long (f_MD_challenge_h (f_MD_raised (z_bl motion.toNatClampNeg) (2880 : Int64) z_n) (f_MD_check i z_n z_m z_d z_a z_b z_v) (((f_MD_raised (z_bl motion.toNatClampNeg) ((1440 : Int64) * (f_MD_part i z_m z_d z_a z_b)) z_n) * (f_MD_raised (z_bl motion.toNatClampNeg) ((1440 : Int64) * (f_MD_part i z_m z_d z_a z_b)) z_n)) - ((f_MD_raised (z_bl motion.toNatClampNeg) ((1440 : Int64) * (f_MD_part i z_m z_d z_a z_b)) z_n) * (f_MD_raised (z_bl motion.toNatClampNeg) ((1440 : Int64) * (f_MD_part i z_m z_d z_a z_b)) z_n)) / z_n * z_n) (f_MD_raised z_v (f_MD_mixed (f_MD_mix_h z_ep.toInt64 (f_MD_mix_h (z_bl motion.toNatClampNeg) (f_MD_mix_h (f_MD_part i z_m z_d z_a z_b) f_MD_begin_h)))) z_n) (f_MD_raised (f_MD_raised (z_bl motion.toNatClampNeg) (2880 : Int64) z_n) (f_MD_mixed (f_MD_mix_h z_ep.toInt64 (f_MD_mix_h (z_bl motion.toNatClampNeg) (f_MD_mix_h (f_MD_part i z_m z_d z_a z_b) f_MD_begin_h)))) z_n) z_v)]))] H7 := hP
  have hD : va_D A [(a_bl, .inl (G.2.2.2.1, 12, .inr (.inl z_bl))), (a_po, .inl (G.2.2.2.1, 72, .inr (.inl (vp_updL z_po (((6 : Int32) * motion) + i).toNatClampNeg (f_MD_raised (z_bl motion.toNatClampNeg) ((1440 : Int64) * (f_MD_part i z_m z_d z_a z_b)) z_n))))), (a_pr, .inl (G.2.2.1, 72, .inl (upd z_pr (((6 : Int32) * motion) + i).toNatClampNeg (f_MD_challenge (f_MD_raised (z_bl motion.toNatClampNeg) (2880 : Int64) z_n) (f_MD_check i z_n z_m z_d z_a z_b z_v) (((f_MD_raised (z_bl motion.toNatClampNeg) ((1440 : Int64) * (f_MD_part i z_m z_d z_a z_b)) z_n) * (f_MD_raised (z_bl motion.toNatClampNeg) ((1440 : Int64) * (f_MD_part i z_m z_d z_a z_b)) z_n)) - ((f_MD_raised (z_bl motion.toNatClampNeg) ((1440 : Int64) * (f_MD_part i z_m z_d z_a z_b)) z_n) * (f_MD_raised (z_bl motion.toNatClampNeg) ((1440 : Int64) * (f_MD_part i z_m z_d z_a z_b)) z_n)) / z_n * z_n) (f_MD_raised z_v (f_MD_mixed (f_MD_mix_h z_ep.toInt64 (f_MD_mix_h (z_bl motion.toNatClampNeg) (f_MD_mix_h (f_MD_part i z_m z_d z_a z_b) f_MD_begin_h)))) z_n) (f_MD_raised (f_MD_raised (z_bl motion.toNatClampNeg) (2880 : Int64) z_n) (f_MD_mixed (f_MD_mix_h z_ep.toInt64 (f_MD_mix_h (z_bl motion.toNatClampNeg) (f_MD_mix_h (f_MD_part i z_m z_d z_a z_b) f_MD_begin_h)))) z_n) z_v)))), (a_an, .inl (G.2.2.2.1, 72, .inr (.inl z_an))), (y_, .inr (4, [.int z_th, .long z_n, .long z_m, .long z_d, .long z_a, .long z_b, .long z_v, .int z_ep, .int z_su, .ref a_buf, .int z_by, .int z_mo, .ref a_st, .ref a_bl, .ref a_fi, .ref a_ob, .ref a_si, .ref a_po, .ref a_pr, .ref a_an, .int z_bk, .ref a_bo, .long (f_MD_challenge_h (f_MD_raised (z_bl motion.toNatClampNeg) (2880 : Int64) z_n) (f_MD_check i z_n z_m z_d z_a z_b z_v) (((f_MD_raised (z_bl motion.toNatClampNeg) ((1440 : Int64) * (f_MD_part i z_m z_d z_a z_b)) z_n) * (f_MD_raised (z_bl motion.toNatClampNeg) ((1440 : Int64) * (f_MD_part i z_m z_d z_a z_b)) z_n)) - ((f_MD_raised (z_bl motion.toNatClampNeg) ((1440 : Int64) * (f_MD_part i z_m z_d z_a z_b)) z_n) * (f_MD_raised (z_bl motion.toNatClampNeg) ((1440 : Int64) * (f_MD_part i z_m z_d z_a z_b)) z_n)) / z_n * z_n) (f_MD_raised z_v (f_MD_mixed (f_MD_mix_h z_ep.toInt64 (f_MD_mix_h (z_bl motion.toNatClampNeg) (f_MD_mix_h (f_MD_part i z_m z_d z_a z_b) f_MD_begin_h)))) z_n) (f_MD_raised (f_MD_raised (z_bl motion.toNatClampNeg) (2880 : Int64) z_n) (f_MD_mixed (f_MD_mix_h z_ep.toInt64 (f_MD_mix_h (z_bl motion.toNatClampNeg) (f_MD_mix_h (f_MD_part i z_m z_d z_a z_b) f_MD_begin_h)))) z_n) z_v)]))] := hD
  refine lv_aload_n hx hb d_MD_make_146 rfl (lv_at hl 6 rfl) ?_
  refine gf_MD_70 hg hw S hP 4 rfl rfl d_MD_make_147 ?_
  refine lv_bipush (v := (6 : Int32)) hx hb d_MD_make_150 (by decide) ?_
  refine lv_iload_n hx hb d_MD_make_152 rfl (lv_at hl 7 rfl) ?_
  refine lv_imul hx hb d_MD_make_153 ?_
  refine lv_iload_n hx hb d_MD_make_154 rfl (lv_at hl 8 rfl) ?_
  refine lv_iadd hx hb d_MD_make_155 ?_
  refine lv_lload hx hb d_MD_make_156 (lv_at hl 4 rfl) ?_
  refine lv_iload hx hb d_MD_make_158 (lv_at hl 0 rfl) ?_
  refine lv_i2l hx hb d_MD_make_160 rfl ?_
  refine lv_lmul hx hb d_MD_make_161 ?_
  refine lv_lload hx hb d_MD_make_162 (lv_at hl 2 rfl) ?_
  refine lv_ladd hx hb d_MD_make_164 ?_
  refine va_last hx hb (xg_k hg hw) hP hD hS 3 1 rfl rfl (xs_72 hI hT) d_MD_make_165 (fun H8 L8 hP hD hS => ?_)
  have hP : va_P G.2.1 cl_all [(a_bl, .inl (G.2.2.2.1, 12, .inr (.inl z_bl))), (a_po, .inl (G.2.2.2.1, 72, .inr (.inl (vp_updL z_po (((6 : Int32) * motion) + i).toNatClampNeg (f_MD_raised (z_bl motion.toNatClampNeg) ((1440 : Int64) * (f_MD_part i z_m z_d z_a z_b)) z_n))))), (a_pr, .inl (G.2.2.1, 72, .inl (upd z_pr (((6 : Int32) * motion) + i).toNatClampNeg (f_MD_challenge (f_MD_raised (z_bl motion.toNatClampNeg) (2880 : Int64) z_n) (f_MD_check i z_n z_m z_d z_a z_b z_v) (((f_MD_raised (z_bl motion.toNatClampNeg) ((1440 : Int64) * (f_MD_part i z_m z_d z_a z_b)) z_n) * (f_MD_raised (z_bl motion.toNatClampNeg) ((1440 : Int64) * (f_MD_part i z_m z_d z_a z_b)) z_n)) - ((f_MD_raised (z_bl motion.toNatClampNeg) ((1440 : Int64) * (f_MD_part i z_m z_d z_a z_b)) z_n) * (f_MD_raised (z_bl motion.toNatClampNeg) ((1440 : Int64) * (f_MD_part i z_m z_d z_a z_b)) z_n)) / z_n * z_n) (f_MD_raised z_v (f_MD_mixed (f_MD_mix_h z_ep.toInt64 (f_MD_mix_h (z_bl motion.toNatClampNeg) (f_MD_mix_h (f_MD_part i z_m z_d z_a z_b) f_MD_begin_h)))) z_n) (f_MD_raised (f_MD_raised (z_bl motion.toNatClampNeg) (2880 : Int64) z_n) (f_MD_mixed (f_MD_mix_h z_ep.toInt64 (f_MD_mix_h (z_bl motion.toNatClampNeg) (f_MD_mix_h (f_MD_part i z_m z_d z_a z_b) f_MD_begin_h)))) z_n) z_v)))), (a_an, .inl (G.2.2.2.1, 72, .inr (.inl (vp_updL z_an (((6 : Int32) * motion) + i).toNatClampNeg (((f_MD_part i z_m z_d z_a z_b) * ((f_MD_challenge (f_MD_raised (z_bl motion.toNatClampNeg) (2880 : Int64) z_n) (f_MD_check i z_n z_m z_d z_a z_b z_v) (((f_MD_raised (z_bl motion.toNatClampNeg) ((1440 : Int64) * (f_MD_part i z_m z_d z_a z_b)) z_n) * (f_MD_raised (z_bl motion.toNatClampNeg) ((1440 : Int64) * (f_MD_part i z_m z_d z_a z_b)) z_n)) - ((f_MD_raised (z_bl motion.toNatClampNeg) ((1440 : Int64) * (f_MD_part i z_m z_d z_a z_b)) z_n) * (f_MD_raised (z_bl motion.toNatClampNeg) ((1440 : Int64) * (f_MD_part i z_m z_d z_a z_b)) z_n)) / z_n * z_n) (f_MD_raised z_v (f_MD_mixed (f_MD_mix_h z_ep.toInt64 (f_MD_mix_h (z_bl motion.toNatClampNeg) (f_MD_mix_h (f_MD_part i z_m z_d z_a z_b) f_MD_begin_h)))) z_n) (f_MD_raised (f_MD_raised (z_bl motion.toNatClampNeg) (2880 : Int64) z_n) (f_MD_mixed (f_MD_mix_h z_ep.toInt64 (f_MD_mix_h (z_bl motion.toNatClampNeg) (f_MD_mix_h (f_MD_part i z_m z_d z_a z_b) f_MD_begin_h)))) z_n) z_v).toInt64)) + (f_MD_mixed (f_MD_mix_h z_ep.toInt64 (f_MD_mix_h (z_bl motion.toNatClampNeg) (f_MD_mix_h (f_MD_part i z_m z_d z_a z_b) f_MD_begin_h))))))))), (y_, .inr (4, [.int z_th, .long z_n, .long z_m, .long z_d, .long z_a, .long z_b, .long z_v, .int z_ep, .int z_su, .ref a_buf, .int z_by, .int z_mo, .ref a_st, .ref a_bl, .ref a_fi, .ref a_ob, .ref a_si, .ref a_po, .ref a_pr, .ref a_an, .int z_bk, .ref a_bo, .long (f_MD_challenge_h (f_MD_raised (z_bl motion.toNatClampNeg) (2880 : Int64) z_n) (f_MD_check i z_n z_m z_d z_a z_b z_v) (((f_MD_raised (z_bl motion.toNatClampNeg) ((1440 : Int64) * (f_MD_part i z_m z_d z_a z_b)) z_n) * (f_MD_raised (z_bl motion.toNatClampNeg) ((1440 : Int64) * (f_MD_part i z_m z_d z_a z_b)) z_n)) - ((f_MD_raised (z_bl motion.toNatClampNeg) ((1440 : Int64) * (f_MD_part i z_m z_d z_a z_b)) z_n) * (f_MD_raised (z_bl motion.toNatClampNeg) ((1440 : Int64) * (f_MD_part i z_m z_d z_a z_b)) z_n)) / z_n * z_n) (f_MD_raised z_v (f_MD_mixed (f_MD_mix_h z_ep.toInt64 (f_MD_mix_h (z_bl motion.toNatClampNeg) (f_MD_mix_h (f_MD_part i z_m z_d z_a z_b) f_MD_begin_h)))) z_n) (f_MD_raised (f_MD_raised (z_bl motion.toNatClampNeg) (2880 : Int64) z_n) (f_MD_mixed (f_MD_mix_h z_ep.toInt64 (f_MD_mix_h (z_bl motion.toNatClampNeg) (f_MD_mix_h (f_MD_part i z_m z_d z_a z_b) f_MD_begin_h)))) z_n) z_v)]))] H8 := hP
  have hD : va_D A [(a_bl, .inl (G.2.2.2.1, 12, .inr (.inl z_bl))), (a_po, .inl (G.2.2.2.1, 72, .inr (.inl (vp_updL z_po (((6 : Int32) * motion) + i).toNatClampNeg (f_MD_raised (z_bl motion.toNatClampNeg) ((1440 : Int64) * (f_MD_part i z_m z_d z_a z_b)) z_n))))), (a_pr, .inl (G.2.2.1, 72, .inl (upd z_pr (((6 : Int32) * motion) + i).toNatClampNeg (f_MD_challenge (f_MD_raised (z_bl motion.toNatClampNeg) (2880 : Int64) z_n) (f_MD_check i z_n z_m z_d z_a z_b z_v) (((f_MD_raised (z_bl motion.toNatClampNeg) ((1440 : Int64) * (f_MD_part i z_m z_d z_a z_b)) z_n) * (f_MD_raised (z_bl motion.toNatClampNeg) ((1440 : Int64) * (f_MD_part i z_m z_d z_a z_b)) z_n)) - ((f_MD_raised (z_bl motion.toNatClampNeg) ((1440 : Int64) * (f_MD_part i z_m z_d z_a z_b)) z_n) * (f_MD_raised (z_bl motion.toNatClampNeg) ((1440 : Int64) * (f_MD_part i z_m z_d z_a z_b)) z_n)) / z_n * z_n) (f_MD_raised z_v (f_MD_mixed (f_MD_mix_h z_ep.toInt64 (f_MD_mix_h (z_bl motion.toNatClampNeg) (f_MD_mix_h (f_MD_part i z_m z_d z_a z_b) f_MD_begin_h)))) z_n) (f_MD_raised (f_MD_raised (z_bl motion.toNatClampNeg) (2880 : Int64) z_n) (f_MD_mixed (f_MD_mix_h z_ep.toInt64 (f_MD_mix_h (z_bl motion.toNatClampNeg) (f_MD_mix_h (f_MD_part i z_m z_d z_a z_b) f_MD_begin_h)))) z_n) z_v)))), (a_an, .inl (G.2.2.2.1, 72, .inr (.inl (vp_updL z_an (((6 : Int32) * motion) + i).toNatClampNeg (((f_MD_part i z_m z_d z_a z_b) * ((f_MD_challenge (f_MD_raised (z_bl motion.toNatClampNeg) (2880 : Int64) z_n) (f_MD_check i z_n z_m z_d z_a z_b z_v) (((f_MD_raised (z_bl motion.toNatClampNeg) ((1440 : Int64) * (f_MD_part i z_m z_d z_a z_b)) z_n) * (f_MD_raised (z_bl motion.toNatClampNeg) ((1440 : Int64) * (f_MD_part i z_m z_d z_a z_b)) z_n)) - ((f_MD_raised (z_bl motion.toNatClampNeg) ((1440 : Int64) * (f_MD_part i z_m z_d z_a z_b)) z_n) * (f_MD_raised (z_bl motion.toNatClampNeg) ((1440 : Int64) * (f_MD_part i z_m z_d z_a z_b)) z_n)) / z_n * z_n) (f_MD_raised z_v (f_MD_mixed (f_MD_mix_h z_ep.toInt64 (f_MD_mix_h (z_bl motion.toNatClampNeg) (f_MD_mix_h (f_MD_part i z_m z_d z_a z_b) f_MD_begin_h)))) z_n) (f_MD_raised (f_MD_raised (z_bl motion.toNatClampNeg) (2880 : Int64) z_n) (f_MD_mixed (f_MD_mix_h z_ep.toInt64 (f_MD_mix_h (z_bl motion.toNatClampNeg) (f_MD_mix_h (f_MD_part i z_m z_d z_a z_b) f_MD_begin_h)))) z_n) z_v).toInt64)) + (f_MD_mixed (f_MD_mix_h z_ep.toInt64 (f_MD_mix_h (z_bl motion.toNatClampNeg) (f_MD_mix_h (f_MD_part i z_m z_d z_a z_b) f_MD_begin_h))))))))), (y_, .inr (4, [.int z_th, .long z_n, .long z_m, .long z_d, .long z_a, .long z_b, .long z_v, .int z_ep, .int z_su, .ref a_buf, .int z_by, .int z_mo, .ref a_st, .ref a_bl, .ref a_fi, .ref a_ob, .ref a_si, .ref a_po, .ref a_pr, .ref a_an, .int z_bk, .ref a_bo, .long (f_MD_challenge_h (f_MD_raised (z_bl motion.toNatClampNeg) (2880 : Int64) z_n) (f_MD_check i z_n z_m z_d z_a z_b z_v) (((f_MD_raised (z_bl motion.toNatClampNeg) ((1440 : Int64) * (f_MD_part i z_m z_d z_a z_b)) z_n) * (f_MD_raised (z_bl motion.toNatClampNeg) ((1440 : Int64) * (f_MD_part i z_m z_d z_a z_b)) z_n)) - ((f_MD_raised (z_bl motion.toNatClampNeg) ((1440 : Int64) * (f_MD_part i z_m z_d z_a z_b)) z_n) * (f_MD_raised (z_bl motion.toNatClampNeg) ((1440 : Int64) * (f_MD_part i z_m z_d z_a z_b)) z_n)) / z_n * z_n) (f_MD_raised z_v (f_MD_mixed (f_MD_mix_h z_ep.toInt64 (f_MD_mix_h (z_bl motion.toNatClampNeg) (f_MD_mix_h (f_MD_part i z_m z_d z_a z_b) f_MD_begin_h)))) z_n) (f_MD_raised (f_MD_raised (z_bl motion.toNatClampNeg) (2880 : Int64) z_n) (f_MD_mixed (f_MD_mix_h z_ep.toInt64 (f_MD_mix_h (z_bl motion.toNatClampNeg) (f_MD_mix_h (f_MD_part i z_m z_d z_a z_b) f_MD_begin_h)))) z_n) z_v)]))] := hD
  subst hr0
  subst hr1
  subst hr2
  subst hr3
  have hP := hP.sub (ws' := [(y_, .inr (4, [.int z_th, .long z_n, .long z_m, .long z_d, .long z_a, .long z_b, .long z_v, .int z_ep, .int z_su, .ref a_buf, .int z_by, .int z_mo, .ref a_st, .ref a_bl, .ref a_fi, .ref a_ob, .ref a_si, .ref a_po, .ref a_pr, .ref a_an, .int z_bk, .ref a_bo, .long (f_MD_challenge_h (f_MD_raised (z_bl motion.toNatClampNeg) (2880 : Int64) z_n) (f_MD_check i z_n z_m z_d z_a z_b z_v) (((f_MD_raised (z_bl motion.toNatClampNeg) ((1440 : Int64) * (f_MD_part i z_m z_d z_a z_b)) z_n) * (f_MD_raised (z_bl motion.toNatClampNeg) ((1440 : Int64) * (f_MD_part i z_m z_d z_a z_b)) z_n)) - ((f_MD_raised (z_bl motion.toNatClampNeg) ((1440 : Int64) * (f_MD_part i z_m z_d z_a z_b)) z_n) * (f_MD_raised (z_bl motion.toNatClampNeg) ((1440 : Int64) * (f_MD_part i z_m z_d z_a z_b)) z_n)) / z_n * z_n) (f_MD_raised z_v (f_MD_mixed (f_MD_mix_h z_ep.toInt64 (f_MD_mix_h (z_bl motion.toNatClampNeg) (f_MD_mix_h (f_MD_part i z_m z_d z_a z_b) f_MD_begin_h)))) z_n) (f_MD_raised (f_MD_raised (z_bl motion.toNatClampNeg) (2880 : Int64) z_n) (f_MD_mixed (f_MD_mix_h z_ep.toInt64 (f_MD_mix_h (z_bl motion.toNatClampNeg) (f_MD_mix_h (f_MD_part i z_m z_d z_a z_b) f_MD_begin_h)))) z_n) z_v)])), (a_bl, .inl (G.2.2.2.1, 12, .inr (.inl z_bl))), (a_po, .inl (G.2.2.2.1, 72, .inr (.inl (vp_updL z_po (((6 : Int32) * motion) + i).toNatClampNeg (f_MD_raised (z_bl motion.toNatClampNeg) ((1440 : Int64) * (f_MD_part i z_m z_d z_a z_b)) z_n))))), (a_pr, .inl (G.2.2.1, 72, .inl (upd z_pr (((6 : Int32) * motion) + i).toNatClampNeg (f_MD_challenge (f_MD_raised (z_bl motion.toNatClampNeg) (2880 : Int64) z_n) (f_MD_check i z_n z_m z_d z_a z_b z_v) (((f_MD_raised (z_bl motion.toNatClampNeg) ((1440 : Int64) * (f_MD_part i z_m z_d z_a z_b)) z_n) * (f_MD_raised (z_bl motion.toNatClampNeg) ((1440 : Int64) * (f_MD_part i z_m z_d z_a z_b)) z_n)) - ((f_MD_raised (z_bl motion.toNatClampNeg) ((1440 : Int64) * (f_MD_part i z_m z_d z_a z_b)) z_n) * (f_MD_raised (z_bl motion.toNatClampNeg) ((1440 : Int64) * (f_MD_part i z_m z_d z_a z_b)) z_n)) / z_n * z_n) (f_MD_raised z_v (f_MD_mixed (f_MD_mix_h z_ep.toInt64 (f_MD_mix_h (z_bl motion.toNatClampNeg) (f_MD_mix_h (f_MD_part i z_m z_d z_a z_b) f_MD_begin_h)))) z_n) (f_MD_raised (f_MD_raised (z_bl motion.toNatClampNeg) (2880 : Int64) z_n) (f_MD_mixed (f_MD_mix_h z_ep.toInt64 (f_MD_mix_h (z_bl motion.toNatClampNeg) (f_MD_mix_h (f_MD_part i z_m z_d z_a z_b) f_MD_begin_h)))) z_n) z_v)))), (a_an, .inl (G.2.2.2.1, 72, .inr (.inl (vp_updL z_an (((6 : Int32) * motion) + i).toNatClampNeg (((f_MD_part i z_m z_d z_a z_b) * ((f_MD_challenge (f_MD_raised (z_bl motion.toNatClampNeg) (2880 : Int64) z_n) (f_MD_check i z_n z_m z_d z_a z_b z_v) (((f_MD_raised (z_bl motion.toNatClampNeg) ((1440 : Int64) * (f_MD_part i z_m z_d z_a z_b)) z_n) * (f_MD_raised (z_bl motion.toNatClampNeg) ((1440 : Int64) * (f_MD_part i z_m z_d z_a z_b)) z_n)) - ((f_MD_raised (z_bl motion.toNatClampNeg) ((1440 : Int64) * (f_MD_part i z_m z_d z_a z_b)) z_n) * (f_MD_raised (z_bl motion.toNatClampNeg) ((1440 : Int64) * (f_MD_part i z_m z_d z_a z_b)) z_n)) / z_n * z_n) (f_MD_raised z_v (f_MD_mixed (f_MD_mix_h z_ep.toInt64 (f_MD_mix_h (z_bl motion.toNatClampNeg) (f_MD_mix_h (f_MD_part i z_m z_d z_a z_b) f_MD_begin_h)))) z_n) (f_MD_raised (f_MD_raised (z_bl motion.toNatClampNeg) (2880 : Int64) z_n) (f_MD_mixed (f_MD_mix_h z_ep.toInt64 (f_MD_mix_h (z_bl motion.toNatClampNeg) (f_MD_mix_h (f_MD_part i z_m z_d z_a z_b) f_MD_begin_h)))) z_n) z_v).toInt64)) + (f_MD_mixed (f_MD_mix_h z_ep.toInt64 (f_MD_mix_h (z_bl motion.toNatClampNeg) (f_MD_mix_h (f_MD_part i z_m z_d z_a z_b) f_MD_begin_h)))))))))]) [4, 0, 1, 2, 3] rfl
  have hD := hD.sub (ws' := [(y_, .inr (4, [.int z_th, .long z_n, .long z_m, .long z_d, .long z_a, .long z_b, .long z_v, .int z_ep, .int z_su, .ref a_buf, .int z_by, .int z_mo, .ref a_st, .ref a_bl, .ref a_fi, .ref a_ob, .ref a_si, .ref a_po, .ref a_pr, .ref a_an, .int z_bk, .ref a_bo, .long (f_MD_challenge_h (f_MD_raised (z_bl motion.toNatClampNeg) (2880 : Int64) z_n) (f_MD_check i z_n z_m z_d z_a z_b z_v) (((f_MD_raised (z_bl motion.toNatClampNeg) ((1440 : Int64) * (f_MD_part i z_m z_d z_a z_b)) z_n) * (f_MD_raised (z_bl motion.toNatClampNeg) ((1440 : Int64) * (f_MD_part i z_m z_d z_a z_b)) z_n)) - ((f_MD_raised (z_bl motion.toNatClampNeg) ((1440 : Int64) * (f_MD_part i z_m z_d z_a z_b)) z_n) * (f_MD_raised (z_bl motion.toNatClampNeg) ((1440 : Int64) * (f_MD_part i z_m z_d z_a z_b)) z_n)) / z_n * z_n) (f_MD_raised z_v (f_MD_mixed (f_MD_mix_h z_ep.toInt64 (f_MD_mix_h (z_bl motion.toNatClampNeg) (f_MD_mix_h (f_MD_part i z_m z_d z_a z_b) f_MD_begin_h)))) z_n) (f_MD_raised (f_MD_raised (z_bl motion.toNatClampNeg) (2880 : Int64) z_n) (f_MD_mixed (f_MD_mix_h z_ep.toInt64 (f_MD_mix_h (z_bl motion.toNatClampNeg) (f_MD_mix_h (f_MD_part i z_m z_d z_a z_b) f_MD_begin_h)))) z_n) z_v)])), (a_bl, .inl (G.2.2.2.1, 12, .inr (.inl z_bl))), (a_po, .inl (G.2.2.2.1, 72, .inr (.inl (vp_updL z_po (((6 : Int32) * motion) + i).toNatClampNeg (f_MD_raised (z_bl motion.toNatClampNeg) ((1440 : Int64) * (f_MD_part i z_m z_d z_a z_b)) z_n))))), (a_pr, .inl (G.2.2.1, 72, .inl (upd z_pr (((6 : Int32) * motion) + i).toNatClampNeg (f_MD_challenge (f_MD_raised (z_bl motion.toNatClampNeg) (2880 : Int64) z_n) (f_MD_check i z_n z_m z_d z_a z_b z_v) (((f_MD_raised (z_bl motion.toNatClampNeg) ((1440 : Int64) * (f_MD_part i z_m z_d z_a z_b)) z_n) * (f_MD_raised (z_bl motion.toNatClampNeg) ((1440 : Int64) * (f_MD_part i z_m z_d z_a z_b)) z_n)) - ((f_MD_raised (z_bl motion.toNatClampNeg) ((1440 : Int64) * (f_MD_part i z_m z_d z_a z_b)) z_n) * (f_MD_raised (z_bl motion.toNatClampNeg) ((1440 : Int64) * (f_MD_part i z_m z_d z_a z_b)) z_n)) / z_n * z_n) (f_MD_raised z_v (f_MD_mixed (f_MD_mix_h z_ep.toInt64 (f_MD_mix_h (z_bl motion.toNatClampNeg) (f_MD_mix_h (f_MD_part i z_m z_d z_a z_b) f_MD_begin_h)))) z_n) (f_MD_raised (f_MD_raised (z_bl motion.toNatClampNeg) (2880 : Int64) z_n) (f_MD_mixed (f_MD_mix_h z_ep.toInt64 (f_MD_mix_h (z_bl motion.toNatClampNeg) (f_MD_mix_h (f_MD_part i z_m z_d z_a z_b) f_MD_begin_h)))) z_n) z_v)))), (a_an, .inl (G.2.2.2.1, 72, .inr (.inl (vp_updL z_an (((6 : Int32) * motion) + i).toNatClampNeg (((f_MD_part i z_m z_d z_a z_b) * ((f_MD_challenge (f_MD_raised (z_bl motion.toNatClampNeg) (2880 : Int64) z_n) (f_MD_check i z_n z_m z_d z_a z_b z_v) (((f_MD_raised (z_bl motion.toNatClampNeg) ((1440 : Int64) * (f_MD_part i z_m z_d z_a z_b)) z_n) * (f_MD_raised (z_bl motion.toNatClampNeg) ((1440 : Int64) * (f_MD_part i z_m z_d z_a z_b)) z_n)) - ((f_MD_raised (z_bl motion.toNatClampNeg) ((1440 : Int64) * (f_MD_part i z_m z_d z_a z_b)) z_n) * (f_MD_raised (z_bl motion.toNatClampNeg) ((1440 : Int64) * (f_MD_part i z_m z_d z_a z_b)) z_n)) / z_n * z_n) (f_MD_raised z_v (f_MD_mixed (f_MD_mix_h z_ep.toInt64 (f_MD_mix_h (z_bl motion.toNatClampNeg) (f_MD_mix_h (f_MD_part i z_m z_d z_a z_b) f_MD_begin_h)))) z_n) (f_MD_raised (f_MD_raised (z_bl motion.toNatClampNeg) (2880 : Int64) z_n) (f_MD_mixed (f_MD_mix_h z_ep.toInt64 (f_MD_mix_h (z_bl motion.toNatClampNeg) (f_MD_mix_h (f_MD_part i z_m z_d z_a z_b) f_MD_begin_h)))) z_n) z_v).toInt64)) + (f_MD_mixed (f_MD_mix_h z_ep.toInt64 (f_MD_mix_h (z_bl motion.toNatClampNeg) (f_MD_mix_h (f_MD_part i z_m z_d z_a z_b) f_MD_begin_h)))))))))]) [4, 0, 1, 2, 3] (by decide) rfl
  exact xw_vret hx hb ht hl0 hP hD hS d_MD_make_166
def f_MD_good (motion : Int32) (i : Int32) (z_n : Int64) (z_m : Int64) (z_d : Int64) (z_a : Int64) (z_b : Int64) (z_v : Int64) (z_bl : Nat → Int64) (z_po : Nat → Int64) (z_pr : Nat → Int32) (z_an : Nat → Int64) : Int32 := if (f_MD_common (z_bl motion.toNatClampNeg) z_n) = (1 : Int64) then (if (z_po (((6 : Int32) * motion) + i).toNatClampNeg) < (0 : Int64) then (0 : Int32) else (if z_n ≤ (z_po (((6 : Int32) * motion) + i).toNatClampNeg) then (0 : Int32) else (if (f_MD_common (z_po (((6 : Int32) * motion) + i).toNatClampNeg) z_n) = (1 : Int64) then (if (z_pr (((6 : Int32) * motion) + i).toNatClampNeg) < 0 then (0 : Int32) else (if (65535 : Int32) < (z_pr (((6 : Int32) * motion) + i).toNatClampNeg) then (0 : Int32) else (if (0 : Int64) ≤ (z_an (((6 : Int32) * motion) + i).toNatClampNeg) then (if (f_MD_challenge (f_MD_raised (z_bl motion.toNatClampNeg) (2880 : Int64) z_n) (f_MD_check i z_n z_m z_d z_a z_b z_v) (((z_po (((6 : Int32) * motion) + i).toNatClampNeg) * (z_po (((6 : Int32) * motion) + i).toNatClampNeg)) - ((z_po (((6 : Int32) * motion) + i).toNatClampNeg) * (z_po (((6 : Int32) * motion) + i).toNatClampNeg)) / z_n * z_n) (((f_MD_raised z_v (z_an (((6 : Int32) * motion) + i).toNatClampNeg) z_n) * (f_MD_inverse (f_MD_raised (f_MD_check i z_n z_m z_d z_a z_b z_v) ((z_pr (((6 : Int32) * motion) + i).toNatClampNeg).toInt64) z_n) z_n)) - ((f_MD_raised z_v (z_an (((6 : Int32) * motion) + i).toNatClampNeg) z_n) * (f_MD_inverse (f_MD_raised (f_MD_check i z_n z_m z_d z_a z_b z_v) ((z_pr (((6 : Int32) * motion) + i).toNatClampNeg).toInt64) z_n) z_n)) / z_n * z_n) (((f_MD_raised (f_MD_raised (z_bl motion.toNatClampNeg) (2880 : Int64) z_n) (z_an (((6 : Int32) * motion) + i).toNatClampNeg) z_n) * (f_MD_inverse (f_MD_raised (((z_po (((6 : Int32) * motion) + i).toNatClampNeg) * (z_po (((6 : Int32) * motion) + i).toNatClampNeg)) - ((z_po (((6 : Int32) * motion) + i).toNatClampNeg) * (z_po (((6 : Int32) * motion) + i).toNatClampNeg)) / z_n * z_n) ((z_pr (((6 : Int32) * motion) + i).toNatClampNeg).toInt64) z_n) z_n)) - ((f_MD_raised (f_MD_raised (z_bl motion.toNatClampNeg) (2880 : Int64) z_n) (z_an (((6 : Int32) * motion) + i).toNatClampNeg) z_n) * (f_MD_inverse (f_MD_raised (((z_po (((6 : Int32) * motion) + i).toNatClampNeg) * (z_po (((6 : Int32) * motion) + i).toNatClampNeg)) - ((z_po (((6 : Int32) * motion) + i).toNatClampNeg) * (z_po (((6 : Int32) * motion) + i).toNatClampNeg)) / z_n * z_n) ((z_pr (((6 : Int32) * motion) + i).toNatClampNeg).toInt64) z_n) z_n)) / z_n * z_n) z_v) = (z_pr (((6 : Int32) * motion) + i).toNatClampNeg) then (1 : Int32) else (0 : Int32)) else (0 : Int32)))) else (0 : Int32)))) else (0 : Int32)
def f_MD_good_h (motion : Int32) (i : Int32) (z_n : Int64) (z_m : Int64) (z_d : Int64) (z_a : Int64) (z_b : Int64) (z_v : Int64) (z_h : Int64) (z_bl : Nat → Int64) (z_po : Nat → Int64) (z_pr : Nat → Int32) (z_an : Nat → Int64) : Int64 := if (f_MD_common (z_bl motion.toNatClampNeg) z_n) = (1 : Int64) then (if (z_po (((6 : Int32) * motion) + i).toNatClampNeg) < (0 : Int64) then z_h else (if z_n ≤ (z_po (((6 : Int32) * motion) + i).toNatClampNeg) then z_h else (if (f_MD_common (z_po (((6 : Int32) * motion) + i).toNatClampNeg) z_n) = (1 : Int64) then (if (z_pr (((6 : Int32) * motion) + i).toNatClampNeg) < 0 then z_h else (if (65535 : Int32) < (z_pr (((6 : Int32) * motion) + i).toNatClampNeg) then z_h else (if (0 : Int64) ≤ (z_an (((6 : Int32) * motion) + i).toNatClampNeg) then (if (f_MD_challenge (f_MD_raised (z_bl motion.toNatClampNeg) (2880 : Int64) z_n) (f_MD_check i z_n z_m z_d z_a z_b z_v) (((z_po (((6 : Int32) * motion) + i).toNatClampNeg) * (z_po (((6 : Int32) * motion) + i).toNatClampNeg)) - ((z_po (((6 : Int32) * motion) + i).toNatClampNeg) * (z_po (((6 : Int32) * motion) + i).toNatClampNeg)) / z_n * z_n) (((f_MD_raised z_v (z_an (((6 : Int32) * motion) + i).toNatClampNeg) z_n) * (f_MD_inverse (f_MD_raised (f_MD_check i z_n z_m z_d z_a z_b z_v) ((z_pr (((6 : Int32) * motion) + i).toNatClampNeg).toInt64) z_n) z_n)) - ((f_MD_raised z_v (z_an (((6 : Int32) * motion) + i).toNatClampNeg) z_n) * (f_MD_inverse (f_MD_raised (f_MD_check i z_n z_m z_d z_a z_b z_v) ((z_pr (((6 : Int32) * motion) + i).toNatClampNeg).toInt64) z_n) z_n)) / z_n * z_n) (((f_MD_raised (f_MD_raised (z_bl motion.toNatClampNeg) (2880 : Int64) z_n) (z_an (((6 : Int32) * motion) + i).toNatClampNeg) z_n) * (f_MD_inverse (f_MD_raised (((z_po (((6 : Int32) * motion) + i).toNatClampNeg) * (z_po (((6 : Int32) * motion) + i).toNatClampNeg)) - ((z_po (((6 : Int32) * motion) + i).toNatClampNeg) * (z_po (((6 : Int32) * motion) + i).toNatClampNeg)) / z_n * z_n) ((z_pr (((6 : Int32) * motion) + i).toNatClampNeg).toInt64) z_n) z_n)) - ((f_MD_raised (f_MD_raised (z_bl motion.toNatClampNeg) (2880 : Int64) z_n) (z_an (((6 : Int32) * motion) + i).toNatClampNeg) z_n) * (f_MD_inverse (f_MD_raised (((z_po (((6 : Int32) * motion) + i).toNatClampNeg) * (z_po (((6 : Int32) * motion) + i).toNatClampNeg)) - ((z_po (((6 : Int32) * motion) + i).toNatClampNeg) * (z_po (((6 : Int32) * motion) + i).toNatClampNeg)) / z_n * z_n) ((z_pr (((6 : Int32) * motion) + i).toNatClampNeg).toInt64) z_n) z_n)) / z_n * z_n) z_v) = (z_pr (((6 : Int32) * motion) + i).toNatClampNeg) then (f_MD_challenge_h (f_MD_raised (z_bl motion.toNatClampNeg) (2880 : Int64) z_n) (f_MD_check i z_n z_m z_d z_a z_b z_v) (((z_po (((6 : Int32) * motion) + i).toNatClampNeg) * (z_po (((6 : Int32) * motion) + i).toNatClampNeg)) - ((z_po (((6 : Int32) * motion) + i).toNatClampNeg) * (z_po (((6 : Int32) * motion) + i).toNatClampNeg)) / z_n * z_n) (((f_MD_raised z_v (z_an (((6 : Int32) * motion) + i).toNatClampNeg) z_n) * (f_MD_inverse (f_MD_raised (f_MD_check i z_n z_m z_d z_a z_b z_v) ((z_pr (((6 : Int32) * motion) + i).toNatClampNeg).toInt64) z_n) z_n)) - ((f_MD_raised z_v (z_an (((6 : Int32) * motion) + i).toNatClampNeg) z_n) * (f_MD_inverse (f_MD_raised (f_MD_check i z_n z_m z_d z_a z_b z_v) ((z_pr (((6 : Int32) * motion) + i).toNatClampNeg).toInt64) z_n) z_n)) / z_n * z_n) (((f_MD_raised (f_MD_raised (z_bl motion.toNatClampNeg) (2880 : Int64) z_n) (z_an (((6 : Int32) * motion) + i).toNatClampNeg) z_n) * (f_MD_inverse (f_MD_raised (((z_po (((6 : Int32) * motion) + i).toNatClampNeg) * (z_po (((6 : Int32) * motion) + i).toNatClampNeg)) - ((z_po (((6 : Int32) * motion) + i).toNatClampNeg) * (z_po (((6 : Int32) * motion) + i).toNatClampNeg)) / z_n * z_n) ((z_pr (((6 : Int32) * motion) + i).toNatClampNeg).toInt64) z_n) z_n)) - ((f_MD_raised (f_MD_raised (z_bl motion.toNatClampNeg) (2880 : Int64) z_n) (z_an (((6 : Int32) * motion) + i).toNatClampNeg) z_n) * (f_MD_inverse (f_MD_raised (((z_po (((6 : Int32) * motion) + i).toNatClampNeg) * (z_po (((6 : Int32) * motion) + i).toNatClampNeg)) - ((z_po (((6 : Int32) * motion) + i).toNatClampNeg) * (z_po (((6 : Int32) * motion) + i).toNatClampNeg)) / z_n * z_n) ((z_pr (((6 : Int32) * motion) + i).toNatClampNeg).toInt64) z_n) z_n)) / z_n * z_n) z_v) else (f_MD_challenge_h (f_MD_raised (z_bl motion.toNatClampNeg) (2880 : Int64) z_n) (f_MD_check i z_n z_m z_d z_a z_b z_v) (((z_po (((6 : Int32) * motion) + i).toNatClampNeg) * (z_po (((6 : Int32) * motion) + i).toNatClampNeg)) - ((z_po (((6 : Int32) * motion) + i).toNatClampNeg) * (z_po (((6 : Int32) * motion) + i).toNatClampNeg)) / z_n * z_n) (((f_MD_raised z_v (z_an (((6 : Int32) * motion) + i).toNatClampNeg) z_n) * (f_MD_inverse (f_MD_raised (f_MD_check i z_n z_m z_d z_a z_b z_v) ((z_pr (((6 : Int32) * motion) + i).toNatClampNeg).toInt64) z_n) z_n)) - ((f_MD_raised z_v (z_an (((6 : Int32) * motion) + i).toNatClampNeg) z_n) * (f_MD_inverse (f_MD_raised (f_MD_check i z_n z_m z_d z_a z_b z_v) ((z_pr (((6 : Int32) * motion) + i).toNatClampNeg).toInt64) z_n) z_n)) / z_n * z_n) (((f_MD_raised (f_MD_raised (z_bl motion.toNatClampNeg) (2880 : Int64) z_n) (z_an (((6 : Int32) * motion) + i).toNatClampNeg) z_n) * (f_MD_inverse (f_MD_raised (((z_po (((6 : Int32) * motion) + i).toNatClampNeg) * (z_po (((6 : Int32) * motion) + i).toNatClampNeg)) - ((z_po (((6 : Int32) * motion) + i).toNatClampNeg) * (z_po (((6 : Int32) * motion) + i).toNatClampNeg)) / z_n * z_n) ((z_pr (((6 : Int32) * motion) + i).toNatClampNeg).toInt64) z_n) z_n)) - ((f_MD_raised (f_MD_raised (z_bl motion.toNatClampNeg) (2880 : Int64) z_n) (z_an (((6 : Int32) * motion) + i).toNatClampNeg) z_n) * (f_MD_inverse (f_MD_raised (((z_po (((6 : Int32) * motion) + i).toNatClampNeg) * (z_po (((6 : Int32) * motion) + i).toNatClampNeg)) - ((z_po (((6 : Int32) * motion) + i).toNatClampNeg) * (z_po (((6 : Int32) * motion) + i).toNatClampNeg)) / z_n * z_n) ((z_pr (((6 : Int32) * motion) + i).toNatClampNeg).toInt64) z_n) z_n)) / z_n * z_n) z_v)) else z_h))) else z_h))) else z_h
set_option maxHeartbeats 4000000 in
set_option maxRecDepth 100000 in
theorem ct_MD_good (l : Launch) {G : xg_G} (hg : xg_F G) (H : Heap) (y_ : Nat) (motion : Int32) (i : Int32) (z_th : Int32) (z_n : Int64) (z_m : Int64) (z_d : Int64) (z_a : Int64) (z_b : Int64) (z_v : Int64) (z_ep : Int32) (z_su : Int32) (a_buf : Nat) (z_by : Int32) (z_mo : Int32) (a_st : Nat) (a_bl : Nat) (a_fi : Nat) (a_ob : Nat) (a_si : Nat) (a_po : Nat) (a_pr : Nat) (a_an : Nat) (z_bk : Int32) (a_bo : Nat) (z_h : Int64) (z_bl : Nat → Int64) (z_po : Nat → Int64) (z_pr : Nat → Int32) (z_an : Nat → Int64) (hP : va_P G.2.1 cl_all [(y_, .inr (4, [.int z_th, .long z_n, .long z_m, .long z_d, .long z_a, .long z_b, .long z_v, .int z_ep, .int z_su, .ref a_buf, .int z_by, .int z_mo, .ref a_st, .ref a_bl, .ref a_fi, .ref a_ob, .ref a_si, .ref a_po, .ref a_pr, .ref a_an, .int z_bk, .ref a_bo, .long z_h])), (a_bl, .inl (G.2.2.2.1, 12, .inr (.inl z_bl))), (a_po, .inl (G.2.2.2.1, 72, .inr (.inl z_po))), (a_pr, .inl (G.2.2.1, 72, .inl z_pr)), (a_an, .inl (G.2.2.2.1, 72, .inr (.inl z_an)))] H) (hD0 : va_D (fun _ => True) [(y_, .inr (4, [.int z_th, .long z_n, .long z_m, .long z_d, .long z_a, .long z_b, .long z_v, .int z_ep, .int z_su, .ref a_buf, .int z_by, .int z_mo, .ref a_st, .ref a_bl, .ref a_fi, .ref a_ob, .ref a_si, .ref a_po, .ref a_pr, .ref a_an, .int z_bk, .ref a_bo, .long z_h])), (a_bl, .inl (G.2.2.2.1, 12, .inr (.inl z_bl))), (a_po, .inl (G.2.2.2.1, 72, .inr (.inl z_po))), (a_pr, .inl (G.2.2.1, 72, .inl z_pr)), (a_an, .inl (G.2.2.2.1, 72, .inr (.inl z_an)))]) (hm : ¬ z_m = 0) (hn : ¬ z_n = 0) (hI : vp_in motion 12) (hT : vp_in i 6) : xc_Met l y_MD_good (.code y_MD_good b_MD_good 18 (some .boolean)) ({ frames := 2, cells := 0, slots := 0, locals := 39 } : Room) (xg_Pc G [.ref y_, .int motion, .int i] H) (xw_post G (va_A [(y_, .inr (4, [.int z_th, .long z_n, .long z_m, .long z_d, .long z_a, .long z_b, .long z_v, .int z_ep, .int z_su, .ref a_buf, .int z_by, .int z_mo, .ref a_st, .ref a_bl, .ref a_fi, .ref a_ob, .ref a_si, .ref a_po, .ref a_pr, .ref a_an, .int z_bk, .ref a_bo, .long z_h])), (a_bl, .inl (G.2.2.2.1, 12, .inr (.inl z_bl))), (a_po, .inl (G.2.2.2.1, 72, .inr (.inl z_po))), (a_pr, .inl (G.2.2.1, 72, .inl z_pr)), (a_an, .inl (G.2.2.2.1, 72, .inr (.inl z_an)))] H.size) (some (.int (f_MD_good motion i z_n z_m z_d z_a z_b z_v z_bl z_po z_pr z_an))) [(y_, .inr (4, [.int z_th, .long z_n, .long z_m, .long z_d, .long z_a, .long z_b, .long z_v, .int z_ep, .int z_su, .ref a_buf, .int z_by, .int z_mo, .ref a_st, .ref a_bl, .ref a_fi, .ref a_ob, .ref a_si, .ref a_po, .ref a_pr, .ref a_an, .int z_bk, .ref a_bo, .long (f_MD_good_h motion i z_n z_m z_d z_a z_b z_v z_h z_bl z_po z_pr z_an)])), (a_bl, .inl (G.2.2.2.1, 12, .inr (.inl z_bl))), (a_po, .inl (G.2.2.2.1, 72, .inr (.inl z_po))), (a_pr, .inl (G.2.2.1, 72, .inl z_pr)), (a_an, .inl (G.2.2.2.1, 72, .inr (.inl z_an)))]) (va_A [(y_, .inr (4, [.int z_th, .long z_n, .long z_m, .long z_d, .long z_a, .long z_b, .long z_v, .int z_ep, .int z_su, .ref a_buf, .int z_by, .int z_mo, .ref a_st, .ref a_bl, .ref a_fi, .ref a_ob, .ref a_si, .ref a_po, .ref a_pr, .ref a_an, .int z_bk, .ref a_bo, .long z_h])), (a_bl, .inl (G.2.2.2.1, 12, .inr (.inl z_bl))), (a_po, .inl (G.2.2.2.1, 72, .inr (.inl z_po))), (a_pr, .inl (G.2.2.1, 72, .inl z_pr)), (a_an, .inl (G.2.2.2.1, 72, .inr (.inl z_an)))] H.size) := by
  refine xc_ofW (by decide) ?_
  intro p e s m args below meth c s₁ B hml hE hv
  obtain ⟨rfl, rfl, hw⟩ := hv
  have hx := B.exec
  have hb := B.bytes
  have ht := B.returns
  have hl0 := B.notSynchronized
  have S : xc_Fix p m c b_MD_good 18 s "SealTrustModel" := ⟨hx, hb, hml, findClass_of_methodNamed B.named⟩
  have hD := hD0.self (sz := s.heap.size)
  generalize hAe : va_A [(y_, .inr (4, [.int z_th, .long z_n, .long z_m, .long z_d, .long z_a, .long z_b, .long z_v, .int z_ep, .int z_su, .ref a_buf, .int z_by, .int z_mo, .ref a_st, .ref a_bl, .ref a_fi, .ref a_ob, .ref a_si, .ref a_po, .ref a_pr, .ref a_an, .int z_bk, .ref a_bo, .long z_h])), (a_bl, .inl (G.2.2.2.1, 12, .inr (.inl z_bl))), (a_po, .inl (G.2.2.2.1, 72, .inr (.inl z_po))), (a_pr, .inl (G.2.2.1, 72, .inl z_pr)), (a_an, .inl (G.2.2.2.1, 72, .inr (.inl z_an)))] s.heap.size = A at hD ⊢
  have hA : ∀ q : Nat, s.heap.size ≤ q → A q := fun q h => by rw [← hAe]; exact Or.inr h
  have hS : va_S A s.heap s.heap [] := va_S.rf
  have hl := lv_entry ([.ref y_, .int motion, .int i]) (n := 18) (Nat.le_of_ble_eq_true rfl)
  rw [lg_entry_eq]
  generalize (lg_sl ([.ref y_, .int motion, .int i]) ++ List.replicate (18 - (lg_sl ([.ref y_, .int motion, .int i])).length) Slot.unset).toArray = ls at hl ⊢
  have hl : lv_has ls 18 [(0, .ref y_), (1, .int motion), (2, .int i)] := hl
  obtain ⟨r0, hr0⟩ : ∃ r, f_MD_good motion i z_n z_m z_d z_a z_b z_v z_bl z_po z_pr z_an = r := ⟨_, rfl⟩
  rw [hr0]
  unfold f_MD_good at hr0
  obtain ⟨r1, hr1⟩ : ∃ r, f_MD_good_h motion i z_n z_m z_d z_a z_b z_v z_h z_bl z_po z_pr z_an = r := ⟨_, rfl⟩
  rw [hr1]
  unfold f_MD_good_h at hr1
  refine lv_aload_n hx hb d_MD_good_0 rfl (lv_at hl 0 rfl) ?_
  refine gf_MD_51 hg hw S hP 0 rfl rfl d_MD_good_1 ?_
  refine lv_iload_n hx hb d_MD_good_4 rfl (lv_at hl 1 rfl) ?_
  refine va_lald hx hb (xg_k hg hw) hP 1 1 rfl rfl hI d_MD_good_5 ?_
  refine lv_lstore_n hx hb d_MD_good_6 rfl hl (by decide) rfl (fun ls hl => ?_)
  have hl : lv_has ls 18 [(3, .long (z_bl motion.toNatClampNeg)), (0, .ref y_), (1, .int motion), (2, .int i)] := hl
  refine lv_aload_n hx hb d_MD_good_7 rfl (lv_at hl 1 rfl) ?_
  refine gf_MD_64 hg hw S hP 0 rfl rfl d_MD_good_8 ?_
  refine lv_bipush (v := (6 : Int32)) hx hb d_MD_good_11 (by decide) ?_
  refine lv_iload_n hx hb d_MD_good_13 rfl (lv_at hl 2 rfl) ?_
  refine lv_imul hx hb d_MD_good_14 ?_
  refine lv_iload_n hx hb d_MD_good_15 rfl (lv_at hl 3 rfl) ?_
  refine lv_iadd hx hb d_MD_good_16 ?_
  refine va_lald hx hb (xg_k hg hw) hP 2 1 rfl rfl (xs_72 hI hT) d_MD_good_17 ?_
  refine lv_lstore hx hb d_MD_good_18 hl (by decide) rfl (fun ls hl => ?_)
  have hl : lv_has ls 18 [(5, .long (z_po (((6 : Int32) * motion) + i).toNatClampNeg)), (3, .long (z_bl motion.toNatClampNeg)), (0, .ref y_), (1, .int motion), (2, .int i)] := hl
  refine lv_aload_n hx hb d_MD_good_20 rfl (lv_at hl 2 rfl) ?_
  refine gf_MD_67 hg hw S hP 0 rfl rfl d_MD_good_21 ?_
  refine lv_bipush (v := (6 : Int32)) hx hb d_MD_good_24 (by decide) ?_
  refine lv_iload_n hx hb d_MD_good_26 rfl (lv_at hl 3 rfl) ?_
  refine lv_imul hx hb d_MD_good_27 ?_
  refine lv_iload_n hx hb d_MD_good_28 rfl (lv_at hl 4 rfl) ?_
  refine lv_iadd hx hb d_MD_good_29 ?_
  refine va_iald hx hb (xg_k hg hw) hP 3 0 rfl rfl (xs_72 hI hT) d_MD_good_30 ?_
  refine lv_istore hx hb d_MD_good_31 hl (by decide) rfl (fun ls hl => ?_)
  have hl : lv_has ls 18 [(7, .int (z_pr (((6 : Int32) * motion) + i).toNatClampNeg)), (5, .long (z_po (((6 : Int32) * motion) + i).toNatClampNeg)), (3, .long (z_bl motion.toNatClampNeg)), (0, .ref y_), (1, .int motion), (2, .int i)] := hl
  refine lv_aload_n hx hb d_MD_good_33 rfl (lv_at hl 3 rfl) ?_
  refine gf_MD_70 hg hw S hP 0 rfl rfl d_MD_good_34 ?_
  refine lv_bipush (v := (6 : Int32)) hx hb d_MD_good_37 (by decide) ?_
  refine lv_iload_n hx hb d_MD_good_39 rfl (lv_at hl 4 rfl) ?_
  refine lv_imul hx hb d_MD_good_40 ?_
  refine lv_iload_n hx hb d_MD_good_41 rfl (lv_at hl 5 rfl) ?_
  refine lv_iadd hx hb d_MD_good_42 ?_
  refine va_lald hx hb (xg_k hg hw) hP 4 1 rfl rfl (xs_72 hI hT) d_MD_good_43 ?_
  refine lv_lstore hx hb d_MD_good_44 hl (by decide) rfl (fun ls hl => ?_)
  have hl : lv_has ls 18 [(8, .long (z_an (((6 : Int32) * motion) + i).toNatClampNeg)), (7, .int (z_pr (((6 : Int32) * motion) + i).toNatClampNeg)), (5, .long (z_po (((6 : Int32) * motion) + i).toNatClampNeg)), (3, .long (z_bl motion.toNatClampNeg)), (0, .ref y_), (1, .int motion), (2, .int i)] := hl
  refine lv_lload_n hx hb d_MD_good_46 rfl (lv_at hl 3 rfl) ?_
  refine lv_aload_n hx hb d_MD_good_47 rfl (lv_at hl 4 rfl) ?_
  refine gf_MD_13 hg hw S hP 0 rfl rfl d_MD_good_48 ?_
  refine xg_read (xg_runS (rest := []) (kw := 0) si_MD_126 hg hw S (ct_MD_common l hg s.heap (z_bl motion.toNatClampNeg) z_n ) ⟨by decide, by decide, by decide, by decide⟩ rfl hl.1 rfl (Nat.le_of_ble_eq_true rfl) d_MD_good_51) ?_
  refine lv_lconst (v := (1 : Int64)) hx hb d_MD_good_54 (by decide) ?_
  refine W.lcmp hx hb d_MD_good_55 ?_
  refine lv_if_ne hx hb d_MD_good_56 (tgt := 109) (by decide) (fun h56 => ?_) (fun h56 => ?_)
  · rw [lg_cmp_eq] at h56
    rw [if_neg h56] at hr0
    rw [if_neg h56] at hr1
    refine lv_iconst (v := (0 : Int32)) hx hb d_MD_good_109 (by decide) ?_
    subst hr0
    subst hr1
    exact xw_zret hx hb ht hl0 rfl hP hD hS d_MD_good_110
  · rw [lg_cmp_eq] at h56
    rw [if_pos h56] at hr0
    rw [if_pos h56] at hr1
    refine lv_lload hx hb d_MD_good_59 (lv_at hl 2 rfl) ?_
    refine lv_lconst (v := (0 : Int64)) hx hb d_MD_good_61 (by decide) ?_
    refine W.lcmp hx hb d_MD_good_62 ?_
    refine lv_if_lt hx hb d_MD_good_63 (tgt := 109) (by decide) (fun h63 => ?_) (fun h63 => ?_)
    · rw [lg_cmp_lt] at h63
      rw [if_pos h63] at hr0
      rw [if_pos h63] at hr1
      refine lv_iconst (v := (0 : Int32)) hx hb d_MD_good_109 (by decide) ?_
      subst hr0
      subst hr1
      exact xw_zret hx hb ht hl0 rfl hP hD hS d_MD_good_110
    · rw [lg_cmp_lt] at h63
      rw [if_neg h63] at hr0
      rw [if_neg h63] at hr1
      refine lv_lload hx hb d_MD_good_66 (lv_at hl 2 rfl) ?_
      refine lv_aload_n hx hb d_MD_good_68 rfl (lv_at hl 4 rfl) ?_
      refine gf_MD_13 hg hw S hP 0 rfl rfl d_MD_good_69 ?_
      refine W.lcmp hx hb d_MD_good_72 ?_
      refine lv_if_ge hx hb d_MD_good_73 (tgt := 109) (by decide) (fun h73 => ?_) (fun h73 => ?_)
      · rw [lg_cmp_ge] at h73
        rw [if_pos h73] at hr0
        rw [if_pos h73] at hr1
        refine lv_iconst (v := (0 : Int32)) hx hb d_MD_good_109 (by decide) ?_
        subst hr0
        subst hr1
        exact xw_zret hx hb ht hl0 rfl hP hD hS d_MD_good_110
      · rw [lg_cmp_ge] at h73
        rw [if_neg h73] at hr0
        rw [if_neg h73] at hr1
        refine lv_lload hx hb d_MD_good_76 (lv_at hl 2 rfl) ?_
        refine lv_aload_n hx hb d_MD_good_78 rfl (lv_at hl 4 rfl) ?_
        refine gf_MD_13 hg hw S hP 0 rfl rfl d_MD_good_79 ?_
        refine xg_read (xg_runS (rest := []) (kw := 0) si_MD_126 hg hw S (ct_MD_common l hg s.heap (z_po (((6 : Int32) * motion) + i).toNatClampNeg) z_n ) ⟨by decide, by decide, by decide, by decide⟩ rfl hl.1 rfl (Nat.le_of_ble_eq_true rfl) d_MD_good_82) ?_
        refine lv_lconst (v := (1 : Int64)) hx hb d_MD_good_85 (by decide) ?_
        refine W.lcmp hx hb d_MD_good_86 ?_
        refine lv_if_ne hx hb d_MD_good_87 (tgt := 109) (by decide) (fun h87 => ?_) (fun h87 => ?_)
        · rw [lg_cmp_eq] at h87
          rw [if_neg h87] at hr0
          rw [if_neg h87] at hr1
          refine lv_iconst (v := (0 : Int32)) hx hb d_MD_good_109 (by decide) ?_
          subst hr0
          subst hr1
          exact xw_zret hx hb ht hl0 rfl hP hD hS d_MD_good_110
        · rw [lg_cmp_eq] at h87
          rw [if_pos h87] at hr0
          rw [if_pos h87] at hr1
          refine lv_iload hx hb d_MD_good_90 (lv_at hl 1 rfl) ?_
          refine lv_if_lt hx hb d_MD_good_92 (tgt := 109) (by decide) (fun h92 => ?_) (fun h92 => ?_)
          · rw [if_pos h92] at hr0
            rw [if_pos h92] at hr1
            refine lv_iconst (v := (0 : Int32)) hx hb d_MD_good_109 (by decide) ?_
            subst hr0
            subst hr1
            exact xw_zret hx hb ht hl0 rfl hP hD hS d_MD_good_110
          · rw [if_neg h92] at hr0
            rw [if_neg h92] at hr1
            refine lv_iload hx hb d_MD_good_95 (lv_at hl 1 rfl) ?_
            refine kc_MD_130 hg hw S d_MD_good_97 ?_
            refine lv_icmp_gt hx hb d_MD_good_99 (tgt := 109) (by decide) (fun h99 => ?_) (fun h99 => ?_)
            · rw [if_pos h99] at hr0
              rw [if_pos h99] at hr1
              refine lv_iconst (v := (0 : Int32)) hx hb d_MD_good_109 (by decide) ?_
              subst hr0
              subst hr1
              exact xw_zret hx hb ht hl0 rfl hP hD hS d_MD_good_110
            · rw [if_neg h99] at hr0
              rw [if_neg h99] at hr1
              refine lv_lload hx hb d_MD_good_102 (lv_at hl 0 rfl) ?_
              refine lv_lconst (v := (0 : Int64)) hx hb d_MD_good_104 (by decide) ?_
              refine W.lcmp hx hb d_MD_good_105 ?_
              refine lv_if_ge hx hb d_MD_good_106 (tgt := 111) (by decide) (fun h106 => ?_) (fun h106 => ?_)
              · rw [lg_cmp_ge] at h106
                rw [if_pos h106] at hr0
                rw [if_pos h106] at hr1
                refine lv_lload_n hx hb d_MD_good_111 rfl (lv_at hl 3 rfl) ?_
                refine kc_MD_117 hg hw S d_MD_good_112 ?_
                refine lv_aload_n hx hb d_MD_good_115 rfl (lv_at hl 4 rfl) ?_
                refine gf_MD_13 hg hw S hP 0 rfl rfl d_MD_good_116 ?_
                refine xg_read (xg_runS (rest := []) (kw := 0) si_MD_96 hg hw S (ct_MD_raised l hg s.heap (z_bl motion.toNatClampNeg) (2880 : Int64) z_n hn) ⟨by decide, by decide, by decide, by decide⟩ rfl hl.1 rfl (Nat.le_of_ble_eq_true rfl) d_MD_good_119) ?_
                refine lv_lstore hx hb d_MD_good_122 hl (by decide) rfl (fun ls hl => ?_)
                have hl : lv_has ls 18 [(10, .long (f_MD_raised (z_bl motion.toNatClampNeg) (2880 : Int64) z_n)), (8, .long (z_an (((6 : Int32) * motion) + i).toNatClampNeg)), (7, .int (z_pr (((6 : Int32) * motion) + i).toNatClampNeg)), (5, .long (z_po (((6 : Int32) * motion) + i).toNatClampNeg)), (3, .long (z_bl motion.toNatClampNeg)), (0, .ref y_), (1, .int motion), (2, .int i)] := hl
                refine lv_lload hx hb d_MD_good_124 (lv_at hl 3 rfl) ?_
                refine lv_lload hx hb d_MD_good_126 (lv_at hl 3 rfl) ?_
                refine lv_lmul hx hb d_MD_good_128 ?_
                refine lv_aload_n hx hb d_MD_good_129 rfl (lv_at hl 5 rfl) ?_
                refine gf_MD_13 hg hw S hP 0 rfl rfl d_MD_good_130 ?_
                refine lv_lrem hx hb d_MD_good_133 hn ?_
                refine lv_lstore hx hb d_MD_good_134 hl (by decide) rfl (fun ls hl => ?_)
                have hl : lv_has ls 18 [(12, .long (((z_po (((6 : Int32) * motion) + i).toNatClampNeg) * (z_po (((6 : Int32) * motion) + i).toNatClampNeg)) - ((z_po (((6 : Int32) * motion) + i).toNatClampNeg) * (z_po (((6 : Int32) * motion) + i).toNatClampNeg)) / z_n * z_n)), (10, .long (f_MD_raised (z_bl motion.toNatClampNeg) (2880 : Int64) z_n)), (8, .long (z_an (((6 : Int32) * motion) + i).toNatClampNeg)), (7, .int (z_pr (((6 : Int32) * motion) + i).toNatClampNeg)), (5, .long (z_po (((6 : Int32) * motion) + i).toNatClampNeg)), (3, .long (z_bl motion.toNatClampNeg)), (0, .ref y_), (1, .int motion), (2, .int i)] := hl
                refine lv_aload_n hx hb d_MD_good_136 rfl (lv_at hl 6 rfl) ?_
                refine gf_MD_29 hg hw S hP 0 rfl rfl d_MD_good_137 ?_
                refine lv_lload hx hb d_MD_good_140 (lv_at hl 2 rfl) ?_
                refine lv_aload_n hx hb d_MD_good_142 rfl (lv_at hl 6 rfl) ?_
                refine gf_MD_13 hg hw S hP 0 rfl rfl d_MD_good_143 ?_
                refine xg_read (xg_runS (rest := []) (kw := 0) si_MD_96 hg hw S (ct_MD_raised l hg s.heap z_v (z_an (((6 : Int32) * motion) + i).toNatClampNeg) z_n hn) ⟨by decide, by decide, by decide, by decide⟩ rfl hl.1 rfl (Nat.le_of_ble_eq_true rfl) d_MD_good_146) ?_
                refine lv_aload_n hx hb d_MD_good_149 rfl (lv_at hl 6 rfl) ?_
                refine lv_iload_n hx hb d_MD_good_150 rfl (lv_at hl 8 rfl) ?_
                refine xg_read (xg_runV (rest := [.long (f_MD_raised z_v (z_an (((6 : Int32) * motion) + i).toNatClampNeg) z_n)]) (kw := 2) si_MD_119 hg hw S (va_recv (xg_k hg hw) hP (ci := 4) rfl (q0 := 0) rfl) (ct_MD_check l hg s.heap y_ i z_th z_n z_m z_d z_a z_b z_v z_ep z_su a_buf z_by z_mo a_st a_bl a_fi a_ob a_si a_po a_pr a_an z_bk a_bo z_h (hP.sub [0] rfl) hm hn) ⟨by decide, by decide, by decide, by decide⟩ rfl hl.1 rfl (Nat.le_of_ble_eq_true rfl) d_MD_good_151) ?_
                refine lv_iload hx hb d_MD_good_154 (lv_at hl 3 rfl) ?_
                refine lv_i2l hx hb d_MD_good_156 rfl ?_
                refine lv_aload_n hx hb d_MD_good_157 rfl (lv_at hl 6 rfl) ?_
                refine gf_MD_13 hg hw S hP 0 rfl rfl d_MD_good_158 ?_
                refine xg_read (xg_runS (rest := [.long (f_MD_raised z_v (z_an (((6 : Int32) * motion) + i).toNatClampNeg) z_n)]) (kw := 2) si_MD_96 hg hw S (ct_MD_raised l hg s.heap (f_MD_check i z_n z_m z_d z_a z_b z_v) ((z_pr (((6 : Int32) * motion) + i).toNatClampNeg).toInt64) z_n hn) ⟨by decide, by decide, by decide, by decide⟩ rfl hl.1 rfl (Nat.le_of_ble_eq_true rfl) d_MD_good_161) ?_
                refine lv_aload_n hx hb d_MD_good_164 rfl (lv_at hl 6 rfl) ?_
                refine gf_MD_13 hg hw S hP 0 rfl rfl d_MD_good_165 ?_
                refine xg_read (xg_runS (rest := [.long (f_MD_raised z_v (z_an (((6 : Int32) * motion) + i).toNatClampNeg) z_n)]) (kw := 2) si_MD_131 hg hw S (ct_MD_inverse l hg s.heap (f_MD_raised (f_MD_check i z_n z_m z_d z_a z_b z_v) ((z_pr (((6 : Int32) * motion) + i).toNatClampNeg).toInt64) z_n) z_n hn) ⟨by decide, by decide, by decide, by decide⟩ rfl hl.1 rfl (Nat.le_of_ble_eq_true rfl) d_MD_good_168) ?_
                refine lv_lmul hx hb d_MD_good_171 ?_
                refine lv_aload_n hx hb d_MD_good_172 rfl (lv_at hl 6 rfl) ?_
                refine gf_MD_13 hg hw S hP 0 rfl rfl d_MD_good_173 ?_
                refine lv_lrem hx hb d_MD_good_176 hn ?_
                refine lv_lstore hx hb d_MD_good_177 hl (by decide) rfl (fun ls hl => ?_)
                have hl : lv_has ls 18 [(14, .long (((f_MD_raised z_v (z_an (((6 : Int32) * motion) + i).toNatClampNeg) z_n) * (f_MD_inverse (f_MD_raised (f_MD_check i z_n z_m z_d z_a z_b z_v) ((z_pr (((6 : Int32) * motion) + i).toNatClampNeg).toInt64) z_n) z_n)) - ((f_MD_raised z_v (z_an (((6 : Int32) * motion) + i).toNatClampNeg) z_n) * (f_MD_inverse (f_MD_raised (f_MD_check i z_n z_m z_d z_a z_b z_v) ((z_pr (((6 : Int32) * motion) + i).toNatClampNeg).toInt64) z_n) z_n)) / z_n * z_n)), (12, .long (((z_po (((6 : Int32) * motion) + i).toNatClampNeg) * (z_po (((6 : Int32) * motion) + i).toNatClampNeg)) - ((z_po (((6 : Int32) * motion) + i).toNatClampNeg) * (z_po (((6 : Int32) * motion) + i).toNatClampNeg)) / z_n * z_n)), (10, .long (f_MD_raised (z_bl motion.toNatClampNeg) (2880 : Int64) z_n)), (8, .long (z_an (((6 : Int32) * motion) + i).toNatClampNeg)), (7, .int (z_pr (((6 : Int32) * motion) + i).toNatClampNeg)), (5, .long (z_po (((6 : Int32) * motion) + i).toNatClampNeg)), (3, .long (z_bl motion.toNatClampNeg)), (0, .ref y_), (1, .int motion), (2, .int i)] := hl
                refine lv_lload hx hb d_MD_good_179 (lv_at hl 2 rfl) ?_
                refine lv_lload hx hb d_MD_good_181 (lv_at hl 3 rfl) ?_
                refine lv_aload_n hx hb d_MD_good_183 rfl (lv_at hl 7 rfl) ?_
                refine gf_MD_13 hg hw S hP 0 rfl rfl d_MD_good_184 ?_
                refine xg_read (xg_runS (rest := []) (kw := 0) si_MD_96 hg hw S (ct_MD_raised l hg s.heap (f_MD_raised (z_bl motion.toNatClampNeg) (2880 : Int64) z_n) (z_an (((6 : Int32) * motion) + i).toNatClampNeg) z_n hn) ⟨by decide, by decide, by decide, by decide⟩ rfl hl.1 rfl (Nat.le_of_ble_eq_true rfl) d_MD_good_187) ?_
                refine lv_lload hx hb d_MD_good_190 (lv_at hl 1 rfl) ?_
                refine lv_iload hx hb d_MD_good_192 (lv_at hl 4 rfl) ?_
                refine lv_i2l hx hb d_MD_good_194 rfl ?_
                refine lv_aload_n hx hb d_MD_good_195 rfl (lv_at hl 7 rfl) ?_
                refine gf_MD_13 hg hw S hP 0 rfl rfl d_MD_good_196 ?_
                refine xg_read (xg_runS (rest := [.long (f_MD_raised (f_MD_raised (z_bl motion.toNatClampNeg) (2880 : Int64) z_n) (z_an (((6 : Int32) * motion) + i).toNatClampNeg) z_n)]) (kw := 2) si_MD_96 hg hw S (ct_MD_raised l hg s.heap (((z_po (((6 : Int32) * motion) + i).toNatClampNeg) * (z_po (((6 : Int32) * motion) + i).toNatClampNeg)) - ((z_po (((6 : Int32) * motion) + i).toNatClampNeg) * (z_po (((6 : Int32) * motion) + i).toNatClampNeg)) / z_n * z_n) ((z_pr (((6 : Int32) * motion) + i).toNatClampNeg).toInt64) z_n hn) ⟨by decide, by decide, by decide, by decide⟩ rfl hl.1 rfl (Nat.le_of_ble_eq_true rfl) d_MD_good_199) ?_
                refine lv_aload_n hx hb d_MD_good_202 rfl (lv_at hl 7 rfl) ?_
                refine gf_MD_13 hg hw S hP 0 rfl rfl d_MD_good_203 ?_
                refine xg_read (xg_runS (rest := [.long (f_MD_raised (f_MD_raised (z_bl motion.toNatClampNeg) (2880 : Int64) z_n) (z_an (((6 : Int32) * motion) + i).toNatClampNeg) z_n)]) (kw := 2) si_MD_131 hg hw S (ct_MD_inverse l hg s.heap (f_MD_raised (((z_po (((6 : Int32) * motion) + i).toNatClampNeg) * (z_po (((6 : Int32) * motion) + i).toNatClampNeg)) - ((z_po (((6 : Int32) * motion) + i).toNatClampNeg) * (z_po (((6 : Int32) * motion) + i).toNatClampNeg)) / z_n * z_n) ((z_pr (((6 : Int32) * motion) + i).toNatClampNeg).toInt64) z_n) z_n hn) ⟨by decide, by decide, by decide, by decide⟩ rfl hl.1 rfl (Nat.le_of_ble_eq_true rfl) d_MD_good_206) ?_
                refine lv_lmul hx hb d_MD_good_209 ?_
                refine lv_aload_n hx hb d_MD_good_210 rfl (lv_at hl 7 rfl) ?_
                refine gf_MD_13 hg hw S hP 0 rfl rfl d_MD_good_211 ?_
                refine lv_lrem hx hb d_MD_good_214 hn ?_
                refine lv_lstore hx hb d_MD_good_215 hl (by decide) rfl (fun ls hl => ?_)
                have hl : lv_has ls 18 [(16, .long (((f_MD_raised (f_MD_raised (z_bl motion.toNatClampNeg) (2880 : Int64) z_n) (z_an (((6 : Int32) * motion) + i).toNatClampNeg) z_n) * (f_MD_inverse (f_MD_raised (((z_po (((6 : Int32) * motion) + i).toNatClampNeg) * (z_po (((6 : Int32) * motion) + i).toNatClampNeg)) - ((z_po (((6 : Int32) * motion) + i).toNatClampNeg) * (z_po (((6 : Int32) * motion) + i).toNatClampNeg)) / z_n * z_n) ((z_pr (((6 : Int32) * motion) + i).toNatClampNeg).toInt64) z_n) z_n)) - ((f_MD_raised (f_MD_raised (z_bl motion.toNatClampNeg) (2880 : Int64) z_n) (z_an (((6 : Int32) * motion) + i).toNatClampNeg) z_n) * (f_MD_inverse (f_MD_raised (((z_po (((6 : Int32) * motion) + i).toNatClampNeg) * (z_po (((6 : Int32) * motion) + i).toNatClampNeg)) - ((z_po (((6 : Int32) * motion) + i).toNatClampNeg) * (z_po (((6 : Int32) * motion) + i).toNatClampNeg)) / z_n * z_n) ((z_pr (((6 : Int32) * motion) + i).toNatClampNeg).toInt64) z_n) z_n)) / z_n * z_n)), (14, .long (((f_MD_raised z_v (z_an (((6 : Int32) * motion) + i).toNatClampNeg) z_n) * (f_MD_inverse (f_MD_raised (f_MD_check i z_n z_m z_d z_a z_b z_v) ((z_pr (((6 : Int32) * motion) + i).toNatClampNeg).toInt64) z_n) z_n)) - ((f_MD_raised z_v (z_an (((6 : Int32) * motion) + i).toNatClampNeg) z_n) * (f_MD_inverse (f_MD_raised (f_MD_check i z_n z_m z_d z_a z_b z_v) ((z_pr (((6 : Int32) * motion) + i).toNatClampNeg).toInt64) z_n) z_n)) / z_n * z_n)), (12, .long (((z_po (((6 : Int32) * motion) + i).toNatClampNeg) * (z_po (((6 : Int32) * motion) + i).toNatClampNeg)) - ((z_po (((6 : Int32) * motion) + i).toNatClampNeg) * (z_po (((6 : Int32) * motion) + i).toNatClampNeg)) / z_n * z_n)), (10, .long (f_MD_raised (z_bl motion.toNatClampNeg) (2880 : Int64) z_n)), (8, .long (z_an (((6 : Int32) * motion) + i).toNatClampNeg)), (7, .int (z_pr (((6 : Int32) * motion) + i).toNatClampNeg)), (5, .long (z_po (((6 : Int32) * motion) + i).toNatClampNeg)), (3, .long (z_bl motion.toNatClampNeg)), (0, .ref y_), (1, .int motion), (2, .int i)] := hl
                refine lv_aload_n hx hb d_MD_good_217 rfl (lv_at hl 8 rfl) ?_
                refine lv_lload hx hb d_MD_good_218 (lv_at hl 3 rfl) ?_
                refine lv_aload_n hx hb d_MD_good_220 rfl (lv_at hl 8 rfl) ?_
                refine lv_iload_n hx hb d_MD_good_221 rfl (lv_at hl 10 rfl) ?_
                refine xg_read (xg_runV (rest := [.long (f_MD_raised (z_bl motion.toNatClampNeg) (2880 : Int64) z_n), .ref y_]) (kw := 3) si_MD_119 hg hw S (va_recv (xg_k hg hw) hP (ci := 4) rfl (q0 := 0) rfl) (ct_MD_check l hg s.heap y_ i z_th z_n z_m z_d z_a z_b z_v z_ep z_su a_buf z_by z_mo a_st a_bl a_fi a_ob a_si a_po a_pr a_an z_bk a_bo z_h (hP.sub [0] rfl) hm hn) ⟨by decide, by decide, by decide, by decide⟩ rfl hl.1 rfl (Nat.le_of_ble_eq_true rfl) d_MD_good_222) ?_
                refine lv_lload hx hb d_MD_good_225 (lv_at hl 2 rfl) ?_
                refine lv_lload hx hb d_MD_good_227 (lv_at hl 1 rfl) ?_
                refine lv_lload hx hb d_MD_good_229 (lv_at hl 0 rfl) ?_
                refine xw_use (wc := [(y_, .inr (4, [.int z_th, .long z_n, .long z_m, .long z_d, .long z_a, .long z_b, .long z_v, .int z_ep, .int z_su, .ref a_buf, .int z_by, .int z_mo, .ref a_st, .ref a_bl, .ref a_fi, .ref a_ob, .ref a_si, .ref a_po, .ref a_pr, .ref a_an, .int z_bk, .ref a_bo, .long z_h]))]) (wr := [(a_bl, .inl (G.2.2.2.1, 12, .inr (.inl z_bl))), (a_po, .inl (G.2.2.2.1, 72, .inr (.inl z_po))), (a_pr, .inl (G.2.2.1, 72, .inl z_pr)), (a_an, .inl (G.2.2.2.1, 72, .inr (.inl z_an)))]) (xg_runV (rest := []) (kw := 0) si_MD_122 hg hw S (va_recv (xg_k hg hw) hP (ci := 4) rfl (q0 := 0) rfl) (ct_MD_challenge l hg s.heap y_ (f_MD_raised (z_bl motion.toNatClampNeg) (2880 : Int64) z_n) (f_MD_check i z_n z_m z_d z_a z_b z_v) (((z_po (((6 : Int32) * motion) + i).toNatClampNeg) * (z_po (((6 : Int32) * motion) + i).toNatClampNeg)) - ((z_po (((6 : Int32) * motion) + i).toNatClampNeg) * (z_po (((6 : Int32) * motion) + i).toNatClampNeg)) / z_n * z_n) (((f_MD_raised z_v (z_an (((6 : Int32) * motion) + i).toNatClampNeg) z_n) * (f_MD_inverse (f_MD_raised (f_MD_check i z_n z_m z_d z_a z_b z_v) ((z_pr (((6 : Int32) * motion) + i).toNatClampNeg).toInt64) z_n) z_n)) - ((f_MD_raised z_v (z_an (((6 : Int32) * motion) + i).toNatClampNeg) z_n) * (f_MD_inverse (f_MD_raised (f_MD_check i z_n z_m z_d z_a z_b z_v) ((z_pr (((6 : Int32) * motion) + i).toNatClampNeg).toInt64) z_n) z_n)) / z_n * z_n) (((f_MD_raised (f_MD_raised (z_bl motion.toNatClampNeg) (2880 : Int64) z_n) (z_an (((6 : Int32) * motion) + i).toNatClampNeg) z_n) * (f_MD_inverse (f_MD_raised (((z_po (((6 : Int32) * motion) + i).toNatClampNeg) * (z_po (((6 : Int32) * motion) + i).toNatClampNeg)) - ((z_po (((6 : Int32) * motion) + i).toNatClampNeg) * (z_po (((6 : Int32) * motion) + i).toNatClampNeg)) / z_n * z_n) ((z_pr (((6 : Int32) * motion) + i).toNatClampNeg).toInt64) z_n) z_n)) - ((f_MD_raised (f_MD_raised (z_bl motion.toNatClampNeg) (2880 : Int64) z_n) (z_an (((6 : Int32) * motion) + i).toNatClampNeg) z_n) * (f_MD_inverse (f_MD_raised (((z_po (((6 : Int32) * motion) + i).toNatClampNeg) * (z_po (((6 : Int32) * motion) + i).toNatClampNeg)) - ((z_po (((6 : Int32) * motion) + i).toNatClampNeg) * (z_po (((6 : Int32) * motion) + i).toNatClampNeg)) / z_n * z_n) ((z_pr (((6 : Int32) * motion) + i).toNatClampNeg).toInt64) z_n) z_n)) / z_n * z_n) z_th z_n z_m z_d z_a z_b z_v z_ep z_su a_buf z_by z_mo a_st a_bl a_fi a_ob a_si a_po a_pr a_an z_bk a_bo z_h (hP.sub [0] rfl) ((hD.sub [0] (by decide) rfl).weaken (fun _ _ _ _ => trivial)) ) ⟨by decide, by decide, by decide, by decide⟩ rfl hl.1 rfl (Nat.le_of_ble_eq_true rfl) d_MD_good_231) hP hD hS hA [0] [1, 2, 3, 4] rfl rfl (by decide) (by decide) (fun H1 L1 hP hD hS => ?_)
                have hP : va_P G.2.1 cl_all [(a_bl, .inl (G.2.2.2.1, 12, .inr (.inl z_bl))), (a_po, .inl (G.2.2.2.1, 72, .inr (.inl z_po))), (a_pr, .inl (G.2.2.1, 72, .inl z_pr)), (a_an, .inl (G.2.2.2.1, 72, .inr (.inl z_an))), (y_, .inr (4, [.int z_th, .long z_n, .long z_m, .long z_d, .long z_a, .long z_b, .long z_v, .int z_ep, .int z_su, .ref a_buf, .int z_by, .int z_mo, .ref a_st, .ref a_bl, .ref a_fi, .ref a_ob, .ref a_si, .ref a_po, .ref a_pr, .ref a_an, .int z_bk, .ref a_bo, .long (f_MD_challenge_h (f_MD_raised (z_bl motion.toNatClampNeg) (2880 : Int64) z_n) (f_MD_check i z_n z_m z_d z_a z_b z_v) (((z_po (((6 : Int32) * motion) + i).toNatClampNeg) * (z_po (((6 : Int32) * motion) + i).toNatClampNeg)) - ((z_po (((6 : Int32) * motion) + i).toNatClampNeg) * (z_po (((6 : Int32) * motion) + i).toNatClampNeg)) / z_n * z_n) (((f_MD_raised z_v (z_an (((6 : Int32) * motion) + i).toNatClampNeg) z_n) * (f_MD_inverse (f_MD_raised (f_MD_check i z_n z_m z_d z_a z_b z_v) ((z_pr (((6 : Int32) * motion) + i).toNatClampNeg).toInt64) z_n) z_n)) - ((f_MD_raised z_v (z_an (((6 : Int32) * motion) + i).toNatClampNeg) z_n) * (f_MD_inverse (f_MD_raised (f_MD_check i z_n z_m z_d z_a z_b z_v) ((z_pr (((6 : Int32) * motion) + i).toNatClampNeg).toInt64) z_n) z_n)) / z_n * z_n) (((f_MD_raised (f_MD_raised (z_bl motion.toNatClampNeg) (2880 : Int64) z_n) (z_an (((6 : Int32) * motion) + i).toNatClampNeg) z_n) * (f_MD_inverse (f_MD_raised (((z_po (((6 : Int32) * motion) + i).toNatClampNeg) * (z_po (((6 : Int32) * motion) + i).toNatClampNeg)) - ((z_po (((6 : Int32) * motion) + i).toNatClampNeg) * (z_po (((6 : Int32) * motion) + i).toNatClampNeg)) / z_n * z_n) ((z_pr (((6 : Int32) * motion) + i).toNatClampNeg).toInt64) z_n) z_n)) - ((f_MD_raised (f_MD_raised (z_bl motion.toNatClampNeg) (2880 : Int64) z_n) (z_an (((6 : Int32) * motion) + i).toNatClampNeg) z_n) * (f_MD_inverse (f_MD_raised (((z_po (((6 : Int32) * motion) + i).toNatClampNeg) * (z_po (((6 : Int32) * motion) + i).toNatClampNeg)) - ((z_po (((6 : Int32) * motion) + i).toNatClampNeg) * (z_po (((6 : Int32) * motion) + i).toNatClampNeg)) / z_n * z_n) ((z_pr (((6 : Int32) * motion) + i).toNatClampNeg).toInt64) z_n) z_n)) / z_n * z_n) z_v)]))] H1 := hP
                have hD : va_D A [(a_bl, .inl (G.2.2.2.1, 12, .inr (.inl z_bl))), (a_po, .inl (G.2.2.2.1, 72, .inr (.inl z_po))), (a_pr, .inl (G.2.2.1, 72, .inl z_pr)), (a_an, .inl (G.2.2.2.1, 72, .inr (.inl z_an))), (y_, .inr (4, [.int z_th, .long z_n, .long z_m, .long z_d, .long z_a, .long z_b, .long z_v, .int z_ep, .int z_su, .ref a_buf, .int z_by, .int z_mo, .ref a_st, .ref a_bl, .ref a_fi, .ref a_ob, .ref a_si, .ref a_po, .ref a_pr, .ref a_an, .int z_bk, .ref a_bo, .long (f_MD_challenge_h (f_MD_raised (z_bl motion.toNatClampNeg) (2880 : Int64) z_n) (f_MD_check i z_n z_m z_d z_a z_b z_v) (((z_po (((6 : Int32) * motion) + i).toNatClampNeg) * (z_po (((6 : Int32) * motion) + i).toNatClampNeg)) - ((z_po (((6 : Int32) * motion) + i).toNatClampNeg) * (z_po (((6 : Int32) * motion) + i).toNatClampNeg)) / z_n * z_n) (((f_MD_raised z_v (z_an (((6 : Int32) * motion) + i).toNatClampNeg) z_n) * (f_MD_inverse (f_MD_raised (f_MD_check i z_n z_m z_d z_a z_b z_v) ((z_pr (((6 : Int32) * motion) + i).toNatClampNeg).toInt64) z_n) z_n)) - ((f_MD_raised z_v (z_an (((6 : Int32) * motion) + i).toNatClampNeg) z_n) * (f_MD_inverse (f_MD_raised (f_MD_check i z_n z_m z_d z_a z_b z_v) ((z_pr (((6 : Int32) * motion) + i).toNatClampNeg).toInt64) z_n) z_n)) / z_n * z_n) (((f_MD_raised (f_MD_raised (z_bl motion.toNatClampNeg) (2880 : Int64) z_n) (z_an (((6 : Int32) * motion) + i).toNatClampNeg) z_n) * (f_MD_inverse (f_MD_raised (((z_po (((6 : Int32) * motion) + i).toNatClampNeg) * (z_po (((6 : Int32) * motion) + i).toNatClampNeg)) - ((z_po (((6 : Int32) * motion) + i).toNatClampNeg) * (z_po (((6 : Int32) * motion) + i).toNatClampNeg)) / z_n * z_n) ((z_pr (((6 : Int32) * motion) + i).toNatClampNeg).toInt64) z_n) z_n)) - ((f_MD_raised (f_MD_raised (z_bl motion.toNatClampNeg) (2880 : Int64) z_n) (z_an (((6 : Int32) * motion) + i).toNatClampNeg) z_n) * (f_MD_inverse (f_MD_raised (((z_po (((6 : Int32) * motion) + i).toNatClampNeg) * (z_po (((6 : Int32) * motion) + i).toNatClampNeg)) - ((z_po (((6 : Int32) * motion) + i).toNatClampNeg) * (z_po (((6 : Int32) * motion) + i).toNatClampNeg)) / z_n * z_n) ((z_pr (((6 : Int32) * motion) + i).toNatClampNeg).toInt64) z_n) z_n)) / z_n * z_n) z_v)]))] := hD
                refine lv_iload hx hb d_MD_good_234 (lv_at hl 5 rfl) ?_
                refine lv_icmp_ne hx hb d_MD_good_236 (tgt := 243) (by decide) (fun h236 => ?_) (fun h236 => ?_)
                · rw [if_neg h236] at hr0
                  rw [if_neg h236] at hr1
                  refine lv_iconst (v := (0 : Int32)) hx hb d_MD_good_243 (by decide) ?_
                  subst hr0
                  subst hr1
                  have hP := hP.sub (ws' := [(y_, .inr (4, [.int z_th, .long z_n, .long z_m, .long z_d, .long z_a, .long z_b, .long z_v, .int z_ep, .int z_su, .ref a_buf, .int z_by, .int z_mo, .ref a_st, .ref a_bl, .ref a_fi, .ref a_ob, .ref a_si, .ref a_po, .ref a_pr, .ref a_an, .int z_bk, .ref a_bo, .long (f_MD_challenge_h (f_MD_raised (z_bl motion.toNatClampNeg) (2880 : Int64) z_n) (f_MD_check i z_n z_m z_d z_a z_b z_v) (((z_po (((6 : Int32) * motion) + i).toNatClampNeg) * (z_po (((6 : Int32) * motion) + i).toNatClampNeg)) - ((z_po (((6 : Int32) * motion) + i).toNatClampNeg) * (z_po (((6 : Int32) * motion) + i).toNatClampNeg)) / z_n * z_n) (((f_MD_raised z_v (z_an (((6 : Int32) * motion) + i).toNatClampNeg) z_n) * (f_MD_inverse (f_MD_raised (f_MD_check i z_n z_m z_d z_a z_b z_v) ((z_pr (((6 : Int32) * motion) + i).toNatClampNeg).toInt64) z_n) z_n)) - ((f_MD_raised z_v (z_an (((6 : Int32) * motion) + i).toNatClampNeg) z_n) * (f_MD_inverse (f_MD_raised (f_MD_check i z_n z_m z_d z_a z_b z_v) ((z_pr (((6 : Int32) * motion) + i).toNatClampNeg).toInt64) z_n) z_n)) / z_n * z_n) (((f_MD_raised (f_MD_raised (z_bl motion.toNatClampNeg) (2880 : Int64) z_n) (z_an (((6 : Int32) * motion) + i).toNatClampNeg) z_n) * (f_MD_inverse (f_MD_raised (((z_po (((6 : Int32) * motion) + i).toNatClampNeg) * (z_po (((6 : Int32) * motion) + i).toNatClampNeg)) - ((z_po (((6 : Int32) * motion) + i).toNatClampNeg) * (z_po (((6 : Int32) * motion) + i).toNatClampNeg)) / z_n * z_n) ((z_pr (((6 : Int32) * motion) + i).toNatClampNeg).toInt64) z_n) z_n)) - ((f_MD_raised (f_MD_raised (z_bl motion.toNatClampNeg) (2880 : Int64) z_n) (z_an (((6 : Int32) * motion) + i).toNatClampNeg) z_n) * (f_MD_inverse (f_MD_raised (((z_po (((6 : Int32) * motion) + i).toNatClampNeg) * (z_po (((6 : Int32) * motion) + i).toNatClampNeg)) - ((z_po (((6 : Int32) * motion) + i).toNatClampNeg) * (z_po (((6 : Int32) * motion) + i).toNatClampNeg)) / z_n * z_n) ((z_pr (((6 : Int32) * motion) + i).toNatClampNeg).toInt64) z_n) z_n)) / z_n * z_n) z_v)])), (a_bl, .inl (G.2.2.2.1, 12, .inr (.inl z_bl))), (a_po, .inl (G.2.2.2.1, 72, .inr (.inl z_po))), (a_pr, .inl (G.2.2.1, 72, .inl z_pr)), (a_an, .inl (G.2.2.2.1, 72, .inr (.inl z_an)))]) [4, 0, 1, 2, 3] rfl
                  have hD := hD.sub (ws' := [(y_, .inr (4, [.int z_th, .long z_n, .long z_m, .long z_d, .long z_a, .long z_b, .long z_v, .int z_ep, .int z_su, .ref a_buf, .int z_by, .int z_mo, .ref a_st, .ref a_bl, .ref a_fi, .ref a_ob, .ref a_si, .ref a_po, .ref a_pr, .ref a_an, .int z_bk, .ref a_bo, .long (f_MD_challenge_h (f_MD_raised (z_bl motion.toNatClampNeg) (2880 : Int64) z_n) (f_MD_check i z_n z_m z_d z_a z_b z_v) (((z_po (((6 : Int32) * motion) + i).toNatClampNeg) * (z_po (((6 : Int32) * motion) + i).toNatClampNeg)) - ((z_po (((6 : Int32) * motion) + i).toNatClampNeg) * (z_po (((6 : Int32) * motion) + i).toNatClampNeg)) / z_n * z_n) (((f_MD_raised z_v (z_an (((6 : Int32) * motion) + i).toNatClampNeg) z_n) * (f_MD_inverse (f_MD_raised (f_MD_check i z_n z_m z_d z_a z_b z_v) ((z_pr (((6 : Int32) * motion) + i).toNatClampNeg).toInt64) z_n) z_n)) - ((f_MD_raised z_v (z_an (((6 : Int32) * motion) + i).toNatClampNeg) z_n) * (f_MD_inverse (f_MD_raised (f_MD_check i z_n z_m z_d z_a z_b z_v) ((z_pr (((6 : Int32) * motion) + i).toNatClampNeg).toInt64) z_n) z_n)) / z_n * z_n) (((f_MD_raised (f_MD_raised (z_bl motion.toNatClampNeg) (2880 : Int64) z_n) (z_an (((6 : Int32) * motion) + i).toNatClampNeg) z_n) * (f_MD_inverse (f_MD_raised (((z_po (((6 : Int32) * motion) + i).toNatClampNeg) * (z_po (((6 : Int32) * motion) + i).toNatClampNeg)) - ((z_po (((6 : Int32) * motion) + i).toNatClampNeg) * (z_po (((6 : Int32) * motion) + i).toNatClampNeg)) / z_n * z_n) ((z_pr (((6 : Int32) * motion) + i).toNatClampNeg).toInt64) z_n) z_n)) - ((f_MD_raised (f_MD_raised (z_bl motion.toNatClampNeg) (2880 : Int64) z_n) (z_an (((6 : Int32) * motion) + i).toNatClampNeg) z_n) * (f_MD_inverse (f_MD_raised (((z_po (((6 : Int32) * motion) + i).toNatClampNeg) * (z_po (((6 : Int32) * motion) + i).toNatClampNeg)) - ((z_po (((6 : Int32) * motion) + i).toNatClampNeg) * (z_po (((6 : Int32) * motion) + i).toNatClampNeg)) / z_n * z_n) ((z_pr (((6 : Int32) * motion) + i).toNatClampNeg).toInt64) z_n) z_n)) / z_n * z_n) z_v)])), (a_bl, .inl (G.2.2.2.1, 12, .inr (.inl z_bl))), (a_po, .inl (G.2.2.2.1, 72, .inr (.inl z_po))), (a_pr, .inl (G.2.2.1, 72, .inl z_pr)), (a_an, .inl (G.2.2.2.1, 72, .inr (.inl z_an)))]) [4, 0, 1, 2, 3] (by decide) rfl
                  exact xw_zret hx hb ht hl0 rfl hP hD hS d_MD_good_244
                · rw [if_pos h236] at hr0
                  rw [if_pos h236] at hr1
                  refine lv_iconst (v := (1 : Int32)) hx hb d_MD_good_239 (by decide) ?_
                  refine lv_goto hx hb d_MD_good_240 (tgt := 244) (by decide) ?_
                  subst hr0
                  subst hr1
                  have hP := hP.sub (ws' := [(y_, .inr (4, [.int z_th, .long z_n, .long z_m, .long z_d, .long z_a, .long z_b, .long z_v, .int z_ep, .int z_su, .ref a_buf, .int z_by, .int z_mo, .ref a_st, .ref a_bl, .ref a_fi, .ref a_ob, .ref a_si, .ref a_po, .ref a_pr, .ref a_an, .int z_bk, .ref a_bo, .long (f_MD_challenge_h (f_MD_raised (z_bl motion.toNatClampNeg) (2880 : Int64) z_n) (f_MD_check i z_n z_m z_d z_a z_b z_v) (((z_po (((6 : Int32) * motion) + i).toNatClampNeg) * (z_po (((6 : Int32) * motion) + i).toNatClampNeg)) - ((z_po (((6 : Int32) * motion) + i).toNatClampNeg) * (z_po (((6 : Int32) * motion) + i).toNatClampNeg)) / z_n * z_n) (((f_MD_raised z_v (z_an (((6 : Int32) * motion) + i).toNatClampNeg) z_n) * (f_MD_inverse (f_MD_raised (f_MD_check i z_n z_m z_d z_a z_b z_v) ((z_pr (((6 : Int32) * motion) + i).toNatClampNeg).toInt64) z_n) z_n)) - ((f_MD_raised z_v (z_an (((6 : Int32) * motion) + i).toNatClampNeg) z_n) * (f_MD_inverse (f_MD_raised (f_MD_check i z_n z_m z_d z_a z_b z_v) ((z_pr (((6 : Int32) * motion) + i).toNatClampNeg).toInt64) z_n) z_n)) / z_n * z_n) (((f_MD_raised (f_MD_raised (z_bl motion.toNatClampNeg) (2880 : Int64) z_n) (z_an (((6 : Int32) * motion) + i).toNatClampNeg) z_n) * (f_MD_inverse (f_MD_raised (((z_po (((6 : Int32) * motion) + i).toNatClampNeg) * (z_po (((6 : Int32) * motion) + i).toNatClampNeg)) - ((z_po (((6 : Int32) * motion) + i).toNatClampNeg) * (z_po (((6 : Int32) * motion) + i).toNatClampNeg)) / z_n * z_n) ((z_pr (((6 : Int32) * motion) + i).toNatClampNeg).toInt64) z_n) z_n)) - ((f_MD_raised (f_MD_raised (z_bl motion.toNatClampNeg) (2880 : Int64) z_n) (z_an (((6 : Int32) * motion) + i).toNatClampNeg) z_n) * (f_MD_inverse (f_MD_raised (((z_po (((6 : Int32) * motion) + i).toNatClampNeg) * (z_po (((6 : Int32) * motion) + i).toNatClampNeg)) - ((z_po (((6 : Int32) * motion) + i).toNatClampNeg) * (z_po (((6 : Int32) * motion) + i).toNatClampNeg)) / z_n * z_n) ((z_pr (((6 : Int32) * motion) + i).toNatClampNeg).toInt64) z_n) z_n)) / z_n * z_n) z_v)])), (a_bl, .inl (G.2.2.2.1, 12, .inr (.inl z_bl))), (a_po, .inl (G.2.2.2.1, 72, .inr (.inl z_po))), (a_pr, .inl (G.2.2.1, 72, .inl z_pr)), (a_an, .inl (G.2.2.2.1, 72, .inr (.inl z_an)))]) [4, 0, 1, 2, 3] rfl
                  have hD := hD.sub (ws' := [(y_, .inr (4, [.int z_th, .long z_n, .long z_m, .long z_d, .long z_a, .long z_b, .long z_v, .int z_ep, .int z_su, .ref a_buf, .int z_by, .int z_mo, .ref a_st, .ref a_bl, .ref a_fi, .ref a_ob, .ref a_si, .ref a_po, .ref a_pr, .ref a_an, .int z_bk, .ref a_bo, .long (f_MD_challenge_h (f_MD_raised (z_bl motion.toNatClampNeg) (2880 : Int64) z_n) (f_MD_check i z_n z_m z_d z_a z_b z_v) (((z_po (((6 : Int32) * motion) + i).toNatClampNeg) * (z_po (((6 : Int32) * motion) + i).toNatClampNeg)) - ((z_po (((6 : Int32) * motion) + i).toNatClampNeg) * (z_po (((6 : Int32) * motion) + i).toNatClampNeg)) / z_n * z_n) (((f_MD_raised z_v (z_an (((6 : Int32) * motion) + i).toNatClampNeg) z_n) * (f_MD_inverse (f_MD_raised (f_MD_check i z_n z_m z_d z_a z_b z_v) ((z_pr (((6 : Int32) * motion) + i).toNatClampNeg).toInt64) z_n) z_n)) - ((f_MD_raised z_v (z_an (((6 : Int32) * motion) + i).toNatClampNeg) z_n) * (f_MD_inverse (f_MD_raised (f_MD_check i z_n z_m z_d z_a z_b z_v) ((z_pr (((6 : Int32) * motion) + i).toNatClampNeg).toInt64) z_n) z_n)) / z_n * z_n) (((f_MD_raised (f_MD_raised (z_bl motion.toNatClampNeg) (2880 : Int64) z_n) (z_an (((6 : Int32) * motion) + i).toNatClampNeg) z_n) * (f_MD_inverse (f_MD_raised (((z_po (((6 : Int32) * motion) + i).toNatClampNeg) * (z_po (((6 : Int32) * motion) + i).toNatClampNeg)) - ((z_po (((6 : Int32) * motion) + i).toNatClampNeg) * (z_po (((6 : Int32) * motion) + i).toNatClampNeg)) / z_n * z_n) ((z_pr (((6 : Int32) * motion) + i).toNatClampNeg).toInt64) z_n) z_n)) - ((f_MD_raised (f_MD_raised (z_bl motion.toNatClampNeg) (2880 : Int64) z_n) (z_an (((6 : Int32) * motion) + i).toNatClampNeg) z_n) * (f_MD_inverse (f_MD_raised (((z_po (((6 : Int32) * motion) + i).toNatClampNeg) * (z_po (((6 : Int32) * motion) + i).toNatClampNeg)) - ((z_po (((6 : Int32) * motion) + i).toNatClampNeg) * (z_po (((6 : Int32) * motion) + i).toNatClampNeg)) / z_n * z_n) ((z_pr (((6 : Int32) * motion) + i).toNatClampNeg).toInt64) z_n) z_n)) / z_n * z_n) z_v)])), (a_bl, .inl (G.2.2.2.1, 12, .inr (.inl z_bl))), (a_po, .inl (G.2.2.2.1, 72, .inr (.inl z_po))), (a_pr, .inl (G.2.2.1, 72, .inl z_pr)), (a_an, .inl (G.2.2.2.1, 72, .inr (.inl z_an)))]) [4, 0, 1, 2, 3] (by decide) rfl
                  exact xw_zret hx hb ht hl0 rfl hP hD hS d_MD_good_244
              · rw [lg_cmp_ge] at h106
                rw [if_neg h106] at hr0
                rw [if_neg h106] at hr1
                refine lv_iconst (v := (0 : Int32)) hx hb d_MD_good_109 (by decide) ?_
                subst hr0
                subst hr1
                exact xw_zret hx hb ht hl0 rfl hP hD hS d_MD_good_110
def lf_MD_notGood_4_0 (motion : Int32) (z_n : Int64) (z_m : Int64) (z_d : Int64) (z_a : Int64) (z_b : Int64) (z_v : Int64) (z_bl : Nat → Int64) (z_po : Nat → Int64) (z_pr : Nat → Int32) (z_an : Nat → Int64) (z_fi : Nat → Int32) (z_h : Int64) : Nat → Int32 → Int32 → Int64 → Int32
  | 0, _, _, _ => 0
  | n + 1, set_, i, hv => if (6 : Int32) ≤ i then set_ else (if (((z_fi motion.toNatClampNeg) >>> (i &&& 31)) &&& (1 : Int32)) = (1 : Int32) then (if (f_MD_good motion i z_n z_m z_d z_a z_b z_v z_bl z_po z_pr z_an) = 0 then (lf_MD_notGood_4_0 motion z_n z_m z_d z_a z_b z_v z_bl z_po z_pr z_an z_fi z_h n (set_ ||| ((1 : Int32) <<< (i &&& 31))) (i + (1 : Int32)) (f_MD_good_h motion i z_n z_m z_d z_a z_b z_v hv z_bl z_po z_pr z_an)) else (lf_MD_notGood_4_0 motion z_n z_m z_d z_a z_b z_v z_bl z_po z_pr z_an z_fi z_h n set_ (i + (1 : Int32)) (f_MD_good_h motion i z_n z_m z_d z_a z_b z_v hv z_bl z_po z_pr z_an))) else (lf_MD_notGood_4_0 motion z_n z_m z_d z_a z_b z_v z_bl z_po z_pr z_an z_fi z_h n set_ (i + (1 : Int32)) hv))
def lf_MD_notGood_4_1 (motion : Int32) (z_n : Int64) (z_m : Int64) (z_d : Int64) (z_a : Int64) (z_b : Int64) (z_v : Int64) (z_bl : Nat → Int64) (z_po : Nat → Int64) (z_pr : Nat → Int32) (z_an : Nat → Int64) (z_fi : Nat → Int32) (z_h : Int64) : Nat → Int32 → Int32 → Int64 → Int64
  | 0, _, _, _ => 0
  | n + 1, set_, i, hv => if (6 : Int32) ≤ i then hv else (if (((z_fi motion.toNatClampNeg) >>> (i &&& 31)) &&& (1 : Int32)) = (1 : Int32) then (if (f_MD_good motion i z_n z_m z_d z_a z_b z_v z_bl z_po z_pr z_an) = 0 then (lf_MD_notGood_4_1 motion z_n z_m z_d z_a z_b z_v z_bl z_po z_pr z_an z_fi z_h n (set_ ||| ((1 : Int32) <<< (i &&& 31))) (i + (1 : Int32)) (f_MD_good_h motion i z_n z_m z_d z_a z_b z_v hv z_bl z_po z_pr z_an)) else (lf_MD_notGood_4_1 motion z_n z_m z_d z_a z_b z_v z_bl z_po z_pr z_an z_fi z_h n set_ (i + (1 : Int32)) (f_MD_good_h motion i z_n z_m z_d z_a z_b z_v hv z_bl z_po z_pr z_an))) else (lf_MD_notGood_4_1 motion z_n z_m z_d z_a z_b z_v z_bl z_po z_pr z_an z_fi z_h n set_ (i + (1 : Int32)) hv))
def f_MD_notGood (motion : Int32) (z_n : Int64) (z_m : Int64) (z_d : Int64) (z_a : Int64) (z_b : Int64) (z_v : Int64) (z_bl : Nat → Int64) (z_po : Nat → Int64) (z_pr : Nat → Int32) (z_an : Nat → Int64) (z_fi : Nat → Int32) (z_h : Int64) : Int32 := lf_MD_notGood_4_0 motion z_n z_m z_d z_a z_b z_v z_bl z_po z_pr z_an z_fi z_h 7 (0 : Int32) (0 : Int32) z_h
def f_MD_notGood_h (motion : Int32) (z_n : Int64) (z_m : Int64) (z_d : Int64) (z_a : Int64) (z_b : Int64) (z_v : Int64) (z_bl : Nat → Int64) (z_po : Nat → Int64) (z_pr : Nat → Int32) (z_an : Nat → Int64) (z_fi : Nat → Int32) (z_h : Int64) : Int64 := lf_MD_notGood_4_1 motion z_n z_m z_d z_a z_b z_v z_bl z_po z_pr z_an z_fi z_h 7 (0 : Int32) (0 : Int32) z_h
set_option maxHeartbeats 4000000 in
set_option maxRecDepth 100000 in
theorem wl_MD_notGood_4 {p : Program} {l : Launch} {e : Env} {s : State} {m : MethodId} {args : Array Value} {below : List Frame} {meth : Method} {c : Code} {G : xg_G} {A : Nat → Prop} {y_ : Nat} {motion : Int32} {z_th : Int32} {z_n : Int64} {z_m : Int64} {z_d : Int64} {z_a : Int64} {z_b : Int64} {z_v : Int64} {z_ep : Int32} {z_su : Int32} {a_buf : Nat} {z_by : Int32} {z_mo : Int32} {a_st : Nat} {a_bl : Nat} {a_fi : Nat} {a_ob : Nat} {a_si : Nat} {a_po : Nat} {a_pr : Nat} {a_an : Nat} {z_bk : Int32} {a_bo : Nat} {z_h : Int64} {z_fi : Nat → Int32} {z_bl : Nat → Int64} {z_po : Nat → Int64} {z_pr : Nat → Int32} {z_an : Nat → Int64} (hg : xg_F G) (hw : G.1.WarmedH s.vm) (S : xc_Fix p m c b_MD_notGood 4 s "SealTrustModel") (hl0 : meth.locks = false) (ht : meth.sig.returnType = (some .int)) (hA : ∀ q, s.heap.size ≤ q → A q) (hm : ¬ z_m = 0) (hn : ¬ z_n = 0) (hI : vp_in motion 12) : ∀ (n : Nat) (set_ : Int32) (i : Int32) (hv : Int64) (r0 : Int32) (r1 : Int64) (ls : Array Slot) (H9 : Heap) (L9 : List Loc), lf_MD_notGood_4_0 motion z_n z_m z_d z_a z_b z_v z_bl z_po z_pr z_an z_fi z_h n set_ i hv = r0 → lf_MD_notGood_4_1 motion z_n z_m z_d z_a z_b z_v z_bl z_po z_pr z_an z_fi z_h n set_ i hv = r1 → (0 ≤ i.toInt ∧ ((6 : Int32).toInt - i.toInt).toNat < n) → lv_has ls 4 [(3, .int i), (2, .int set_), (0, .ref y_), (1, .int motion)] → va_P G.2.1 cl_all [(y_, .inr (4, [.int z_th, .long z_n, .long z_m, .long z_d, .long z_a, .long z_b, .long z_v, .int z_ep, .int z_su, .ref a_buf, .int z_by, .int z_mo, .ref a_st, .ref a_bl, .ref a_fi, .ref a_ob, .ref a_si, .ref a_po, .ref a_pr, .ref a_an, .int z_bk, .ref a_bo, .long hv])), (a_fi, .inl (G.2.2.1, 12, .inl z_fi)), (a_bl, .inl (G.2.2.2.1, 12, .inr (.inl z_bl))), (a_po, .inl (G.2.2.2.1, 72, .inr (.inl z_po))), (a_pr, .inl (G.2.2.1, 72, .inl z_pr)), (a_an, .inl (G.2.2.2.1, 72, .inr (.inl z_an)))] H9 → va_D A [(y_, .inr (4, [.int z_th, .long z_n, .long z_m, .long z_d, .long z_a, .long z_b, .long z_v, .int z_ep, .int z_su, .ref a_buf, .int z_by, .int z_mo, .ref a_st, .ref a_bl, .ref a_fi, .ref a_ob, .ref a_si, .ref a_po, .ref a_pr, .ref a_an, .int z_bk, .ref a_bo, .long hv])), (a_fi, .inl (G.2.2.1, 12, .inl z_fi)), (a_bl, .inl (G.2.2.2.1, 12, .inr (.inl z_bl))), (a_po, .inl (G.2.2.2.1, 72, .inr (.inl z_po))), (a_pr, .inl (G.2.2.1, 72, .inl z_pr)), (a_an, .inl (G.2.2.2.1, 72, .inr (.inl z_an)))] → va_S A s.heap H9 L9 → W p l e ({ frames := 3, cells := 0, slots := 0, locals := 68 } : Room) s m args below meth c H9 L9 0 0 (xw_Z G below A (some (.int r0)) [(y_, .inr (4, [.int z_th, .long z_n, .long z_m, .long z_d, .long z_a, .long z_b, .long z_v, .int z_ep, .int z_su, .ref a_buf, .int z_by, .int z_mo, .ref a_st, .ref a_bl, .ref a_fi, .ref a_ob, .ref a_si, .ref a_po, .ref a_pr, .ref a_an, .int z_bk, .ref a_bo, .long r1])), (a_fi, .inl (G.2.2.1, 12, .inl z_fi)), (a_bl, .inl (G.2.2.2.1, 12, .inr (.inl z_bl))), (a_po, .inl (G.2.2.2.1, 72, .inr (.inl z_po))), (a_pr, .inl (G.2.2.1, 72, .inl z_pr)), (a_an, .inl (G.2.2.2.1, 72, .inr (.inl z_an)))] args s 0 0) (F0 m 4 ls []) := by
  have hx := S.1
  have hb := S.2.1
  intro n
  induction n with
  | zero =>
    intro set_ i hv r0 r1 ls H9 L9 hr0 hr1 hmu
    omega
  | succ n ih =>
    intro set_ i hv r0 r1 ls H9 L9 hr0 hr1 hmu hl hP hD hS
    rw [lf_MD_notGood_4_0] at hr0
    rw [lf_MD_notGood_4_1] at hr1
    refine lv_iload_n hx hb d_MD_notGood_4 rfl (lv_at hl 0 rfl) ?_
    refine lv_bipush (v := (6 : Int32)) hx hb d_MD_notGood_5 (by decide) ?_
    refine lv_icmp_ge hx hb d_MD_notGood_7 (tgt := 45) (by decide) (fun h7 => ?_) (fun h7 => ?_)
    · rw [if_pos h7] at hr0
      rw [if_pos h7] at hr1
      refine lv_iload_n hx hb d_MD_notGood_45 rfl (lv_at hl 1 rfl) ?_
      subst hr0
      subst hr1
      exact xw_iret hx hb ht hl0 hP hD hS d_MD_notGood_46
    · rw [if_neg h7] at hr0
      rw [if_neg h7] at hr1
      refine lv_aload_n hx hb d_MD_notGood_10 rfl (lv_at hl 2 rfl) ?_
      refine gf_MD_55 hg hw S hP 0 rfl rfl d_MD_notGood_11 ?_
      refine lv_iload_n hx hb d_MD_notGood_14 rfl (lv_at hl 3 rfl) ?_
      refine va_iald hx hb (xg_k hg hw) hP 1 0 rfl rfl hI d_MD_notGood_15 ?_
      refine lv_iload_n hx hb d_MD_notGood_16 rfl (lv_at hl 0 rfl) ?_
      refine lv_ishr hx hb d_MD_notGood_17 ?_
      refine lv_iconst (v := (1 : Int32)) hx hb d_MD_notGood_18 (by decide) ?_
      refine lv_iand hx hb d_MD_notGood_19 ?_
      refine lv_iconst (v := (1 : Int32)) hx hb d_MD_notGood_20 (by decide) ?_
      refine lv_icmp_ne hx hb d_MD_notGood_21 (tgt := 39) (by decide) (fun h21 => ?_) (fun h21 => ?_)
      · rw [if_neg h21] at hr0
        rw [if_neg h21] at hr1
        refine lv_iinc (v := i + (1 : Int32)) hx hb d_MD_notGood_39 hl (k := 0) rfl rfl (by decide) rfl (fun ls hl => ?_)
        have hl : lv_has ls 4 [(3, .int (i + (1 : Int32))), (2, .int set_), (0, .ref y_), (1, .int motion)] := hl
        refine lv_goto hx hb d_MD_notGood_42 (tgt := 4) (by decide) ?_
        exact ih set_ (i + (1 : Int32)) hv r0 r1 ls H9 L9 hr0 hr1 (xi_up0 h7 hmu) (lv_sub hl [0, 1, 2, 3] rfl) hP hD hS
      · rw [if_pos h21] at hr0
        rw [if_pos h21] at hr1
        refine lv_aload_n hx hb d_MD_notGood_24 rfl (lv_at hl 2 rfl) ?_
        refine lv_iload_n hx hb d_MD_notGood_25 rfl (lv_at hl 3 rfl) ?_
        refine lv_iload_n hx hb d_MD_notGood_26 rfl (lv_at hl 0 rfl) ?_
        refine xw_use (wc := [(y_, .inr (4, [.int z_th, .long z_n, .long z_m, .long z_d, .long z_a, .long z_b, .long z_v, .int z_ep, .int z_su, .ref a_buf, .int z_by, .int z_mo, .ref a_st, .ref a_bl, .ref a_fi, .ref a_ob, .ref a_si, .ref a_po, .ref a_pr, .ref a_an, .int z_bk, .ref a_bo, .long hv])), (a_bl, .inl (G.2.2.2.1, 12, .inr (.inl z_bl))), (a_po, .inl (G.2.2.2.1, 72, .inr (.inl z_po))), (a_pr, .inl (G.2.2.1, 72, .inl z_pr)), (a_an, .inl (G.2.2.2.1, 72, .inr (.inl z_an)))]) (wr := [(a_fi, .inl (G.2.2.1, 12, .inl z_fi))]) (xg_runV (rest := []) (kw := 0) si_MD_160 hg hw S (va_recv (xg_k hg hw) hP (ci := 4) rfl (q0 := 0) rfl) (ct_MD_good l hg H9 y_ motion i z_th z_n z_m z_d z_a z_b z_v z_ep z_su a_buf z_by z_mo a_st a_bl a_fi a_ob a_si a_po a_pr a_an z_bk a_bo hv z_bl z_po z_pr z_an (hP.sub [0, 2, 3, 4, 5] rfl) ((hD.sub [0, 2, 3, 4, 5] (by decide) rfl).weaken (fun _ _ _ _ => trivial)) hm hn hI (xi_in h7 hmu.1 (by decide))) ⟨by decide, by decide, by decide, by decide⟩ rfl hl.1 rfl (Nat.le_of_ble_eq_true rfl) d_MD_notGood_27) hP hD hS hA [0, 2, 3, 4, 5] [1] rfl rfl (by decide) (by decide) (fun H1 L1 hP hD hS => ?_)
        have hP : va_P G.2.1 cl_all [(a_fi, .inl (G.2.2.1, 12, .inl z_fi)), (y_, .inr (4, [.int z_th, .long z_n, .long z_m, .long z_d, .long z_a, .long z_b, .long z_v, .int z_ep, .int z_su, .ref a_buf, .int z_by, .int z_mo, .ref a_st, .ref a_bl, .ref a_fi, .ref a_ob, .ref a_si, .ref a_po, .ref a_pr, .ref a_an, .int z_bk, .ref a_bo, .long (f_MD_good_h motion i z_n z_m z_d z_a z_b z_v hv z_bl z_po z_pr z_an)])), (a_bl, .inl (G.2.2.2.1, 12, .inr (.inl z_bl))), (a_po, .inl (G.2.2.2.1, 72, .inr (.inl z_po))), (a_pr, .inl (G.2.2.1, 72, .inl z_pr)), (a_an, .inl (G.2.2.2.1, 72, .inr (.inl z_an)))] H1 := hP
        have hD : va_D A [(a_fi, .inl (G.2.2.1, 12, .inl z_fi)), (y_, .inr (4, [.int z_th, .long z_n, .long z_m, .long z_d, .long z_a, .long z_b, .long z_v, .int z_ep, .int z_su, .ref a_buf, .int z_by, .int z_mo, .ref a_st, .ref a_bl, .ref a_fi, .ref a_ob, .ref a_si, .ref a_po, .ref a_pr, .ref a_an, .int z_bk, .ref a_bo, .long (f_MD_good_h motion i z_n z_m z_d z_a z_b z_v hv z_bl z_po z_pr z_an)])), (a_bl, .inl (G.2.2.2.1, 12, .inr (.inl z_bl))), (a_po, .inl (G.2.2.2.1, 72, .inr (.inl z_po))), (a_pr, .inl (G.2.2.1, 72, .inl z_pr)), (a_an, .inl (G.2.2.2.1, 72, .inr (.inl z_an)))] := hD
        refine lv_if_ne hx hb d_MD_notGood_30 (tgt := 39) (by decide) (fun h30 => ?_) (fun h30 => ?_)
        · rw [if_neg h30] at hr0
          rw [if_neg h30] at hr1
          refine lv_iinc (v := i + (1 : Int32)) hx hb d_MD_notGood_39 hl (k := 0) rfl rfl (by decide) rfl (fun ls hl => ?_)
          have hl : lv_has ls 4 [(3, .int (i + (1 : Int32))), (2, .int set_), (0, .ref y_), (1, .int motion)] := hl
          refine lv_goto hx hb d_MD_notGood_42 (tgt := 4) (by decide) ?_
          exact ih set_ (i + (1 : Int32)) (f_MD_good_h motion i z_n z_m z_d z_a z_b z_v hv z_bl z_po z_pr z_an) r0 r1 ls H1 L1 hr0 hr1 (xi_up0 h7 hmu) (lv_sub hl [0, 1, 2, 3] rfl) (hP.sub [1, 0, 2, 3, 4, 5] rfl) (hD.sub [1, 0, 2, 3, 4, 5] (by decide) rfl) hS
        · rw [if_pos h30] at hr0
          rw [if_pos h30] at hr1
          refine lv_iload_n hx hb d_MD_notGood_33 rfl (lv_at hl 1 rfl) ?_
          refine lv_iconst (v := (1 : Int32)) hx hb d_MD_notGood_34 (by decide) ?_
          refine lv_iload_n hx hb d_MD_notGood_35 rfl (lv_at hl 0 rfl) ?_
          refine lv_ishl hx hb d_MD_notGood_36 ?_
          refine lv_ior hx hb d_MD_notGood_37 ?_
          refine lv_istore_n hx hb d_MD_notGood_38 rfl hl (by decide) rfl (fun ls hl => ?_)
          have hl : lv_has ls 4 [(2, .int (set_ ||| ((1 : Int32) <<< (i &&& 31)))), (3, .int i), (0, .ref y_), (1, .int motion)] := hl
          refine lv_iinc (v := i + (1 : Int32)) hx hb d_MD_notGood_39 hl (k := 1) rfl rfl (by decide) rfl (fun ls hl => ?_)
          have hl : lv_has ls 4 [(3, .int (i + (1 : Int32))), (2, .int (set_ ||| ((1 : Int32) <<< (i &&& 31)))), (0, .ref y_), (1, .int motion)] := hl
          refine lv_goto hx hb d_MD_notGood_42 (tgt := 4) (by decide) ?_
          exact ih (set_ ||| ((1 : Int32) <<< (i &&& 31))) (i + (1 : Int32)) (f_MD_good_h motion i z_n z_m z_d z_a z_b z_v hv z_bl z_po z_pr z_an) r0 r1 ls H1 L1 hr0 hr1 (xi_up0 h7 hmu) (lv_sub hl [0, 1, 2, 3] rfl) (hP.sub [1, 0, 2, 3, 4, 5] rfl) (hD.sub [1, 0, 2, 3, 4, 5] (by decide) rfl) hS
set_option maxHeartbeats 4000000 in
set_option maxRecDepth 100000 in
theorem ct_MD_notGood (l : Launch) {G : xg_G} (hg : xg_F G) (H : Heap) (y_ : Nat) (motion : Int32) (z_th : Int32) (z_n : Int64) (z_m : Int64) (z_d : Int64) (z_a : Int64) (z_b : Int64) (z_v : Int64) (z_ep : Int32) (z_su : Int32) (a_buf : Nat) (z_by : Int32) (z_mo : Int32) (a_st : Nat) (a_bl : Nat) (a_fi : Nat) (a_ob : Nat) (a_si : Nat) (a_po : Nat) (a_pr : Nat) (a_an : Nat) (z_bk : Int32) (a_bo : Nat) (z_h : Int64) (z_fi : Nat → Int32) (z_bl : Nat → Int64) (z_po : Nat → Int64) (z_pr : Nat → Int32) (z_an : Nat → Int64) (hP : va_P G.2.1 cl_all [(y_, .inr (4, [.int z_th, .long z_n, .long z_m, .long z_d, .long z_a, .long z_b, .long z_v, .int z_ep, .int z_su, .ref a_buf, .int z_by, .int z_mo, .ref a_st, .ref a_bl, .ref a_fi, .ref a_ob, .ref a_si, .ref a_po, .ref a_pr, .ref a_an, .int z_bk, .ref a_bo, .long z_h])), (a_fi, .inl (G.2.2.1, 12, .inl z_fi)), (a_bl, .inl (G.2.2.2.1, 12, .inr (.inl z_bl))), (a_po, .inl (G.2.2.2.1, 72, .inr (.inl z_po))), (a_pr, .inl (G.2.2.1, 72, .inl z_pr)), (a_an, .inl (G.2.2.2.1, 72, .inr (.inl z_an)))] H) (hD0 : va_D (fun _ => True) [(y_, .inr (4, [.int z_th, .long z_n, .long z_m, .long z_d, .long z_a, .long z_b, .long z_v, .int z_ep, .int z_su, .ref a_buf, .int z_by, .int z_mo, .ref a_st, .ref a_bl, .ref a_fi, .ref a_ob, .ref a_si, .ref a_po, .ref a_pr, .ref a_an, .int z_bk, .ref a_bo, .long z_h])), (a_fi, .inl (G.2.2.1, 12, .inl z_fi)), (a_bl, .inl (G.2.2.2.1, 12, .inr (.inl z_bl))), (a_po, .inl (G.2.2.2.1, 72, .inr (.inl z_po))), (a_pr, .inl (G.2.2.1, 72, .inl z_pr)), (a_an, .inl (G.2.2.2.1, 72, .inr (.inl z_an)))]) (hm : ¬ z_m = 0) (hn : ¬ z_n = 0) (hI : vp_in motion 12) : xc_Met l y_MD_notGood (.code y_MD_notGood b_MD_notGood 4 (some .int)) ({ frames := 3, cells := 0, slots := 0, locals := 68 } : Room) (xg_Pc G [.ref y_, .int motion] H) (xw_post G (va_A [(y_, .inr (4, [.int z_th, .long z_n, .long z_m, .long z_d, .long z_a, .long z_b, .long z_v, .int z_ep, .int z_su, .ref a_buf, .int z_by, .int z_mo, .ref a_st, .ref a_bl, .ref a_fi, .ref a_ob, .ref a_si, .ref a_po, .ref a_pr, .ref a_an, .int z_bk, .ref a_bo, .long z_h])), (a_fi, .inl (G.2.2.1, 12, .inl z_fi)), (a_bl, .inl (G.2.2.2.1, 12, .inr (.inl z_bl))), (a_po, .inl (G.2.2.2.1, 72, .inr (.inl z_po))), (a_pr, .inl (G.2.2.1, 72, .inl z_pr)), (a_an, .inl (G.2.2.2.1, 72, .inr (.inl z_an)))] H.size) (some (.int (f_MD_notGood motion z_n z_m z_d z_a z_b z_v z_bl z_po z_pr z_an z_fi z_h))) [(y_, .inr (4, [.int z_th, .long z_n, .long z_m, .long z_d, .long z_a, .long z_b, .long z_v, .int z_ep, .int z_su, .ref a_buf, .int z_by, .int z_mo, .ref a_st, .ref a_bl, .ref a_fi, .ref a_ob, .ref a_si, .ref a_po, .ref a_pr, .ref a_an, .int z_bk, .ref a_bo, .long (f_MD_notGood_h motion z_n z_m z_d z_a z_b z_v z_bl z_po z_pr z_an z_fi z_h)])), (a_fi, .inl (G.2.2.1, 12, .inl z_fi)), (a_bl, .inl (G.2.2.2.1, 12, .inr (.inl z_bl))), (a_po, .inl (G.2.2.2.1, 72, .inr (.inl z_po))), (a_pr, .inl (G.2.2.1, 72, .inl z_pr)), (a_an, .inl (G.2.2.2.1, 72, .inr (.inl z_an)))]) (va_A [(y_, .inr (4, [.int z_th, .long z_n, .long z_m, .long z_d, .long z_a, .long z_b, .long z_v, .int z_ep, .int z_su, .ref a_buf, .int z_by, .int z_mo, .ref a_st, .ref a_bl, .ref a_fi, .ref a_ob, .ref a_si, .ref a_po, .ref a_pr, .ref a_an, .int z_bk, .ref a_bo, .long z_h])), (a_fi, .inl (G.2.2.1, 12, .inl z_fi)), (a_bl, .inl (G.2.2.2.1, 12, .inr (.inl z_bl))), (a_po, .inl (G.2.2.2.1, 72, .inr (.inl z_po))), (a_pr, .inl (G.2.2.1, 72, .inl z_pr)), (a_an, .inl (G.2.2.2.1, 72, .inr (.inl z_an)))] H.size) := by
  refine xc_ofW (by decide) ?_
  intro p e s m args below meth c s₁ B hml hE hv
  obtain ⟨rfl, rfl, hw⟩ := hv
  have hx := B.exec
  have hb := B.bytes
  have ht := B.returns
  have hl0 := B.notSynchronized
  have S : xc_Fix p m c b_MD_notGood 4 s "SealTrustModel" := ⟨hx, hb, hml, findClass_of_methodNamed B.named⟩
  have hD := hD0.self (sz := s.heap.size)
  generalize hAe : va_A [(y_, .inr (4, [.int z_th, .long z_n, .long z_m, .long z_d, .long z_a, .long z_b, .long z_v, .int z_ep, .int z_su, .ref a_buf, .int z_by, .int z_mo, .ref a_st, .ref a_bl, .ref a_fi, .ref a_ob, .ref a_si, .ref a_po, .ref a_pr, .ref a_an, .int z_bk, .ref a_bo, .long z_h])), (a_fi, .inl (G.2.2.1, 12, .inl z_fi)), (a_bl, .inl (G.2.2.2.1, 12, .inr (.inl z_bl))), (a_po, .inl (G.2.2.2.1, 72, .inr (.inl z_po))), (a_pr, .inl (G.2.2.1, 72, .inl z_pr)), (a_an, .inl (G.2.2.2.1, 72, .inr (.inl z_an)))] s.heap.size = A at hD ⊢
  have hA : ∀ q : Nat, s.heap.size ≤ q → A q := fun q h => by rw [← hAe]; exact Or.inr h
  have hS : va_S A s.heap s.heap [] := va_S.rf
  have hl := lv_entry ([.ref y_, .int motion]) (n := 4) (Nat.le_of_ble_eq_true rfl)
  rw [lg_entry_eq]
  generalize (lg_sl ([.ref y_, .int motion]) ++ List.replicate (4 - (lg_sl ([.ref y_, .int motion])).length) Slot.unset).toArray = ls at hl ⊢
  have hl : lv_has ls 4 [(0, .ref y_), (1, .int motion)] := hl
  obtain ⟨r0, hr0⟩ : ∃ r, f_MD_notGood motion z_n z_m z_d z_a z_b z_v z_bl z_po z_pr z_an z_fi z_h = r := ⟨_, rfl⟩
  rw [hr0]
  unfold f_MD_notGood at hr0
  obtain ⟨r1, hr1⟩ : ∃ r, f_MD_notGood_h motion z_n z_m z_d z_a z_b z_v z_bl z_po z_pr z_an z_fi z_h = r := ⟨_, rfl⟩
  rw [hr1]
  unfold f_MD_notGood_h at hr1
  refine lv_iconst (v := (0 : Int32)) hx hb d_MD_notGood_0 (by decide) ?_
  refine lv_istore_n hx hb d_MD_notGood_1 rfl hl (by decide) rfl (fun ls hl => ?_)
  have hl : lv_has ls 4 [(2, .int (0 : Int32)), (0, .ref y_), (1, .int motion)] := hl
  refine lv_iconst (v := (0 : Int32)) hx hb d_MD_notGood_2 (by decide) ?_
  refine lv_istore_n hx hb d_MD_notGood_3 rfl hl (by decide) rfl (fun ls hl => ?_)
  have hl : lv_has ls 4 [(3, .int (0 : Int32)), (2, .int (0 : Int32)), (0, .ref y_), (1, .int motion)] := hl
  exact wl_MD_notGood_4 (y_ := y_) (motion := motion) (z_th := z_th) (z_n := z_n) (z_m := z_m) (z_d := z_d) (z_a := z_a) (z_b := z_b) (z_v := z_v) (z_ep := z_ep) (z_su := z_su) (a_buf := a_buf) (z_by := z_by) (z_mo := z_mo) (a_st := a_st) (a_bl := a_bl) (a_fi := a_fi) (a_ob := a_ob) (a_si := a_si) (a_po := a_po) (a_pr := a_pr) (a_an := a_an) (z_bk := z_bk) (a_bo := a_bo) (z_h := z_h) (z_fi := z_fi) (z_bl := z_bl) (z_po := z_po) (z_pr := z_pr) (z_an := z_an) hg hw S hl0 ht hA hm hn hI 7 (0 : Int32) (0 : Int32) z_h r0 r1 ls s.heap [] hr0 hr1 (by decide) (lv_sub hl [0, 1, 2, 3] rfl) hP hD hS
