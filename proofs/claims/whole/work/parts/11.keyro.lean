/-! the key, the buffer: methods that change nothing -/
def f_ST_isSafePrime (number : Int32) : Int32 := if number < (20 : Int32) then (0 : Int32) else (if (32767 : Int32) < number then (0 : Int32) else (if (f_ST_isPrime number) = 0 then (0 : Int32) else (if (f_ST_isPrime ((number - (1 : Int32)) / (2 : Int32))) = 0 then (0 : Int32) else (1 : Int32))))
set_option maxHeartbeats 4000000 in
set_option maxRecDepth 100000 in
theorem ct_ST_isSafePrime (l : Launch) {G : xg_G} (hg : xg_F G) (H : Heap) (number : Int32)  : xc_Met l y_ST_isSafePrime (.code y_ST_isSafePrime b_ST_isSafePrime 1 (some .boolean)) ({ frames := 1, cells := 0, slots := 0, locals := 13 } : Room) (xg_Pc G [.int number] H) (xc_ro (some (.int (f_ST_isSafePrime number))) H) (fun _ => False) := by
  refine xc_ofW (by decide) ?_
  intro p e s m args below meth c s₁ B hml hE hv
  obtain ⟨rfl, rfl, hw⟩ := hv
  have hx := B.exec
  have hb := B.bytes
  have ht := B.returns
  have hl0 := B.notSynchronized
  have S : xc_Fix p m c b_ST_isSafePrime 1 s "SealTrust" := ⟨hx, hb, hml, findClass_of_methodNamed B.named⟩
  have hl := lv_entry ([.int number]) (n := 1) (Nat.le_of_ble_eq_true rfl)
  rw [lg_entry_eq]
  generalize (lg_sl ([.int number]) ++ List.replicate (1 - (lg_sl ([.int number])).length) Slot.unset).toArray = ls at hl ⊢
  have hl : lv_has ls 1 [(0, .int number)] := hl
  obtain ⟨r, hr⟩ : ∃ r, f_ST_isSafePrime number = r := ⟨_, rfl⟩
  rw [hr]
  unfold f_ST_isSafePrime at hr
  refine lv_iload_n hx hb d_ST_isSafePrime_0 rfl (lv_at hl 0 rfl) ?_
  refine lv_bipush (v := (20 : Int32)) hx hb d_ST_isSafePrime_1 (by decide) ?_
  refine lv_icmp_lt hx hb d_ST_isSafePrime_3 (tgt := 35) (by decide) (fun h3 => ?_) (fun h3 => ?_)
  · rw [if_pos h3] at hr
    refine lv_iconst (v := (0 : Int32)) hx hb d_ST_isSafePrime_35 (by decide) ?_
    exact xg_zret hx hb ht hl0 rfl hr d_ST_isSafePrime_36
  · rw [if_neg h3] at hr
    refine lv_iload_n hx hb d_ST_isSafePrime_6 rfl (lv_at hl 0 rfl) ?_
    refine lv_sipush (v := (32767 : Int32)) hx hb d_ST_isSafePrime_7 (by decide) ?_
    refine lv_icmp_gt hx hb d_ST_isSafePrime_10 (tgt := 35) (by decide) (fun h10 => ?_) (fun h10 => ?_)
    · rw [if_pos h10] at hr
      refine lv_iconst (v := (0 : Int32)) hx hb d_ST_isSafePrime_35 (by decide) ?_
      exact xg_zret hx hb ht hl0 rfl hr d_ST_isSafePrime_36
    · rw [if_neg h10] at hr
      refine lv_iload_n hx hb d_ST_isSafePrime_13 rfl (lv_at hl 0 rfl) ?_
      refine xg_read (xg_runS (rest := []) (kw := 0) si_ST_249 hg hw S (ct_ST_isPrime l hg s.heap number (xs_small h10)) ⟨by decide, by decide, by decide, by decide⟩ rfl hl.1 rfl (Nat.le_of_ble_eq_true rfl) d_ST_isSafePrime_14) ?_
      refine lv_if_eq hx hb d_ST_isSafePrime_17 (tgt := 35) (by decide) (fun h17 => ?_) (fun h17 => ?_)
      · rw [if_pos h17] at hr
        refine lv_iconst (v := (0 : Int32)) hx hb d_ST_isSafePrime_35 (by decide) ?_
        exact xg_zret hx hb ht hl0 rfl hr d_ST_isSafePrime_36
      · rw [if_neg h17] at hr
        refine lv_iload_n hx hb d_ST_isSafePrime_20 rfl (lv_at hl 0 rfl) ?_
        refine lv_iconst (v := (1 : Int32)) hx hb d_ST_isSafePrime_21 (by decide) ?_
        refine lv_isub hx hb d_ST_isSafePrime_22 ?_
        refine lv_iconst (v := (2 : Int32)) hx hb d_ST_isSafePrime_23 (by decide) ?_
        refine lv_idiv hx hb d_ST_isSafePrime_24 (by decide) ?_
        refine xg_read (xg_runS (rest := []) (kw := 0) si_ST_249 hg hw S (ct_ST_isPrime l hg s.heap ((number - (1 : Int32)) / (2 : Int32)) (xs_half h3 h10)) ⟨by decide, by decide, by decide, by decide⟩ rfl hl.1 rfl (Nat.le_of_ble_eq_true rfl) d_ST_isSafePrime_25) ?_
        refine lv_if_eq hx hb d_ST_isSafePrime_28 (tgt := 35) (by decide) (fun h28 => ?_) (fun h28 => ?_)
        · rw [if_pos h28] at hr
          refine lv_iconst (v := (0 : Int32)) hx hb d_ST_isSafePrime_35 (by decide) ?_
          exact xg_zret hx hb ht hl0 rfl hr d_ST_isSafePrime_36
        · rw [if_neg h28] at hr
          refine lv_iconst (v := (1 : Int32)) hx hb d_ST_isSafePrime_31 (by decide) ?_
          refine lv_goto hx hb d_ST_isSafePrime_32 (tgt := 36) (by decide) ?_
          exact xg_zret hx hb ht hl0 rfl hr d_ST_isSafePrime_36
def f_KE_power (number : Int64) (exponent : Int64) (modulus : Int64) : Int64 := f_ST_powerModulo number exponent modulus
set_option maxHeartbeats 4000000 in
set_option maxRecDepth 100000 in
theorem ct_KE_power (l : Launch) {G : xg_G} (hg : xg_F G) (H : Heap) (k : Nat) (number : Int64) (exponent : Int64) (sh : Nat) (ch : Nat) (dealt : Int32) (epoch : Int64) (base : Int64) (whole : Int64) (signing : Int64) (pp : Int64) (qq : Int64) (modulus : Int64) (order : Int64) (hP : va_P G.2.1 cl_all [(k, .inr (1, [.ref sh, .ref ch, .int dealt, .long epoch, .long base, .long whole, .long signing, .long pp, .long qq, .long modulus, .long order]))] H)  : xc_Met l y_KE_power (.code y_KE_power b_KE_power 5 (some .long)) ({ frames := 2, cells := 0, slots := 0, locals := 41 } : Room) (xg_Pc G [.ref k, .long number, .long exponent] H) (xc_ro (some (.long (f_KE_power number exponent modulus))) H) (fun _ => False) := by
  refine xc_ofW (by decide) ?_
  intro p e s m args below meth c s₁ B hml hE hv
  obtain ⟨rfl, rfl, hw⟩ := hv
  have hx := B.exec
  have hb := B.bytes
  have ht := B.returns
  have hl0 := B.notSynchronized
  have S : xc_Fix p m c b_KE_power 5 s "SealTrust$Key" := ⟨hx, hb, hml, findClass_of_methodNamed B.named⟩
  have hl := lv_entry ([.ref k, .long number, .long exponent]) (n := 5) (Nat.le_of_ble_eq_true rfl)
  rw [lg_entry_eq]
  generalize (lg_sl ([.ref k, .long number, .long exponent]) ++ List.replicate (5 - (lg_sl ([.ref k, .long number, .long exponent])).length) Slot.unset).toArray = ls at hl ⊢
  have hl : lv_has ls 5 [(0, .ref k), (1, .long number), (3, .long exponent)] := hl
  obtain ⟨r, hr⟩ : ∃ r, f_KE_power number exponent modulus = r := ⟨_, rfl⟩
  rw [hr]
  unfold f_KE_power at hr
  refine lv_lload_n hx hb d_KE_power_0 rfl (lv_at hl 1 rfl) ?_
  refine lv_lload_n hx hb d_KE_power_1 rfl (lv_at hl 2 rfl) ?_
  refine lv_aload_n hx hb d_KE_power_2 rfl (lv_at hl 0 rfl) ?_
  refine gf_KE_25 hg hw S hP 0 rfl rfl d_KE_power_3 ?_
  refine xg_read (xg_runSN (rest := []) (kw := 0) si_KE_35 hg hw S (ct_ST_powerModulo l hg s.heap number exponent modulus ) ⟨by decide, by decide, by decide, by decide⟩ rfl hl.1 rfl (Nat.le_of_ble_eq_true rfl) d_KE_power_6) ?_
  exact xg_lret hx hb ht hl0 hr d_KE_power_9
def f_KE_times (a : Int64) (b : Int64) (modulus : Int64) : Int64 := f_ST_rest (a * b) modulus
set_option maxHeartbeats 4000000 in
set_option maxRecDepth 100000 in
theorem ct_KE_times (l : Launch) {G : xg_G} (hg : xg_F G) (H : Heap) (k : Nat) (a : Int64) (b : Int64) (sh : Nat) (ch : Nat) (dealt : Int32) (epoch : Int64) (base : Int64) (whole : Int64) (signing : Int64) (pp : Int64) (qq : Int64) (modulus : Int64) (order : Int64) (hP : va_P G.2.1 cl_all [(k, .inr (1, [.ref sh, .ref ch, .int dealt, .long epoch, .long base, .long whole, .long signing, .long pp, .long qq, .long modulus, .long order]))] H)  : xc_Met l y_KE_times (.code y_KE_times b_KE_times 5 (some .long)) ({ frames := 1, cells := 0, slots := 0, locals := 17 } : Room) (xg_Pc G [.ref k, .long a, .long b] H) (xc_ro (some (.long (f_KE_times a b modulus))) H) (fun _ => False) := by
  refine xc_ofW (by decide) ?_
  intro p e s m args below meth c s₁ B hml hE hv
  obtain ⟨rfl, rfl, hw⟩ := hv
  have hx := B.exec
  have hb := B.bytes
  have ht := B.returns
  have hl0 := B.notSynchronized
  have S : xc_Fix p m c b_KE_times 5 s "SealTrust$Key" := ⟨hx, hb, hml, findClass_of_methodNamed B.named⟩
  have hl := lv_entry ([.ref k, .long a, .long b]) (n := 5) (Nat.le_of_ble_eq_true rfl)
  rw [lg_entry_eq]
  generalize (lg_sl ([.ref k, .long a, .long b]) ++ List.replicate (5 - (lg_sl ([.ref k, .long a, .long b])).length) Slot.unset).toArray = ls at hl ⊢
  have hl : lv_has ls 5 [(0, .ref k), (1, .long a), (3, .long b)] := hl
  obtain ⟨r, hr⟩ : ∃ r, f_KE_times a b modulus = r := ⟨_, rfl⟩
  rw [hr]
  unfold f_KE_times at hr
  refine lv_lload_n hx hb d_KE_times_0 rfl (lv_at hl 1 rfl) ?_
  refine lv_lload_n hx hb d_KE_times_1 rfl (lv_at hl 2 rfl) ?_
  refine lv_lmul hx hb d_KE_times_2 ?_
  refine lv_aload_n hx hb d_KE_times_3 rfl (lv_at hl 0 rfl) ?_
  refine gf_KE_25 hg hw S hP 0 rfl rfl d_KE_times_4 ?_
  refine xg_read (xg_runSN (rest := []) (kw := 0) si_KE_42 hg hw S (ct_ST_rest l hg s.heap (a * b) modulus ) ⟨by decide, by decide, by decide, by decide⟩ rfl hl.1 rfl (Nat.le_of_ble_eq_true rfl) d_KE_times_7) ?_
  exact xg_lret hx hb ht hl0 hr d_KE_times_10
def f_KE_inversePower (number : Int64) (ex : Int64) (modulus : Int64) (order : Int64) : Int64 := f_KE_power number (f_ST_rest (-ex) ((2 : Int64) * order)) modulus
set_option maxHeartbeats 4000000 in
set_option maxRecDepth 100000 in
theorem ct_KE_inversePower (l : Launch) {G : xg_G} (hg : xg_F G) (H : Heap) (k : Nat) (number : Int64) (ex : Int64) (sh : Nat) (ch : Nat) (dealt : Int32) (epoch : Int64) (base : Int64) (whole : Int64) (signing : Int64) (pp : Int64) (qq : Int64) (modulus : Int64) (order : Int64) (hP : va_P G.2.1 cl_all [(k, .inr (1, [.ref sh, .ref ch, .int dealt, .long epoch, .long base, .long whole, .long signing, .long pp, .long qq, .long modulus, .long order]))] H)  : xc_Met l y_KE_inversePower (.code y_KE_inversePower b_KE_inversePower 5 (some .long)) ({ frames := 3, cells := 0, slots := 0, locals := 57 } : Room) (xg_Pc G [.ref k, .long number, .long ex] H) (xc_ro (some (.long (f_KE_inversePower number ex modulus order))) H) (fun _ => False) := by
  refine xc_ofW (by decide) ?_
  intro p e s m args below meth c s₁ B hml hE hv
  obtain ⟨rfl, rfl, hw⟩ := hv
  have hx := B.exec
  have hb := B.bytes
  have ht := B.returns
  have hl0 := B.notSynchronized
  have S : xc_Fix p m c b_KE_inversePower 5 s "SealTrust$Key" := ⟨hx, hb, hml, findClass_of_methodNamed B.named⟩
  have hl := lv_entry ([.ref k, .long number, .long ex]) (n := 5) (Nat.le_of_ble_eq_true rfl)
  rw [lg_entry_eq]
  generalize (lg_sl ([.ref k, .long number, .long ex]) ++ List.replicate (5 - (lg_sl ([.ref k, .long number, .long ex])).length) Slot.unset).toArray = ls at hl ⊢
  have hl : lv_has ls 5 [(0, .ref k), (1, .long number), (3, .long ex)] := hl
  obtain ⟨r, hr⟩ : ∃ r, f_KE_inversePower number ex modulus order = r := ⟨_, rfl⟩
  rw [hr]
  unfold f_KE_inversePower at hr
  refine lv_aload_n hx hb d_KE_inversePower_0 rfl (lv_at hl 0 rfl) ?_
  refine lv_lload_n hx hb d_KE_inversePower_1 rfl (lv_at hl 1 rfl) ?_
  refine lv_lload_n hx hb d_KE_inversePower_2 rfl (lv_at hl 2 rfl) ?_
  refine lv_lneg hx hb d_KE_inversePower_3 ?_
  refine kc_KE_28 hg hw S d_KE_inversePower_4 ?_
  refine lv_aload_n hx hb d_KE_inversePower_7 rfl (lv_at hl 0 rfl) ?_
  refine gf_KE_30 hg hw S hP 0 rfl rfl d_KE_inversePower_8 ?_
  refine lv_lmul hx hb d_KE_inversePower_11 ?_
  refine xg_read (xg_runSN (rest := [.long number, .ref k]) (kw := 3) si_KE_42 hg hw S (ct_ST_rest l hg s.heap (-ex) ((2 : Int64) * order) ) ⟨by decide, by decide, by decide, by decide⟩ rfl hl.1 rfl (Nat.le_of_ble_eq_true rfl) d_KE_inversePower_12) ?_
  refine xg_read (xg_runV (rest := []) (kw := 0) si_KE_59 hg hw S (va_recv (xg_k hg hw) hP (ci := 1) rfl (q0 := 0) rfl) (ct_KE_power l hg s.heap k number (f_ST_rest (-ex) ((2 : Int64) * order)) sh ch dealt epoch base whole signing pp qq modulus order (hP.sub [0] rfl) ) ⟨by decide, by decide, by decide, by decide⟩ rfl hl.1 rfl (Nat.le_of_ble_eq_true rfl) d_KE_inversePower_15) ?_
  exact xg_lret hx hb ht hl0 hr d_KE_inversePower_18
def f_KE_isBelowModulus (number : Int64) (modulus : Int64) : Int32 := if number < (0 : Int64) then (0 : Int32) else (if modulus ≤ number then (0 : Int32) else (1 : Int32))
set_option maxHeartbeats 4000000 in
set_option maxRecDepth 100000 in
theorem ct_KE_isBelowModulus (l : Launch) {G : xg_G} (hg : xg_F G) (H : Heap) (k : Nat) (number : Int64) (sh : Nat) (ch : Nat) (dealt : Int32) (epoch : Int64) (base : Int64) (whole : Int64) (signing : Int64) (pp : Int64) (qq : Int64) (modulus : Int64) (order : Int64) (hP : va_P G.2.1 cl_all [(k, .inr (1, [.ref sh, .ref ch, .int dealt, .long epoch, .long base, .long whole, .long signing, .long pp, .long qq, .long modulus, .long order]))] H)  : xc_Met l y_KE_isBelowModulus (.code y_KE_isBelowModulus b_KE_isBelowModulus 3 (some .boolean)) ({ frames := 0, cells := 0, slots := 0, locals := 0 } : Room) (xg_Pc G [.ref k, .long number] H) (xc_ro (some (.int (f_KE_isBelowModulus number modulus))) H) (fun _ => False) := by
  refine xc_ofW (by decide) ?_
  intro p e s m args below meth c s₁ B hml hE hv
  obtain ⟨rfl, rfl, hw⟩ := hv
  have hx := B.exec
  have hb := B.bytes
  have ht := B.returns
  have hl0 := B.notSynchronized
  have S : xc_Fix p m c b_KE_isBelowModulus 3 s "SealTrust$Key" := ⟨hx, hb, hml, findClass_of_methodNamed B.named⟩
  have hl := lv_entry ([.ref k, .long number]) (n := 3) (Nat.le_of_ble_eq_true rfl)
  rw [lg_entry_eq]
  generalize (lg_sl ([.ref k, .long number]) ++ List.replicate (3 - (lg_sl ([.ref k, .long number])).length) Slot.unset).toArray = ls at hl ⊢
  have hl : lv_has ls 3 [(0, .ref k), (1, .long number)] := hl
  obtain ⟨r, hr⟩ : ∃ r, f_KE_isBelowModulus number modulus = r := ⟨_, rfl⟩
  rw [hr]
  unfold f_KE_isBelowModulus at hr
  refine lv_lload_n hx hb d_KE_isBelowModulus_0 rfl (lv_at hl 1 rfl) ?_
  refine lv_lconst (v := (0 : Int64)) hx hb d_KE_isBelowModulus_1 (by decide) ?_
  refine W.lcmp hx hb d_KE_isBelowModulus_2 ?_
  refine lv_if_lt hx hb d_KE_isBelowModulus_3 (tgt := 19) (by decide) (fun h3 => ?_) (fun h3 => ?_)
  · rw [lg_cmp_lt] at h3
    rw [if_pos h3] at hr
    refine lv_iconst (v := (0 : Int32)) hx hb d_KE_isBelowModulus_19 (by decide) ?_
    exact xg_zret hx hb ht hl0 rfl hr d_KE_isBelowModulus_20
  · rw [lg_cmp_lt] at h3
    rw [if_neg h3] at hr
    refine lv_lload_n hx hb d_KE_isBelowModulus_6 rfl (lv_at hl 1 rfl) ?_
    refine lv_aload_n hx hb d_KE_isBelowModulus_7 rfl (lv_at hl 0 rfl) ?_
    refine gf_KE_25 hg hw S hP 0 rfl rfl d_KE_isBelowModulus_8 ?_
    refine W.lcmp hx hb d_KE_isBelowModulus_11 ?_
    refine lv_if_ge hx hb d_KE_isBelowModulus_12 (tgt := 19) (by decide) (fun h12 => ?_) (fun h12 => ?_)
    · rw [lg_cmp_ge] at h12
      rw [if_pos h12] at hr
      refine lv_iconst (v := (0 : Int32)) hx hb d_KE_isBelowModulus_19 (by decide) ?_
      exact xg_zret hx hb ht hl0 rfl hr d_KE_isBelowModulus_20
    · rw [lg_cmp_ge] at h12
      rw [if_neg h12] at hr
      refine lv_iconst (v := (1 : Int32)) hx hb d_KE_isBelowModulus_15 (by decide) ?_
      refine lv_goto hx hb d_KE_isBelowModulus_16 (tgt := 20) (by decide) ?_
      exact xg_zret hx hb ht hl0 rfl hr d_KE_isBelowModulus_20
def f_KE_isPrimeToModulus (number : Int64) (pp : Int64) (qq : Int64) : Int32 := if (f_ST_rest number pp) = (0 : Int64) then (0 : Int32) else (if (f_ST_rest number qq) = (0 : Int64) then (0 : Int32) else (1 : Int32))
set_option maxHeartbeats 4000000 in
set_option maxRecDepth 100000 in
theorem ct_KE_isPrimeToModulus (l : Launch) {G : xg_G} (hg : xg_F G) (H : Heap) (k : Nat) (number : Int64) (sh : Nat) (ch : Nat) (dealt : Int32) (epoch : Int64) (base : Int64) (whole : Int64) (signing : Int64) (pp : Int64) (qq : Int64) (modulus : Int64) (order : Int64) (hP : va_P G.2.1 cl_all [(k, .inr (1, [.ref sh, .ref ch, .int dealt, .long epoch, .long base, .long whole, .long signing, .long pp, .long qq, .long modulus, .long order]))] H)  : xc_Met l y_KE_isPrimeToModulus (.code y_KE_isPrimeToModulus b_KE_isPrimeToModulus 3 (some .boolean)) ({ frames := 1, cells := 0, slots := 0, locals := 17 } : Room) (xg_Pc G [.ref k, .long number] H) (xc_ro (some (.int (f_KE_isPrimeToModulus number pp qq))) H) (fun _ => False) := by
  refine xc_ofW (by decide) ?_
  intro p e s m args below meth c s₁ B hml hE hv
  obtain ⟨rfl, rfl, hw⟩ := hv
  have hx := B.exec
  have hb := B.bytes
  have ht := B.returns
  have hl0 := B.notSynchronized
  have S : xc_Fix p m c b_KE_isPrimeToModulus 3 s "SealTrust$Key" := ⟨hx, hb, hml, findClass_of_methodNamed B.named⟩
  have hl := lv_entry ([.ref k, .long number]) (n := 3) (Nat.le_of_ble_eq_true rfl)
  rw [lg_entry_eq]
  generalize (lg_sl ([.ref k, .long number]) ++ List.replicate (3 - (lg_sl ([.ref k, .long number])).length) Slot.unset).toArray = ls at hl ⊢
  have hl : lv_has ls 3 [(0, .ref k), (1, .long number)] := hl
  obtain ⟨r, hr⟩ : ∃ r, f_KE_isPrimeToModulus number pp qq = r := ⟨_, rfl⟩
  rw [hr]
  unfold f_KE_isPrimeToModulus at hr
  refine lv_lload_n hx hb d_KE_isPrimeToModulus_0 rfl (lv_at hl 1 rfl) ?_
  refine lv_aload_n hx hb d_KE_isPrimeToModulus_1 rfl (lv_at hl 0 rfl) ?_
  refine gf_KE_18 hg hw S hP 0 rfl rfl d_KE_isPrimeToModulus_2 ?_
  refine xg_read (xg_runSN (rest := []) (kw := 0) si_KE_42 hg hw S (ct_ST_rest l hg s.heap number pp ) ⟨by decide, by decide, by decide, by decide⟩ rfl hl.1 rfl (Nat.le_of_ble_eq_true rfl) d_KE_isPrimeToModulus_5) ?_
  refine lv_lconst (v := (0 : Int64)) hx hb d_KE_isPrimeToModulus_8 (by decide) ?_
  refine W.lcmp hx hb d_KE_isPrimeToModulus_9 ?_
  refine lv_if_eq hx hb d_KE_isPrimeToModulus_10 (tgt := 30) (by decide) (fun h10 => ?_) (fun h10 => ?_)
  · rw [lg_cmp_eq] at h10
    rw [if_pos h10] at hr
    refine lv_iconst (v := (0 : Int32)) hx hb d_KE_isPrimeToModulus_30 (by decide) ?_
    exact xg_zret hx hb ht hl0 rfl hr d_KE_isPrimeToModulus_31
  · rw [lg_cmp_eq] at h10
    rw [if_neg h10] at hr
    refine lv_lload_n hx hb d_KE_isPrimeToModulus_13 rfl (lv_at hl 1 rfl) ?_
    refine lv_aload_n hx hb d_KE_isPrimeToModulus_14 rfl (lv_at hl 0 rfl) ?_
    refine gf_KE_22 hg hw S hP 0 rfl rfl d_KE_isPrimeToModulus_15 ?_
    refine xg_read (xg_runSN (rest := []) (kw := 0) si_KE_42 hg hw S (ct_ST_rest l hg s.heap number qq ) ⟨by decide, by decide, by decide, by decide⟩ rfl hl.1 rfl (Nat.le_of_ble_eq_true rfl) d_KE_isPrimeToModulus_18) ?_
    refine lv_lconst (v := (0 : Int64)) hx hb d_KE_isPrimeToModulus_21 (by decide) ?_
    refine W.lcmp hx hb d_KE_isPrimeToModulus_22 ?_
    refine lv_if_eq hx hb d_KE_isPrimeToModulus_23 (tgt := 30) (by decide) (fun h23 => ?_) (fun h23 => ?_)
    · rw [lg_cmp_eq] at h23
      rw [if_pos h23] at hr
      refine lv_iconst (v := (0 : Int32)) hx hb d_KE_isPrimeToModulus_30 (by decide) ?_
      exact xg_zret hx hb ht hl0 rfl hr d_KE_isPrimeToModulus_31
    · rw [lg_cmp_eq] at h23
      rw [if_neg h23] at hr
      refine lv_iconst (v := (1 : Int32)) hx hb d_KE_isPrimeToModulus_26 (by decide) ?_
      refine lv_goto hx hb d_KE_isPrimeToModulus_27 (tgt := 31) (by decide) ?_
      exact xg_zret hx hb ht hl0 rfl hr d_KE_isPrimeToModulus_31
def f_KE_signatureOf (blk : Int64) (signing : Int64) (modulus : Int64) : Int64 := f_KE_power blk signing modulus
set_option maxHeartbeats 4000000 in
set_option maxRecDepth 100000 in
theorem ct_KE_signatureOf (l : Launch) {G : xg_G} (hg : xg_F G) (H : Heap) (k : Nat) (blk : Int64) (sh : Nat) (ch : Nat) (dealt : Int32) (epoch : Int64) (base : Int64) (whole : Int64) (signing : Int64) (pp : Int64) (qq : Int64) (modulus : Int64) (order : Int64) (hP : va_P G.2.1 cl_all [(k, .inr (1, [.ref sh, .ref ch, .int dealt, .long epoch, .long base, .long whole, .long signing, .long pp, .long qq, .long modulus, .long order]))] H)  : xc_Met l y_KE_signatureOf (.code y_KE_signatureOf b_KE_signatureOf 3 (some .long)) ({ frames := 3, cells := 0, slots := 0, locals := 57 } : Room) (xg_Pc G [.ref k, .long blk] H) (xc_ro (some (.long (f_KE_signatureOf blk signing modulus))) H) (fun _ => False) := by
  refine xc_ofW (by decide) ?_
  intro p e s m args below meth c s₁ B hml hE hv
  obtain ⟨rfl, rfl, hw⟩ := hv
  have hx := B.exec
  have hb := B.bytes
  have ht := B.returns
  have hl0 := B.notSynchronized
  have S : xc_Fix p m c b_KE_signatureOf 3 s "SealTrust$Key" := ⟨hx, hb, hml, findClass_of_methodNamed B.named⟩
  have hl := lv_entry ([.ref k, .long blk]) (n := 3) (Nat.le_of_ble_eq_true rfl)
  rw [lg_entry_eq]
  generalize (lg_sl ([.ref k, .long blk]) ++ List.replicate (3 - (lg_sl ([.ref k, .long blk])).length) Slot.unset).toArray = ls at hl ⊢
  have hl : lv_has ls 3 [(0, .ref k), (1, .long blk)] := hl
  obtain ⟨r, hr⟩ : ∃ r, f_KE_signatureOf blk signing modulus = r := ⟨_, rfl⟩
  rw [hr]
  unfold f_KE_signatureOf at hr
  refine lv_aload_n hx hb d_KE_signatureOf_0 rfl (lv_at hl 0 rfl) ?_
  refine lv_lload_n hx hb d_KE_signatureOf_1 rfl (lv_at hl 1 rfl) ?_
  refine lv_aload_n hx hb d_KE_signatureOf_2 rfl (lv_at hl 0 rfl) ?_
  refine gf_KE_39 hg hw S hP 0 rfl rfl d_KE_signatureOf_3 ?_
  refine xg_read (xg_runV (rest := []) (kw := 0) si_KE_59 hg hw S (va_recv (xg_k hg hw) hP (ci := 1) rfl (q0 := 0) rfl) (ct_KE_power l hg s.heap k blk signing sh ch dealt epoch base whole signing pp qq modulus order (hP.sub [0] rfl) ) ⟨by decide, by decide, by decide, by decide⟩ rfl hl.1 rfl (Nat.le_of_ble_eq_true rfl) d_KE_signatureOf_6) ?_
  exact xg_lret hx hb ht hl0 hr d_KE_signatureOf_9
def f_KE_isSignature (number : Int64) (blk : Int64) (modulus : Int64) : Int32 := if (f_KE_isBelowModulus number modulus) = 0 then (0 : Int32) else (if (f_KE_power number (65537 : Int64) modulus) = blk then (1 : Int32) else (0 : Int32))
set_option maxHeartbeats 4000000 in
set_option maxRecDepth 100000 in
theorem ct_KE_isSignature (l : Launch) {G : xg_G} (hg : xg_F G) (H : Heap) (k : Nat) (number : Int64) (blk : Int64) (sh : Nat) (ch : Nat) (dealt : Int32) (epoch : Int64) (base : Int64) (whole : Int64) (signing : Int64) (pp : Int64) (qq : Int64) (modulus : Int64) (order : Int64) (hP : va_P G.2.1 cl_all [(k, .inr (1, [.ref sh, .ref ch, .int dealt, .long epoch, .long base, .long whole, .long signing, .long pp, .long qq, .long modulus, .long order]))] H)  : xc_Met l y_KE_isSignature (.code y_KE_isSignature b_KE_isSignature 5 (some .boolean)) ({ frames := 3, cells := 0, slots := 0, locals := 57 } : Room) (xg_Pc G [.ref k, .long number, .long blk] H) (xc_ro (some (.int (f_KE_isSignature number blk modulus))) H) (fun _ => False) := by
  refine xc_ofW (by decide) ?_
  intro p e s m args below meth c s₁ B hml hE hv
  obtain ⟨rfl, rfl, hw⟩ := hv
  have hx := B.exec
  have hb := B.bytes
  have ht := B.returns
  have hl0 := B.notSynchronized
  have S : xc_Fix p m c b_KE_isSignature 5 s "SealTrust$Key" := ⟨hx, hb, hml, findClass_of_methodNamed B.named⟩
  have hl := lv_entry ([.ref k, .long number, .long blk]) (n := 5) (Nat.le_of_ble_eq_true rfl)
  rw [lg_entry_eq]
  generalize (lg_sl ([.ref k, .long number, .long blk]) ++ List.replicate (5 - (lg_sl ([.ref k, .long number, .long blk])).length) Slot.unset).toArray = ls at hl ⊢
  have hl : lv_has ls 5 [(0, .ref k), (1, .long number), (3, .long blk)] := hl
  obtain ⟨r, hr⟩ : ∃ r, f_KE_isSignature number blk modulus = r := ⟨_, rfl⟩
  rw [hr]
  unfold f_KE_isSignature at hr
  refine lv_aload_n hx hb d_KE_isSignature_0 rfl (lv_at hl 0 rfl) ?_
  refine lv_lload_n hx hb d_KE_isSignature_1 rfl (lv_at hl 1 rfl) ?_
  refine xg_read (xg_runV (rest := []) (kw := 0) si_KE_70 hg hw S (va_recv (xg_k hg hw) hP (ci := 1) rfl (q0 := 0) rfl) (ct_KE_isBelowModulus l hg s.heap k number sh ch dealt epoch base whole signing pp qq modulus order (hP.sub [0] rfl) ) ⟨by decide, by decide, by decide, by decide⟩ rfl hl.1 rfl (Nat.le_of_ble_eq_true rfl) d_KE_isSignature_2) ?_
  refine lv_if_eq hx hb d_KE_isSignature_5 (tgt := 25) (by decide) (fun h5 => ?_) (fun h5 => ?_)
  · rw [if_pos h5] at hr
    refine lv_iconst (v := (0 : Int32)) hx hb d_KE_isSignature_25 (by decide) ?_
    exact xg_zret hx hb ht hl0 rfl hr d_KE_isSignature_26
  · rw [if_neg h5] at hr
    refine lv_aload_n hx hb d_KE_isSignature_8 rfl (lv_at hl 0 rfl) ?_
    refine lv_lload_n hx hb d_KE_isSignature_9 rfl (lv_at hl 1 rfl) ?_
    refine kc_KE_33 hg hw S d_KE_isSignature_10 ?_
    refine xg_read (xg_runV (rest := []) (kw := 0) si_KE_59 hg hw S (va_recv (xg_k hg hw) hP (ci := 1) rfl (q0 := 0) rfl) (ct_KE_power l hg s.heap k number (65537 : Int64) sh ch dealt epoch base whole signing pp qq modulus order (hP.sub [0] rfl) ) ⟨by decide, by decide, by decide, by decide⟩ rfl hl.1 rfl (Nat.le_of_ble_eq_true rfl) d_KE_isSignature_13) ?_
    refine lv_lload_n hx hb d_KE_isSignature_16 rfl (lv_at hl 2 rfl) ?_
    refine W.lcmp hx hb d_KE_isSignature_17 ?_
    refine lv_if_ne hx hb d_KE_isSignature_18 (tgt := 25) (by decide) (fun h18 => ?_) (fun h18 => ?_)
    · rw [lg_cmp_eq] at h18
      rw [if_neg h18] at hr
      refine lv_iconst (v := (0 : Int32)) hx hb d_KE_isSignature_25 (by decide) ?_
      exact xg_zret hx hb ht hl0 rfl hr d_KE_isSignature_26
    · rw [lg_cmp_eq] at h18
      rw [if_pos h18] at hr
      refine lv_iconst (v := (1 : Int32)) hx hb d_KE_isSignature_21 (by decide) ?_
      refine lv_goto hx hb d_KE_isSignature_22 (tgt := 26) (by decide) ?_
      exact xg_zret hx hb ht hl0 rfl hr d_KE_isSignature_26
def f_BU_count (size : Int32) : Int32 := size
set_option maxHeartbeats 4000000 in
set_option maxRecDepth 100000 in
theorem ct_BU_count (l : Launch) {G : xg_G} (hg : xg_F G) (H : Heap) (bu : Nat) (bys : Nat) (size : Int32) (hP : va_P G.2.1 cl_all [(bu, .inr (0, [.ref bys, .int size]))] H)  : xc_Met l y_BU_count (.code y_BU_count b_BU_count 1 (some .int)) ({ frames := 0, cells := 0, slots := 0, locals := 0 } : Room) (xg_Pc G [.ref bu] H) (xc_ro (some (.int (f_BU_count size))) H) (fun _ => False) := by
  refine xc_ofW (by decide) ?_
  intro p e s m args below meth c s₁ B hml hE hv
  obtain ⟨rfl, rfl, hw⟩ := hv
  have hx := B.exec
  have hb := B.bytes
  have ht := B.returns
  have hl0 := B.notSynchronized
  have S : xc_Fix p m c b_BU_count 1 s "SealTrust$Buffer" := ⟨hx, hb, hml, findClass_of_methodNamed B.named⟩
  have hl := lv_entry ([.ref bu]) (n := 1) (Nat.le_of_ble_eq_true rfl)
  rw [lg_entry_eq]
  generalize (lg_sl ([.ref bu]) ++ List.replicate (1 - (lg_sl ([.ref bu])).length) Slot.unset).toArray = ls at hl ⊢
  have hl : lv_has ls 1 [(0, .ref bu)] := hl
  obtain ⟨r, hr⟩ : ∃ r, f_BU_count size = r := ⟨_, rfl⟩
  rw [hr]
  unfold f_BU_count at hr
  refine lv_aload_n hx hb d_BU_count_0 rfl (lv_at hl 0 rfl) ?_
  refine gf_BU_15 hg hw S hP 0 rfl rfl d_BU_count_1 ?_
  exact xg_iret hx hb ht hl0 hr d_BU_count_4
def f_BU_room (size : Int32) : Int32 := (24 : Int32) - size
set_option maxHeartbeats 4000000 in
set_option maxRecDepth 100000 in
theorem ct_BU_room (l : Launch) {G : xg_G} (hg : xg_F G) (H : Heap) (bu : Nat) (bys : Nat) (size : Int32) (hP : va_P G.2.1 cl_all [(bu, .inr (0, [.ref bys, .int size]))] H)  : xc_Met l y_BU_room (.code y_BU_room b_BU_room 1 (some .int)) ({ frames := 0, cells := 0, slots := 0, locals := 0 } : Room) (xg_Pc G [.ref bu] H) (xc_ro (some (.int (f_BU_room size))) H) (fun _ => False) := by
  refine xc_ofW (by decide) ?_
  intro p e s m args below meth c s₁ B hml hE hv
  obtain ⟨rfl, rfl, hw⟩ := hv
  have hx := B.exec
  have hb := B.bytes
  have ht := B.returns
  have hl0 := B.notSynchronized
  have S : xc_Fix p m c b_BU_room 1 s "SealTrust$Buffer" := ⟨hx, hb, hml, findClass_of_methodNamed B.named⟩
  have hl := lv_entry ([.ref bu]) (n := 1) (Nat.le_of_ble_eq_true rfl)
  rw [lg_entry_eq]
  generalize (lg_sl ([.ref bu]) ++ List.replicate (1 - (lg_sl ([.ref bu])).length) Slot.unset).toArray = ls at hl ⊢
  have hl : lv_has ls 1 [(0, .ref bu)] := hl
  obtain ⟨r, hr⟩ : ∃ r, f_BU_room size = r := ⟨_, rfl⟩
  rw [hr]
  unfold f_BU_room at hr
  refine lv_bipush (v := (24 : Int32)) hx hb d_BU_room_0 (by decide) ?_
  refine lv_aload_n hx hb d_BU_room_2 rfl (lv_at hl 0 rfl) ?_
  refine gf_BU_15 hg hw S hP 0 rfl rfl d_BU_room_3 ?_
  refine lv_isub hx hb d_BU_room_6 ?_
  exact xg_iret hx hb ht hl0 hr d_BU_room_7
def lf_BU_mix_6 (bytes : Nat → Int32) (size : Int32) : Nat → Int64 → Int32 → Int64
  | 0, _, _ => 0
  | n + 1, mixed, i => if size ≤ i then (f_ST_mixOf (f_ST_mixIn mixed size.toInt64)) else (lf_BU_mix_6 bytes size n (f_ST_mixIn mixed ((bytes i.toNatClampNeg).toInt64)) (i + (1 : Int32)))
def f_BU_mix (bytes : Nat → Int32) (size : Int32) : Int64 := lf_BU_mix_6 bytes size 25 (7 : Int64) (0 : Int32)
set_option maxHeartbeats 4000000 in
set_option maxRecDepth 100000 in
theorem wl_BU_mix_6 {p : Program} {l : Launch} {e : Env} {s : State} {m : MethodId} {args : Array Value} {below : List Frame} {meth : Method} {c : Code} {G : xg_G} {bu : Nat} {bys : Nat} {size : Int32} {bytes : Nat → Int32} (hg : xg_F G) (hw : G.1.WarmedH s.vm) (S : xc_Fix p m c b_BU_mix 4 s "SealTrust$Buffer") (hP : va_P G.2.1 cl_all [(bu, .inr (0, [.ref bys, .int size])), (bys, .inl (G.2.2.1, 24, .inl bytes))] s.heap) (hl0 : meth.locks = false) (ht : meth.sig.returnType = (some .long)) (hZ : size.toInt ≤ 24) : ∀ (n : Nat) (mixed : Int64) (i : Int32) (r : Int64) (ls : Array Slot), lf_BU_mix_6 bytes size n mixed i = r → (0 ≤ i.toInt ∧ (size.toInt - i.toInt).toNat < n) → lv_has ls 4 [(3, .int i), (1, .long mixed), (0, .ref bu)] → W p l e ({ frames := 1, cells := 0, slots := 0, locals := 15 } : Room) s m args below meth c s.heap [] 0 0 (xg_Z below (some (.long r)) args s) (F0 m 6 ls []) := by
  have hx := S.1
  have hb := S.2.1
  intro n
  induction n with
  | zero =>
    intro mixed i r ls hr hmu hl
    omega
  | succ n ih =>
    intro mixed i r ls hr hmu hl
    rw [lf_BU_mix_6] at hr
    refine lv_iload_n hx hb d_BU_mix_6 rfl (lv_at hl 0 rfl) ?_
    refine lv_aload_n hx hb d_BU_mix_7 rfl (lv_at hl 2 rfl) ?_
    refine gf_BU_15 hg hw S hP 0 rfl rfl d_BU_mix_8 ?_
    refine lv_icmp_ge hx hb d_BU_mix_11 (tgt := 32) (by decide) (fun h11 => ?_) (fun h11 => ?_)
    · rw [if_pos h11] at hr
      refine lv_lload_n hx hb d_BU_mix_32 rfl (lv_at hl 1 rfl) ?_
      refine lv_aload_n hx hb d_BU_mix_33 rfl (lv_at hl 2 rfl) ?_
      refine gf_BU_15 hg hw S hP 0 rfl rfl d_BU_mix_34 ?_
      refine lv_i2l hx hb d_BU_mix_37 rfl ?_
      refine xg_read (xg_runSN (rest := []) (kw := 0) si_BU_21 hg hw S (ct_ST_mixIn l hg s.heap mixed size.toInt64 ) ⟨by decide, by decide, by decide, by decide⟩ rfl hl.1 rfl (Nat.le_of_ble_eq_true rfl) d_BU_mix_38) ?_
      refine xg_read (xg_runSN (rest := []) (kw := 0) si_BU_25 hg hw S (ct_ST_mixOf l hg s.heap (f_ST_mixIn mixed size.toInt64) ) ⟨by decide, by decide, by decide, by decide⟩ rfl hl.1 rfl (Nat.le_of_ble_eq_true rfl) d_BU_mix_41) ?_
      exact xg_lret hx hb ht hl0 hr d_BU_mix_44
    · rw [if_neg h11] at hr
      refine lv_lload_n hx hb d_BU_mix_14 rfl (lv_at hl 1 rfl) ?_
      refine lv_aload_n hx hb d_BU_mix_15 rfl (lv_at hl 2 rfl) ?_
      refine gf_BU_9 hg hw S hP 0 rfl rfl d_BU_mix_16 ?_
      refine lv_iload_n hx hb d_BU_mix_19 rfl (lv_at hl 0 rfl) ?_
      refine va_iald hx hb (xg_k hg hw) hP 1 0 rfl rfl (xi_in h11 hmu.1 hZ) d_BU_mix_20 ?_
      refine lv_i2l hx hb d_BU_mix_21 rfl ?_
      refine xg_read (xg_runSN (rest := []) (kw := 0) si_BU_21 hg hw S (ct_ST_mixIn l hg s.heap mixed ((bytes i.toNatClampNeg).toInt64) ) ⟨by decide, by decide, by decide, by decide⟩ rfl hl.1 rfl (Nat.le_of_ble_eq_true rfl) d_BU_mix_22) ?_
      refine lv_lstore_n hx hb d_BU_mix_25 rfl hl (by decide) rfl (fun ls hl => ?_)
      have hl : lv_has ls 4 [(1, .long (f_ST_mixIn mixed ((bytes i.toNatClampNeg).toInt64))), (3, .int i), (0, .ref bu)] := hl
      refine lv_iinc (v := i + (1 : Int32)) hx hb d_BU_mix_26 hl (k := 1) rfl rfl (by decide) rfl (fun ls hl => ?_)
      have hl : lv_has ls 4 [(3, .int (i + (1 : Int32))), (1, .long (f_ST_mixIn mixed ((bytes i.toNatClampNeg).toInt64))), (0, .ref bu)] := hl
      refine lv_goto hx hb d_BU_mix_29 (tgt := 6) (by decide) ?_
      exact ih (f_ST_mixIn mixed ((bytes i.toNatClampNeg).toInt64)) (i + (1 : Int32)) r ls hr (xi_up0 h11 hmu) (lv_sub hl [0, 1, 2] rfl)
set_option maxHeartbeats 4000000 in
set_option maxRecDepth 100000 in
theorem ct_BU_mix (l : Launch) {G : xg_G} (hg : xg_F G) (H : Heap) (bu : Nat) (bys : Nat) (size : Int32) (bytes : Nat → Int32) (hP : va_P G.2.1 cl_all [(bu, .inr (0, [.ref bys, .int size])), (bys, .inl (G.2.2.1, 24, .inl bytes))] H) (hZ : size.toInt ≤ 24) : xc_Met l y_BU_mix (.code y_BU_mix b_BU_mix 4 (some .long)) ({ frames := 1, cells := 0, slots := 0, locals := 15 } : Room) (xg_Pc G [.ref bu] H) (xc_ro (some (.long (f_BU_mix bytes size))) H) (fun _ => False) := by
  refine xc_ofW (by decide) ?_
  intro p e s m args below meth c s₁ B hml hE hv
  obtain ⟨rfl, rfl, hw⟩ := hv
  have hx := B.exec
  have hb := B.bytes
  have ht := B.returns
  have hl0 := B.notSynchronized
  have S : xc_Fix p m c b_BU_mix 4 s "SealTrust$Buffer" := ⟨hx, hb, hml, findClass_of_methodNamed B.named⟩
  have hl := lv_entry ([.ref bu]) (n := 4) (Nat.le_of_ble_eq_true rfl)
  rw [lg_entry_eq]
  generalize (lg_sl ([.ref bu]) ++ List.replicate (4 - (lg_sl ([.ref bu])).length) Slot.unset).toArray = ls at hl ⊢
  have hl : lv_has ls 4 [(0, .ref bu)] := hl
  obtain ⟨r, hr⟩ : ∃ r, f_BU_mix bytes size = r := ⟨_, rfl⟩
  rw [hr]
  unfold f_BU_mix at hr
  refine kc_BU_19 hg hw S d_BU_mix_0 ?_
  refine lv_lstore_n hx hb d_BU_mix_3 rfl hl (by decide) rfl (fun ls hl => ?_)
  have hl : lv_has ls 4 [(1, .long (7 : Int64)), (0, .ref bu)] := hl
  refine lv_iconst (v := (0 : Int32)) hx hb d_BU_mix_4 (by decide) ?_
  refine lv_istore_n hx hb d_BU_mix_5 rfl hl (by decide) rfl (fun ls hl => ?_)
  have hl : lv_has ls 4 [(3, .int (0 : Int32)), (1, .long (7 : Int64)), (0, .ref bu)] := hl
  exact wl_BU_mix_6 hg hw S hP hl0 ht hZ 25 (7 : Int64) (0 : Int32) r ls hr ⟨by decide, by rw [show (0 : Int32).toInt = 0 from rfl]; omega⟩ (lv_sub hl [0, 1, 2] rfl)
def f_KE_blockOf (modulus : Int64) (bytes : Nat → Int32) (size : Int32) : Int64 := (2 : Int64) + (f_ST_rest (f_BU_mix bytes size) (modulus - (3 : Int64)))
set_option maxHeartbeats 4000000 in
set_option maxRecDepth 100000 in
theorem ct_KE_blockOf (l : Launch) {G : xg_G} (hg : xg_F G) (H : Heap) (k : Nat) (bu : Nat) (sh : Nat) (ch : Nat) (dealt : Int32) (epoch : Int64) (base : Int64) (whole : Int64) (signing : Int64) (pp : Int64) (qq : Int64) (modulus : Int64) (order : Int64) (bys : Nat) (size : Int32) (bytes : Nat → Int32) (hP : va_P G.2.1 cl_all [(k, .inr (1, [.ref sh, .ref ch, .int dealt, .long epoch, .long base, .long whole, .long signing, .long pp, .long qq, .long modulus, .long order])), (bu, .inr (0, [.ref bys, .int size])), (bys, .inl (G.2.2.1, 24, .inl bytes))] H) (hZ : size.toInt ≤ 24) : xc_Met l y_KE_blockOf (.code y_KE_blockOf b_KE_blockOf 2 (some .long)) ({ frames := 2, cells := 0, slots := 0, locals := 32 } : Room) (xg_Pc G [.ref k, .ref bu] H) (xc_ro (some (.long (f_KE_blockOf modulus bytes size))) H) (fun _ => False) := by
  refine xc_ofW (by decide) ?_
  intro p e s m args below meth c s₁ B hml hE hv
  obtain ⟨rfl, rfl, hw⟩ := hv
  have hx := B.exec
  have hb := B.bytes
  have ht := B.returns
  have hl0 := B.notSynchronized
  have S : xc_Fix p m c b_KE_blockOf 2 s "SealTrust$Key" := ⟨hx, hb, hml, findClass_of_methodNamed B.named⟩
  have hl := lv_entry ([.ref k, .ref bu]) (n := 2) (Nat.le_of_ble_eq_true rfl)
  rw [lg_entry_eq]
  generalize (lg_sl ([.ref k, .ref bu]) ++ List.replicate (2 - (lg_sl ([.ref k, .ref bu])).length) Slot.unset).toArray = ls at hl ⊢
  have hl : lv_has ls 2 [(0, .ref k), (1, .ref bu)] := hl
  obtain ⟨r, hr⟩ : ∃ r, f_KE_blockOf modulus bytes size = r := ⟨_, rfl⟩
  rw [hr]
  unfold f_KE_blockOf at hr
  refine kc_KE_28 hg hw S d_KE_blockOf_0 ?_
  refine lv_aload_n hx hb d_KE_blockOf_3 rfl (lv_at hl 1 rfl) ?_
  refine xg_read (xg_runV (rest := [.long (2 : Int64)]) (kw := 2) si_KE_62 hg hw S (va_recv (xg_k hg hw) hP (ci := 0) rfl (q0 := 1) rfl) (ct_BU_mix l hg s.heap bu bys size bytes (hP.sub [1, 2] rfl) hZ) ⟨by decide, by decide, by decide, by decide⟩ rfl hl.1 rfl (Nat.le_of_ble_eq_true rfl) d_KE_blockOf_4) ?_
  refine lv_aload_n hx hb d_KE_blockOf_7 rfl (lv_at hl 0 rfl) ?_
  refine gf_KE_25 hg hw S hP 0 rfl rfl d_KE_blockOf_8 ?_
  refine kc_KE_68 hg hw S d_KE_blockOf_11 ?_
  refine lv_lsub hx hb d_KE_blockOf_14 ?_
  refine xg_read (xg_runSN (rest := [.long (2 : Int64)]) (kw := 2) si_KE_42 hg hw S (ct_ST_rest l hg s.heap (f_BU_mix bytes size) (modulus - (3 : Int64)) ) ⟨by decide, by decide, by decide, by decide⟩ rfl hl.1 rfl (Nat.le_of_ble_eq_true rfl) d_KE_blockOf_15) ?_
  refine lv_ladd hx hb d_KE_blockOf_18 ?_
  exact xg_lret hx hb ht hl0 hr d_KE_blockOf_19
def f_KE_challenge (trustee : Int32) (u : Int64) (w : Int64) (ofBase : Int64) (ofBlock : Int64) (base : Int64) (checks : Nat → Int64) : Int32 := (((f_ST_mixOf (f_ST_mixIn (f_ST_mixIn (f_ST_mixIn (f_ST_mixIn (f_ST_mixIn (f_ST_mixIn (7 : Int64) base) u) (checks trustee.toNatClampNeg)) w) ofBase) ofBlock)).toUInt64 >>> ((15 : Int32).toInt64.toUInt64 &&& Int64.toUInt64 63)).toInt64).toInt32
set_option maxHeartbeats 4000000 in
set_option maxRecDepth 100000 in
theorem ct_KE_challenge (l : Launch) {G : xg_G} (hg : xg_F G) (H : Heap) (k : Nat) (trustee : Int32) (u : Int64) (w : Int64) (ofBase : Int64) (ofBlock : Int64) (sh : Nat) (ch : Nat) (dealt : Int32) (epoch : Int64) (base : Int64) (whole : Int64) (signing : Int64) (pp : Int64) (qq : Int64) (modulus : Int64) (order : Int64) (checks : Nat → Int64) (hP : va_P G.2.1 cl_all [(k, .inr (1, [.ref sh, .ref ch, .int dealt, .long epoch, .long base, .long whole, .long signing, .long pp, .long qq, .long modulus, .long order])), (ch, .inl (G.2.2.2.1, 6, .inr (.inl checks)))] H) (hT : vp_in trustee 6) : xc_Met l y_KE_challenge (.code y_KE_challenge b_KE_challenge 12 (some .int)) ({ frames := 1, cells := 0, slots := 0, locals := 15 } : Room) (xg_Pc G [.ref k, .int trustee, .long u, .long w, .long ofBase, .long ofBlock] H) (xc_ro (some (.int (f_KE_challenge trustee u w ofBase ofBlock base checks))) H) (fun _ => False) := by
  refine xc_ofW (by decide) ?_
  intro p e s m args below meth c s₁ B hml hE hv
  obtain ⟨rfl, rfl, hw⟩ := hv
  have hx := B.exec
  have hb := B.bytes
  have ht := B.returns
  have hl0 := B.notSynchronized
  have S : xc_Fix p m c b_KE_challenge 12 s "SealTrust$Key" := ⟨hx, hb, hml, findClass_of_methodNamed B.named⟩
  have hl := lv_entry ([.ref k, .int trustee, .long u, .long w, .long ofBase, .long ofBlock]) (n := 12) (Nat.le_of_ble_eq_true rfl)
  rw [lg_entry_eq]
  generalize (lg_sl ([.ref k, .int trustee, .long u, .long w, .long ofBase, .long ofBlock]) ++ List.replicate (12 - (lg_sl ([.ref k, .int trustee, .long u, .long w, .long ofBase, .long ofBlock])).length) Slot.unset).toArray = ls at hl ⊢
  have hl : lv_has ls 12 [(0, .ref k), (1, .int trustee), (2, .long u), (4, .long w), (6, .long ofBase), (8, .long ofBlock)] := hl
  obtain ⟨r, hr⟩ : ∃ r, f_KE_challenge trustee u w ofBase ofBlock base checks = r := ⟨_, rfl⟩
  rw [hr]
  unfold f_KE_challenge at hr
  refine kc_KE_79 hg hw S d_KE_challenge_0 ?_
  refine lv_aload_n hx hb d_KE_challenge_3 rfl (lv_at hl 0 rfl) ?_
  refine gf_KE_49 hg hw S hP 0 rfl rfl d_KE_challenge_4 ?_
  refine xg_read (xg_runSN (rest := []) (kw := 0) si_KE_81 hg hw S (ct_ST_mixIn l hg s.heap (7 : Int64) base ) ⟨by decide, by decide, by decide, by decide⟩ rfl hl.1 rfl (Nat.le_of_ble_eq_true rfl) d_KE_challenge_7) ?_
  refine lv_lload_n hx hb d_KE_challenge_10 rfl (lv_at hl 2 rfl) ?_
  refine xg_read (xg_runSN (rest := []) (kw := 0) si_KE_81 hg hw S (ct_ST_mixIn l hg s.heap (f_ST_mixIn (7 : Int64) base) u ) ⟨by decide, by decide, by decide, by decide⟩ rfl hl.1 rfl (Nat.le_of_ble_eq_true rfl) d_KE_challenge_11) ?_
  refine lv_aload_n hx hb d_KE_challenge_14 rfl (lv_at hl 0 rfl) ?_
  refine gf_KE_15 hg hw S hP 0 rfl rfl d_KE_challenge_15 ?_
  refine lv_iload_n hx hb d_KE_challenge_18 rfl (lv_at hl 1 rfl) ?_
  refine va_lald hx hb (xg_k hg hw) hP 1 1 rfl rfl hT d_KE_challenge_19 ?_
  refine xg_read (xg_runSN (rest := []) (kw := 0) si_KE_81 hg hw S (ct_ST_mixIn l hg s.heap (f_ST_mixIn (f_ST_mixIn (7 : Int64) base) u) (checks trustee.toNatClampNeg) ) ⟨by decide, by decide, by decide, by decide⟩ rfl hl.1 rfl (Nat.le_of_ble_eq_true rfl) d_KE_challenge_20) ?_
  refine lv_lstore hx hb d_KE_challenge_23 hl (by decide) rfl (fun ls hl => ?_)
  have hl : lv_has ls 12 [(10, .long (f_ST_mixIn (f_ST_mixIn (f_ST_mixIn (7 : Int64) base) u) (checks trustee.toNatClampNeg))), (0, .ref k), (1, .int trustee), (2, .long u), (4, .long w), (6, .long ofBase), (8, .long ofBlock)] := hl
  refine lv_lload hx hb d_KE_challenge_25 (lv_at hl 0 rfl) ?_
  refine lv_lload hx hb d_KE_challenge_27 (lv_at hl 4 rfl) ?_
  refine xg_read (xg_runSN (rest := []) (kw := 0) si_KE_81 hg hw S (ct_ST_mixIn l hg s.heap (f_ST_mixIn (f_ST_mixIn (f_ST_mixIn (7 : Int64) base) u) (checks trustee.toNatClampNeg)) w ) ⟨by decide, by decide, by decide, by decide⟩ rfl hl.1 rfl (Nat.le_of_ble_eq_true rfl) d_KE_challenge_29) ?_
  refine lv_lload hx hb d_KE_challenge_32 (lv_at hl 5 rfl) ?_
  refine xg_read (xg_runSN (rest := []) (kw := 0) si_KE_81 hg hw S (ct_ST_mixIn l hg s.heap (f_ST_mixIn (f_ST_mixIn (f_ST_mixIn (f_ST_mixIn (7 : Int64) base) u) (checks trustee.toNatClampNeg)) w) ofBase ) ⟨by decide, by decide, by decide, by decide⟩ rfl hl.1 rfl (Nat.le_of_ble_eq_true rfl) d_KE_challenge_34) ?_
  refine lv_lload hx hb d_KE_challenge_37 (lv_at hl 6 rfl) ?_
  refine xg_read (xg_runSN (rest := []) (kw := 0) si_KE_81 hg hw S (ct_ST_mixIn l hg s.heap (f_ST_mixIn (f_ST_mixIn (f_ST_mixIn (f_ST_mixIn (f_ST_mixIn (7 : Int64) base) u) (checks trustee.toNatClampNeg)) w) ofBase) ofBlock ) ⟨by decide, by decide, by decide, by decide⟩ rfl hl.1 rfl (Nat.le_of_ble_eq_true rfl) d_KE_challenge_39) ?_
  refine lv_lstore hx hb d_KE_challenge_42 hl (by decide) rfl (fun ls hl => ?_)
  have hl : lv_has ls 12 [(10, .long (f_ST_mixIn (f_ST_mixIn (f_ST_mixIn (f_ST_mixIn (f_ST_mixIn (f_ST_mixIn (7 : Int64) base) u) (checks trustee.toNatClampNeg)) w) ofBase) ofBlock)), (0, .ref k), (1, .int trustee), (2, .long u), (4, .long w), (6, .long ofBase), (8, .long ofBlock)] := hl
  refine lv_lload hx hb d_KE_challenge_44 (lv_at hl 0 rfl) ?_
  refine xg_read (xg_runSN (rest := []) (kw := 0) si_KE_84 hg hw S (ct_ST_mixOf l hg s.heap (f_ST_mixIn (f_ST_mixIn (f_ST_mixIn (f_ST_mixIn (f_ST_mixIn (f_ST_mixIn (7 : Int64) base) u) (checks trustee.toNatClampNeg)) w) ofBase) ofBlock) ) ⟨by decide, by decide, by decide, by decide⟩ rfl hl.1 rfl (Nat.le_of_ble_eq_true rfl) d_KE_challenge_46) ?_
  refine lv_bipush (v := (15 : Int32)) hx hb d_KE_challenge_49 (by decide) ?_
  refine lv_lushr hx hb d_KE_challenge_51 rfl ?_
  refine lv_l2i hx hb d_KE_challenge_52 rfl ?_
  exact xg_iret hx hb ht hl0 hr d_KE_challenge_53
def f_KE_isGood (trustee : Int32) (powers : Nat → Int64) (challenges : Nat → Int32) (answers : Nat → Int64) (block : Int64) (base : Int64) (checks : Nat → Int64) (pp : Int64) (qq : Int64) (modulus : Int64) (order : Int64) : Int32 := if (f_KE_isBelowModulus (powers trustee.toNatClampNeg) modulus) = 0 then (0 : Int32) else (if (challenges trustee.toNatClampNeg) < 0 then (0 : Int32) else (if (65535 : Int32) < (challenges trustee.toNatClampNeg) then (0 : Int32) else (if (0 : Int64) ≤ (answers trustee.toNatClampNeg) then (if (f_KE_isPrimeToModulus (powers trustee.toNatClampNeg) pp qq) = 0 then (0 : Int32) else (if (f_KE_isPrimeToModulus block pp qq) = 0 then (0 : Int32) else (if (f_KE_challenge trustee (f_KE_power block (2880 : Int64) modulus) (f_KE_times (powers trustee.toNatClampNeg) (powers trustee.toNatClampNeg) modulus) (f_KE_times (f_KE_power base (answers trustee.toNatClampNeg) modulus) (f_KE_inversePower (checks trustee.toNatClampNeg) ((challenges trustee.toNatClampNeg).toInt64) modulus order) modulus) (f_KE_times (f_KE_power (f_KE_power block (2880 : Int64) modulus) (answers trustee.toNatClampNeg) modulus) (f_KE_inversePower (f_KE_times (powers trustee.toNatClampNeg) (powers trustee.toNatClampNeg) modulus) ((challenges trustee.toNatClampNeg).toInt64) modulus order) modulus) base checks) = (challenges trustee.toNatClampNeg) then (1 : Int32) else (0 : Int32)))) else (0 : Int32))))
set_option maxHeartbeats 4000000 in
set_option maxRecDepth 100000 in
theorem ct_KE_isGood (l : Launch) {G : xg_G} (hg : xg_F G) (H : Heap) (k : Nat) (mo : Nat) (trustee : Int32) (sh : Nat) (ch : Nat) (dealt : Int32) (epoch : Int64) (base : Int64) (whole : Int64) (signing : Int64) (pp : Int64) (qq : Int64) (modulus : Int64) (order : Int64) (checks : Nat → Int64) (pw : Nat) (cg : Nat) (an : Nat) (standing : Int32) (block : Int64) (partials : Int32) (objections : Int32) (signature : Int64) (powers : Nat → Int64) (challenges : Nat → Int32) (answers : Nat → Int64) (hP : va_P G.2.1 cl_all [(k, .inr (1, [.ref sh, .ref ch, .int dealt, .long epoch, .long base, .long whole, .long signing, .long pp, .long qq, .long modulus, .long order])), (ch, .inl (G.2.2.2.1, 6, .inr (.inl checks))), (mo, .inr (2, [.ref pw, .ref cg, .ref an, .int standing, .long block, .int partials, .int objections, .long signature])), (pw, .inl (G.2.2.2.1, 6, .inr (.inl powers))), (cg, .inl (G.2.2.1, 6, .inl challenges)), (an, .inl (G.2.2.2.1, 6, .inr (.inl answers)))] H) (hT : vp_in trustee 6) : xc_Met l y_KE_isGood (.code y_KE_isGood b_KE_isGood 16 (some .boolean)) ({ frames := 4, cells := 0, slots := 0, locals := 76 } : Room) (xg_Pc G [.ref k, .ref mo, .int trustee] H) (xc_ro (some (.int (f_KE_isGood trustee powers challenges answers block base checks pp qq modulus order))) H) (fun _ => False) := by
  refine xc_ofW (by decide) ?_
  intro p e s m args below meth c s₁ B hml hE hv
  obtain ⟨rfl, rfl, hw⟩ := hv
  have hx := B.exec
  have hb := B.bytes
  have ht := B.returns
  have hl0 := B.notSynchronized
  have S : xc_Fix p m c b_KE_isGood 16 s "SealTrust$Key" := ⟨hx, hb, hml, findClass_of_methodNamed B.named⟩
  have hl := lv_entry ([.ref k, .ref mo, .int trustee]) (n := 16) (Nat.le_of_ble_eq_true rfl)
  rw [lg_entry_eq]
  generalize (lg_sl ([.ref k, .ref mo, .int trustee]) ++ List.replicate (16 - (lg_sl ([.ref k, .ref mo, .int trustee])).length) Slot.unset).toArray = ls at hl ⊢
  have hl : lv_has ls 16 [(0, .ref k), (1, .ref mo), (2, .int trustee)] := hl
  obtain ⟨r, hr⟩ : ∃ r, f_KE_isGood trustee powers challenges answers block base checks pp qq modulus order = r := ⟨_, rfl⟩
  rw [hr]
  unfold f_KE_isGood at hr
  refine lv_aload_n hx hb d_KE_isGood_0 rfl (lv_at hl 1 rfl) ?_
  refine gf_KE_103 hg hw S hP 2 rfl rfl d_KE_isGood_1 ?_
  refine lv_iload_n hx hb d_KE_isGood_4 rfl (lv_at hl 2 rfl) ?_
  refine va_lald hx hb (xg_k hg hw) hP 3 1 rfl rfl hT d_KE_isGood_5 ?_
  refine lv_lstore_n hx hb d_KE_isGood_6 rfl hl (by decide) rfl (fun ls hl => ?_)
  have hl : lv_has ls 16 [(3, .long (powers trustee.toNatClampNeg)), (0, .ref k), (1, .ref mo), (2, .int trustee)] := hl
  refine lv_aload_n hx hb d_KE_isGood_7 rfl (lv_at hl 2 rfl) ?_
  refine gf_KE_106 hg hw S hP 2 rfl rfl d_KE_isGood_8 ?_
  refine lv_iload_n hx hb d_KE_isGood_11 rfl (lv_at hl 3 rfl) ?_
  refine va_iald hx hb (xg_k hg hw) hP 4 0 rfl rfl hT d_KE_isGood_12 ?_
  refine lv_istore hx hb d_KE_isGood_13 hl (by decide) rfl (fun ls hl => ?_)
  have hl : lv_has ls 16 [(5, .int (challenges trustee.toNatClampNeg)), (3, .long (powers trustee.toNatClampNeg)), (0, .ref k), (1, .ref mo), (2, .int trustee)] := hl
  refine lv_aload_n hx hb d_KE_isGood_15 rfl (lv_at hl 3 rfl) ?_
  refine gf_KE_110 hg hw S hP 2 rfl rfl d_KE_isGood_16 ?_
  refine lv_iload_n hx hb d_KE_isGood_19 rfl (lv_at hl 4 rfl) ?_
  refine va_lald hx hb (xg_k hg hw) hP 5 1 rfl rfl hT d_KE_isGood_20 ?_
  refine lv_lstore hx hb d_KE_isGood_21 hl (by decide) rfl (fun ls hl => ?_)
  have hl : lv_has ls 16 [(6, .long (answers trustee.toNatClampNeg)), (5, .int (challenges trustee.toNatClampNeg)), (3, .long (powers trustee.toNatClampNeg)), (0, .ref k), (1, .ref mo), (2, .int trustee)] := hl
  refine lv_aload_n hx hb d_KE_isGood_23 rfl (lv_at hl 3 rfl) ?_
  refine lv_lload_n hx hb d_KE_isGood_24 rfl (lv_at hl 2 rfl) ?_
  refine xg_read (xg_runV (rest := []) (kw := 0) si_KE_70 hg hw S (va_recv (xg_k hg hw) hP (ci := 1) rfl (q0 := 0) rfl) (ct_KE_isBelowModulus l hg s.heap k (powers trustee.toNatClampNeg) sh ch dealt epoch base whole signing pp qq modulus order (hP.sub [0] rfl) ) ⟨by decide, by decide, by decide, by decide⟩ rfl hl.1 rfl (Nat.le_of_ble_eq_true rfl) d_KE_isGood_25) ?_
  refine lv_if_eq hx hb d_KE_isGood_28 (tgt := 50) (by decide) (fun h28 => ?_) (fun h28 => ?_)
  · rw [if_pos h28] at hr
    refine lv_iconst (v := (0 : Int32)) hx hb d_KE_isGood_50 (by decide) ?_
    exact xg_zret hx hb ht hl0 rfl hr d_KE_isGood_51
  · rw [if_neg h28] at hr
    refine lv_iload hx hb d_KE_isGood_31 (lv_at hl 1 rfl) ?_
    refine lv_if_lt hx hb d_KE_isGood_33 (tgt := 50) (by decide) (fun h33 => ?_) (fun h33 => ?_)
    · rw [if_pos h33] at hr
      refine lv_iconst (v := (0 : Int32)) hx hb d_KE_isGood_50 (by decide) ?_
      exact xg_zret hx hb ht hl0 rfl hr d_KE_isGood_51
    · rw [if_neg h33] at hr
      refine lv_iload hx hb d_KE_isGood_36 (lv_at hl 1 rfl) ?_
      refine kc_KE_113 hg hw S d_KE_isGood_38 ?_
      refine lv_icmp_gt hx hb d_KE_isGood_40 (tgt := 50) (by decide) (fun h40 => ?_) (fun h40 => ?_)
      · rw [if_pos h40] at hr
        refine lv_iconst (v := (0 : Int32)) hx hb d_KE_isGood_50 (by decide) ?_
        exact xg_zret hx hb ht hl0 rfl hr d_KE_isGood_51
      · rw [if_neg h40] at hr
        refine lv_lload hx hb d_KE_isGood_43 (lv_at hl 0 rfl) ?_
        refine lv_lconst (v := (0 : Int64)) hx hb d_KE_isGood_45 (by decide) ?_
        refine W.lcmp hx hb d_KE_isGood_46 ?_
        refine lv_if_ge hx hb d_KE_isGood_47 (tgt := 52) (by decide) (fun h47 => ?_) (fun h47 => ?_)
        · rw [lg_cmp_ge] at h47
          rw [if_pos h47] at hr
          refine lv_aload_n hx hb d_KE_isGood_52 rfl (lv_at hl 3 rfl) ?_
          refine lv_lload_n hx hb d_KE_isGood_53 rfl (lv_at hl 2 rfl) ?_
          refine xg_read (xg_runV (rest := []) (kw := 0) si_KE_114 hg hw S (va_recv (xg_k hg hw) hP (ci := 1) rfl (q0 := 0) rfl) (ct_KE_isPrimeToModulus l hg s.heap k (powers trustee.toNatClampNeg) sh ch dealt epoch base whole signing pp qq modulus order (hP.sub [0] rfl) ) ⟨by decide, by decide, by decide, by decide⟩ rfl hl.1 rfl (Nat.le_of_ble_eq_true rfl) d_KE_isGood_54) ?_
          refine lv_if_eq hx hb d_KE_isGood_57 (tgt := 71) (by decide) (fun h57 => ?_) (fun h57 => ?_)
          · rw [if_pos h57] at hr
            refine lv_iconst (v := (0 : Int32)) hx hb d_KE_isGood_71 (by decide) ?_
            exact xg_zret hx hb ht hl0 rfl hr d_KE_isGood_72
          · rw [if_neg h57] at hr
            refine lv_aload_n hx hb d_KE_isGood_60 rfl (lv_at hl 3 rfl) ?_
            refine lv_aload_n hx hb d_KE_isGood_61 rfl (lv_at hl 4 rfl) ?_
            refine gf_KE_74 hg hw S hP 2 rfl rfl d_KE_isGood_62 ?_
            refine xg_read (xg_runV (rest := []) (kw := 0) si_KE_114 hg hw S (va_recv (xg_k hg hw) hP (ci := 1) rfl (q0 := 0) rfl) (ct_KE_isPrimeToModulus l hg s.heap k block sh ch dealt epoch base whole signing pp qq modulus order (hP.sub [0] rfl) ) ⟨by decide, by decide, by decide, by decide⟩ rfl hl.1 rfl (Nat.le_of_ble_eq_true rfl) d_KE_isGood_65) ?_
            refine lv_if_ne hx hb d_KE_isGood_68 (tgt := 73) (by decide) (fun h68 => ?_) (fun h68 => ?_)
            · rw [if_neg h68] at hr
              refine lv_aload_n hx hb d_KE_isGood_73 rfl (lv_at hl 3 rfl) ?_
              refine lv_aload_n hx hb d_KE_isGood_74 rfl (lv_at hl 4 rfl) ?_
              refine gf_KE_74 hg hw S hP 2 rfl rfl d_KE_isGood_75 ?_
              refine kc_KE_90 hg hw S d_KE_isGood_78 ?_
              refine xg_read (xg_runV (rest := []) (kw := 0) si_KE_59 hg hw S (va_recv (xg_k hg hw) hP (ci := 1) rfl (q0 := 0) rfl) (ct_KE_power l hg s.heap k block (2880 : Int64) sh ch dealt epoch base whole signing pp qq modulus order (hP.sub [0] rfl) ) ⟨by decide, by decide, by decide, by decide⟩ rfl hl.1 rfl (Nat.le_of_ble_eq_true rfl) d_KE_isGood_81) ?_
              refine lv_lstore hx hb d_KE_isGood_84 hl (by decide) rfl (fun ls hl => ?_)
              have hl : lv_has ls 16 [(8, .long (f_KE_power block (2880 : Int64) modulus)), (6, .long (answers trustee.toNatClampNeg)), (5, .int (challenges trustee.toNatClampNeg)), (3, .long (powers trustee.toNatClampNeg)), (0, .ref k), (1, .ref mo), (2, .int trustee)] := hl
              refine lv_aload_n hx hb d_KE_isGood_86 rfl (lv_at hl 4 rfl) ?_
              refine lv_lload_n hx hb d_KE_isGood_87 rfl (lv_at hl 3 rfl) ?_
              refine lv_lload_n hx hb d_KE_isGood_88 rfl (lv_at hl 3 rfl) ?_
              refine xg_read (xg_runV (rest := []) (kw := 0) si_KE_92 hg hw S (va_recv (xg_k hg hw) hP (ci := 1) rfl (q0 := 0) rfl) (ct_KE_times l hg s.heap k (powers trustee.toNatClampNeg) (powers trustee.toNatClampNeg) sh ch dealt epoch base whole signing pp qq modulus order (hP.sub [0] rfl) ) ⟨by decide, by decide, by decide, by decide⟩ rfl hl.1 rfl (Nat.le_of_ble_eq_true rfl) d_KE_isGood_89) ?_
              refine lv_lstore hx hb d_KE_isGood_92 hl (by decide) rfl (fun ls hl => ?_)
              have hl : lv_has ls 16 [(10, .long (f_KE_times (powers trustee.toNatClampNeg) (powers trustee.toNatClampNeg) modulus)), (8, .long (f_KE_power block (2880 : Int64) modulus)), (6, .long (answers trustee.toNatClampNeg)), (5, .int (challenges trustee.toNatClampNeg)), (3, .long (powers trustee.toNatClampNeg)), (0, .ref k), (1, .ref mo), (2, .int trustee)] := hl
              refine lv_aload_n hx hb d_KE_isGood_94 rfl (lv_at hl 5 rfl) ?_
              refine lv_aload_n hx hb d_KE_isGood_95 rfl (lv_at hl 5 rfl) ?_
              refine lv_aload_n hx hb d_KE_isGood_96 rfl (lv_at hl 5 rfl) ?_
              refine gf_KE_49 hg hw S hP 0 rfl rfl d_KE_isGood_97 ?_
              refine lv_lload hx hb d_KE_isGood_100 (lv_at hl 2 rfl) ?_
              refine xg_read (xg_runV (rest := [.ref k]) (kw := 1) si_KE_59 hg hw S (va_recv (xg_k hg hw) hP (ci := 1) rfl (q0 := 0) rfl) (ct_KE_power l hg s.heap k base (answers trustee.toNatClampNeg) sh ch dealt epoch base whole signing pp qq modulus order (hP.sub [0] rfl) ) ⟨by decide, by decide, by decide, by decide⟩ rfl hl.1 rfl (Nat.le_of_ble_eq_true rfl) d_KE_isGood_102) ?_
              refine lv_aload_n hx hb d_KE_isGood_105 rfl (lv_at hl 5 rfl) ?_
              refine lv_aload_n hx hb d_KE_isGood_106 rfl (lv_at hl 5 rfl) ?_
              refine gf_KE_15 hg hw S hP 0 rfl rfl d_KE_isGood_107 ?_
              refine lv_iload_n hx hb d_KE_isGood_110 rfl (lv_at hl 7 rfl) ?_
              refine va_lald hx hb (xg_k hg hw) hP 1 1 rfl rfl hT d_KE_isGood_111 ?_
              refine lv_iload hx hb d_KE_isGood_112 (lv_at hl 3 rfl) ?_
              refine lv_i2l hx hb d_KE_isGood_114 rfl ?_
              refine xg_read (xg_runV (rest := [.long (f_KE_power base (answers trustee.toNatClampNeg) modulus), .ref k]) (kw := 3) si_KE_117 hg hw S (va_recv (xg_k hg hw) hP (ci := 1) rfl (q0 := 0) rfl) (ct_KE_inversePower l hg s.heap k (checks trustee.toNatClampNeg) ((challenges trustee.toNatClampNeg).toInt64) sh ch dealt epoch base whole signing pp qq modulus order (hP.sub [0] rfl) ) ⟨by decide, by decide, by decide, by decide⟩ rfl hl.1 rfl (Nat.le_of_ble_eq_true rfl) d_KE_isGood_115) ?_
              refine xg_read (xg_runV (rest := []) (kw := 0) si_KE_92 hg hw S (va_recv (xg_k hg hw) hP (ci := 1) rfl (q0 := 0) rfl) (ct_KE_times l hg s.heap k (f_KE_power base (answers trustee.toNatClampNeg) modulus) (f_KE_inversePower (checks trustee.toNatClampNeg) ((challenges trustee.toNatClampNeg).toInt64) modulus order) sh ch dealt epoch base whole signing pp qq modulus order (hP.sub [0] rfl) ) ⟨by decide, by decide, by decide, by decide⟩ rfl hl.1 rfl (Nat.le_of_ble_eq_true rfl) d_KE_isGood_118) ?_
              refine lv_lstore hx hb d_KE_isGood_121 hl (by decide) rfl (fun ls hl => ?_)
              have hl : lv_has ls 16 [(12, .long (f_KE_times (f_KE_power base (answers trustee.toNatClampNeg) modulus) (f_KE_inversePower (checks trustee.toNatClampNeg) ((challenges trustee.toNatClampNeg).toInt64) modulus order) modulus)), (10, .long (f_KE_times (powers trustee.toNatClampNeg) (powers trustee.toNatClampNeg) modulus)), (8, .long (f_KE_power block (2880 : Int64) modulus)), (6, .long (answers trustee.toNatClampNeg)), (5, .int (challenges trustee.toNatClampNeg)), (3, .long (powers trustee.toNatClampNeg)), (0, .ref k), (1, .ref mo), (2, .int trustee)] := hl
              refine lv_aload_n hx hb d_KE_isGood_123 rfl (lv_at hl 6 rfl) ?_
              refine lv_aload_n hx hb d_KE_isGood_124 rfl (lv_at hl 6 rfl) ?_
              refine lv_lload hx hb d_KE_isGood_125 (lv_at hl 2 rfl) ?_
              refine lv_lload hx hb d_KE_isGood_127 (lv_at hl 3 rfl) ?_
              refine xg_read (xg_runV (rest := [.ref k]) (kw := 1) si_KE_59 hg hw S (va_recv (xg_k hg hw) hP (ci := 1) rfl (q0 := 0) rfl) (ct_KE_power l hg s.heap k (f_KE_power block (2880 : Int64) modulus) (answers trustee.toNatClampNeg) sh ch dealt epoch base whole signing pp qq modulus order (hP.sub [0] rfl) ) ⟨by decide, by decide, by decide, by decide⟩ rfl hl.1 rfl (Nat.le_of_ble_eq_true rfl) d_KE_isGood_129) ?_
              refine lv_aload_n hx hb d_KE_isGood_132 rfl (lv_at hl 6 rfl) ?_
              refine lv_lload hx hb d_KE_isGood_133 (lv_at hl 1 rfl) ?_
              refine lv_iload hx hb d_KE_isGood_135 (lv_at hl 4 rfl) ?_
              refine lv_i2l hx hb d_KE_isGood_137 rfl ?_
              refine xg_read (xg_runV (rest := [.long (f_KE_power (f_KE_power block (2880 : Int64) modulus) (answers trustee.toNatClampNeg) modulus), .ref k]) (kw := 3) si_KE_117 hg hw S (va_recv (xg_k hg hw) hP (ci := 1) rfl (q0 := 0) rfl) (ct_KE_inversePower l hg s.heap k (f_KE_times (powers trustee.toNatClampNeg) (powers trustee.toNatClampNeg) modulus) ((challenges trustee.toNatClampNeg).toInt64) sh ch dealt epoch base whole signing pp qq modulus order (hP.sub [0] rfl) ) ⟨by decide, by decide, by decide, by decide⟩ rfl hl.1 rfl (Nat.le_of_ble_eq_true rfl) d_KE_isGood_138) ?_
              refine xg_read (xg_runV (rest := []) (kw := 0) si_KE_92 hg hw S (va_recv (xg_k hg hw) hP (ci := 1) rfl (q0 := 0) rfl) (ct_KE_times l hg s.heap k (f_KE_power (f_KE_power block (2880 : Int64) modulus) (answers trustee.toNatClampNeg) modulus) (f_KE_inversePower (f_KE_times (powers trustee.toNatClampNeg) (powers trustee.toNatClampNeg) modulus) ((challenges trustee.toNatClampNeg).toInt64) modulus order) sh ch dealt epoch base whole signing pp qq modulus order (hP.sub [0] rfl) ) ⟨by decide, by decide, by decide, by decide⟩ rfl hl.1 rfl (Nat.le_of_ble_eq_true rfl) d_KE_isGood_141) ?_
              refine lv_lstore hx hb d_KE_isGood_144 hl (by decide) rfl (fun ls hl => ?_)
              have hl : lv_has ls 16 [(14, .long (f_KE_times (f_KE_power (f_KE_power block (2880 : Int64) modulus) (answers trustee.toNatClampNeg) modulus) (f_KE_inversePower (f_KE_times (powers trustee.toNatClampNeg) (powers trustee.toNatClampNeg) modulus) ((challenges trustee.toNatClampNeg).toInt64) modulus order) modulus)), (12, .long (f_KE_times (f_KE_power base (answers trustee.toNatClampNeg) modulus) (f_KE_inversePower (checks trustee.toNatClampNeg) ((challenges trustee.toNatClampNeg).toInt64) modulus order) modulus)), (10, .long (f_KE_times (powers trustee.toNatClampNeg) (powers trustee.toNatClampNeg) modulus)), (8, .long (f_KE_power block (2880 : Int64) modulus)), (6, .long (answers trustee.toNatClampNeg)), (5, .int (challenges trustee.toNatClampNeg)), (3, .long (powers trustee.toNatClampNeg)), (0, .ref k), (1, .ref mo), (2, .int trustee)] := hl
              refine lv_aload_n hx hb d_KE_isGood_146 rfl (lv_at hl 7 rfl) ?_
              refine lv_iload_n hx hb d_KE_isGood_147 rfl (lv_at hl 9 rfl) ?_
              refine lv_lload hx hb d_KE_isGood_148 (lv_at hl 3 rfl) ?_
              refine lv_lload hx hb d_KE_isGood_150 (lv_at hl 2 rfl) ?_
              refine lv_lload hx hb d_KE_isGood_152 (lv_at hl 1 rfl) ?_
              refine lv_lload hx hb d_KE_isGood_154 (lv_at hl 0 rfl) ?_
              refine xg_read (xg_runV (rest := []) (kw := 0) si_KE_95 hg hw S (va_recv (xg_k hg hw) hP (ci := 1) rfl (q0 := 0) rfl) (ct_KE_challenge l hg s.heap k trustee (f_KE_power block (2880 : Int64) modulus) (f_KE_times (powers trustee.toNatClampNeg) (powers trustee.toNatClampNeg) modulus) (f_KE_times (f_KE_power base (answers trustee.toNatClampNeg) modulus) (f_KE_inversePower (checks trustee.toNatClampNeg) ((challenges trustee.toNatClampNeg).toInt64) modulus order) modulus) (f_KE_times (f_KE_power (f_KE_power block (2880 : Int64) modulus) (answers trustee.toNatClampNeg) modulus) (f_KE_inversePower (f_KE_times (powers trustee.toNatClampNeg) (powers trustee.toNatClampNeg) modulus) ((challenges trustee.toNatClampNeg).toInt64) modulus order) modulus) sh ch dealt epoch base whole signing pp qq modulus order checks (hP.sub [0, 1] rfl) hT) ⟨by decide, by decide, by decide, by decide⟩ rfl hl.1 rfl (Nat.le_of_ble_eq_true rfl) d_KE_isGood_156) ?_
              refine lv_iload hx hb d_KE_isGood_159 (lv_at hl 5 rfl) ?_
              refine lv_icmp_ne hx hb d_KE_isGood_161 (tgt := 168) (by decide) (fun h161 => ?_) (fun h161 => ?_)
              · rw [if_neg h161] at hr
                refine lv_iconst (v := (0 : Int32)) hx hb d_KE_isGood_168 (by decide) ?_
                exact xg_zret hx hb ht hl0 rfl hr d_KE_isGood_169
              · rw [if_pos h161] at hr
                refine lv_iconst (v := (1 : Int32)) hx hb d_KE_isGood_164 (by decide) ?_
                refine lv_goto hx hb d_KE_isGood_165 (tgt := 169) (by decide) ?_
                exact xg_zret hx hb ht hl0 rfl hr d_KE_isGood_169
            · rw [if_pos h68] at hr
              refine lv_iconst (v := (0 : Int32)) hx hb d_KE_isGood_71 (by decide) ?_
              exact xg_zret hx hb ht hl0 rfl hr d_KE_isGood_72
        · rw [lg_cmp_ge] at h47
          rw [if_neg h47] at hr
          refine lv_iconst (v := (0 : Int32)) hx hb d_KE_isGood_50 (by decide) ?_
          exact xg_zret hx hb ht hl0 rfl hr d_KE_isGood_51
def lf_KE_isWholeBy_5 (mask : Int32) (shares : Nat → Int64) (whole : Int64) (order : Int64) : Nat → Int64 → Int32 → Int32
  | 0, _, _ => 0
  | n + 1, sum, i => if (6 : Int32) ≤ i then (if (f_ST_rest sum order) = (f_ST_rest ((720 : Int64) * whole) order) then (1 : Int32) else (0 : Int32)) else (if (f_ST_isIn mask i) = 0 then (lf_KE_isWholeBy_5 mask shares whole order n sum (i + (1 : Int32))) else (lf_KE_isWholeBy_5 mask shares whole order n (sum + ((shares i.toNatClampNeg) * (f_KE_weight mask i))) (i + (1 : Int32))))
def f_KE_isWholeBy (mask : Int32) (shares : Nat → Int64) (whole : Int64) (order : Int64) : Int32 := lf_KE_isWholeBy_5 mask shares whole order 7 (0 : Int64) (0 : Int32)
set_option maxHeartbeats 4000000 in
set_option maxRecDepth 100000 in
theorem wl_KE_isWholeBy_5 {p : Program} {l : Launch} {e : Env} {s : State} {m : MethodId} {args : Array Value} {below : List Frame} {meth : Method} {c : Code} {G : xg_G} {k : Nat} {mask : Int32} {sh : Nat} {ch : Nat} {dealt : Int32} {epoch : Int64} {base : Int64} {whole : Int64} {signing : Int64} {pp : Int64} {qq : Int64} {modulus : Int64} {order : Int64} {shares : Nat → Int64} (hg : xg_F G) (hw : G.1.WarmedH s.vm) (S : xc_Fix p m c b_KE_isWholeBy 5 s "SealTrust$Key") (hP : va_P G.2.1 cl_all [(k, .inr (1, [.ref sh, .ref ch, .int dealt, .long epoch, .long base, .long whole, .long signing, .long pp, .long qq, .long modulus, .long order])), (sh, .inl (G.2.2.2.1, 6, .inr (.inl shares)))] s.heap) (hl0 : meth.locks = false) (ht : meth.sig.returnType = (some .boolean))  : ∀ (n : Nat) (sum : Int64) (i : Int32) (r : Int32) (ls : Array Slot), lf_KE_isWholeBy_5 mask shares whole order n sum i = r → (0 ≤ i.toInt ∧ ((6 : Int32).toInt - i.toInt).toNat < n) → lv_has ls 5 [(4, .int i), (2, .long sum), (0, .ref k), (1, .int mask)] → W p l e ({ frames := 2, cells := 0, slots := 0, locals := 35 } : Room) s m args below meth c s.heap [] 0 0 (xg_Z below (some (.int r)) args s) (F0 m 5 ls []) := by
  have hx := S.1
  have hb := S.2.1
  intro n
  induction n with
  | zero =>
    intro sum i r ls hr hmu hl
    omega
  | succ n ih =>
    intro sum i r ls hr hmu hl
    rw [lf_KE_isWholeBy_5] at hr
    refine lv_iload hx hb d_KE_isWholeBy_5 (lv_at hl 0 rfl) ?_
    refine lv_bipush (v := (6 : Int32)) hx hb d_KE_isWholeBy_7 (by decide) ?_
    refine lv_icmp_ge hx hb d_KE_isWholeBy_9 (tgt := 44) (by decide) (fun h9 => ?_) (fun h9 => ?_)
    · rw [if_pos h9] at hr
      refine lv_lload_n hx hb d_KE_isWholeBy_44 rfl (lv_at hl 1 rfl) ?_
      refine lv_aload_n hx hb d_KE_isWholeBy_45 rfl (lv_at hl 2 rfl) ?_
      refine gf_KE_30 hg hw S hP 0 rfl rfl d_KE_isWholeBy_46 ?_
      refine xg_read (xg_runSN (rest := []) (kw := 0) si_KE_42 hg hw S (ct_ST_rest l hg s.heap sum order ) ⟨by decide, by decide, by decide, by decide⟩ rfl hl.1 rfl (Nat.le_of_ble_eq_true rfl) d_KE_isWholeBy_49) ?_
      refine kc_KE_128 hg hw S d_KE_isWholeBy_52 ?_
      refine lv_aload_n hx hb d_KE_isWholeBy_55 rfl (lv_at hl 2 rfl) ?_
      refine gf_KE_46 hg hw S hP 0 rfl rfl d_KE_isWholeBy_56 ?_
      refine lv_lmul hx hb d_KE_isWholeBy_59 ?_
      refine lv_aload_n hx hb d_KE_isWholeBy_60 rfl (lv_at hl 2 rfl) ?_
      refine gf_KE_30 hg hw S hP 0 rfl rfl d_KE_isWholeBy_61 ?_
      refine xg_read (xg_runSN (rest := [.long (f_ST_rest sum order)]) (kw := 2) si_KE_42 hg hw S (ct_ST_rest l hg s.heap ((720 : Int64) * whole) order ) ⟨by decide, by decide, by decide, by decide⟩ rfl hl.1 rfl (Nat.le_of_ble_eq_true rfl) d_KE_isWholeBy_64) ?_
      refine W.lcmp hx hb d_KE_isWholeBy_67 ?_
      refine lv_if_ne hx hb d_KE_isWholeBy_68 (tgt := 75) (by decide) (fun h68 => ?_) (fun h68 => ?_)
      · rw [lg_cmp_eq] at h68
        rw [if_neg h68] at hr
        refine lv_iconst (v := (0 : Int32)) hx hb d_KE_isWholeBy_75 (by decide) ?_
        exact xg_zret hx hb ht hl0 rfl hr d_KE_isWholeBy_76
      · rw [lg_cmp_eq] at h68
        rw [if_pos h68] at hr
        refine lv_iconst (v := (1 : Int32)) hx hb d_KE_isWholeBy_71 (by decide) ?_
        refine lv_goto hx hb d_KE_isWholeBy_72 (tgt := 76) (by decide) ?_
        exact xg_zret hx hb ht hl0 rfl hr d_KE_isWholeBy_76
    · rw [if_neg h9] at hr
      refine lv_iload_n hx hb d_KE_isWholeBy_12 rfl (lv_at hl 3 rfl) ?_
      refine lv_iload hx hb d_KE_isWholeBy_13 (lv_at hl 0 rfl) ?_
      refine xg_read (xg_runSN (rest := []) (kw := 0) si_KE_120 hg hw S (ct_ST_isIn l hg s.heap mask i ) ⟨by decide, by decide, by decide, by decide⟩ rfl hl.1 rfl (Nat.le_of_ble_eq_true rfl) d_KE_isWholeBy_15) ?_
      refine lv_if_eq hx hb d_KE_isWholeBy_18 (tgt := 38) (by decide) (fun h18 => ?_) (fun h18 => ?_)
      · rw [if_pos h18] at hr
        refine lv_iinc (v := i + (1 : Int32)) hx hb d_KE_isWholeBy_38 hl (k := 0) rfl rfl (by decide) rfl (fun ls hl => ?_)
        have hl : lv_has ls 5 [(4, .int (i + (1 : Int32))), (2, .long sum), (0, .ref k), (1, .int mask)] := hl
        refine lv_goto hx hb d_KE_isWholeBy_41 (tgt := 5) (by decide) ?_
        exact ih sum (i + (1 : Int32)) r ls hr (xi_up0 h9 hmu) (lv_sub hl [0, 1, 2, 3] rfl)
      · rw [if_neg h18] at hr
        refine lv_lload_n hx hb d_KE_isWholeBy_21 rfl (lv_at hl 1 rfl) ?_
        refine lv_aload_n hx hb d_KE_isWholeBy_22 rfl (lv_at hl 2 rfl) ?_
        refine gf_KE_9 hg hw S hP 0 rfl rfl d_KE_isWholeBy_23 ?_
        refine lv_iload hx hb d_KE_isWholeBy_26 (lv_at hl 0 rfl) ?_
        refine va_lald hx hb (xg_k hg hw) hP 1 1 rfl rfl (xi_in h9 hmu.1 (by decide)) d_KE_isWholeBy_28 ?_
        refine lv_iload_n hx hb d_KE_isWholeBy_29 rfl (lv_at hl 3 rfl) ?_
        refine lv_iload hx hb d_KE_isWholeBy_30 (lv_at hl 0 rfl) ?_
        refine xg_read (xg_runS (rest := [.long (shares i.toNatClampNeg), .long sum]) (kw := 4) si_KE_124 hg hw S (ct_KE_weight l hg s.heap mask i ) ⟨by decide, by decide, by decide, by decide⟩ rfl hl.1 rfl (Nat.le_of_ble_eq_true rfl) d_KE_isWholeBy_32) ?_
        refine lv_lmul hx hb d_KE_isWholeBy_35 ?_
        refine lv_ladd hx hb d_KE_isWholeBy_36 ?_
        refine lv_lstore_n hx hb d_KE_isWholeBy_37 rfl hl (by decide) rfl (fun ls hl => ?_)
        have hl : lv_has ls 5 [(2, .long (sum + ((shares i.toNatClampNeg) * (f_KE_weight mask i)))), (4, .int i), (0, .ref k), (1, .int mask)] := hl
        refine lv_iinc (v := i + (1 : Int32)) hx hb d_KE_isWholeBy_38 hl (k := 1) rfl rfl (by decide) rfl (fun ls hl => ?_)
        have hl : lv_has ls 5 [(4, .int (i + (1 : Int32))), (2, .long (sum + ((shares i.toNatClampNeg) * (f_KE_weight mask i)))), (0, .ref k), (1, .int mask)] := hl
        refine lv_goto hx hb d_KE_isWholeBy_41 (tgt := 5) (by decide) ?_
        exact ih (sum + ((shares i.toNatClampNeg) * (f_KE_weight mask i))) (i + (1 : Int32)) r ls hr (xi_up0 h9 hmu) (lv_sub hl [0, 1, 2, 3] rfl)
set_option maxHeartbeats 4000000 in
set_option maxRecDepth 100000 in
theorem ct_KE_isWholeBy (l : Launch) {G : xg_G} (hg : xg_F G) (H : Heap) (k : Nat) (mask : Int32) (sh : Nat) (ch : Nat) (dealt : Int32) (epoch : Int64) (base : Int64) (whole : Int64) (signing : Int64) (pp : Int64) (qq : Int64) (modulus : Int64) (order : Int64) (shares : Nat → Int64) (hP : va_P G.2.1 cl_all [(k, .inr (1, [.ref sh, .ref ch, .int dealt, .long epoch, .long base, .long whole, .long signing, .long pp, .long qq, .long modulus, .long order])), (sh, .inl (G.2.2.2.1, 6, .inr (.inl shares)))] H)  : xc_Met l y_KE_isWholeBy (.code y_KE_isWholeBy b_KE_isWholeBy 5 (some .boolean)) ({ frames := 2, cells := 0, slots := 0, locals := 35 } : Room) (xg_Pc G [.ref k, .int mask] H) (xc_ro (some (.int (f_KE_isWholeBy mask shares whole order))) H) (fun _ => False) := by
  refine xc_ofW (by decide) ?_
  intro p e s m args below meth c s₁ B hml hE hv
  obtain ⟨rfl, rfl, hw⟩ := hv
  have hx := B.exec
  have hb := B.bytes
  have ht := B.returns
  have hl0 := B.notSynchronized
  have S : xc_Fix p m c b_KE_isWholeBy 5 s "SealTrust$Key" := ⟨hx, hb, hml, findClass_of_methodNamed B.named⟩
  have hl := lv_entry ([.ref k, .int mask]) (n := 5) (Nat.le_of_ble_eq_true rfl)
  rw [lg_entry_eq]
  generalize (lg_sl ([.ref k, .int mask]) ++ List.replicate (5 - (lg_sl ([.ref k, .int mask])).length) Slot.unset).toArray = ls at hl ⊢
  have hl : lv_has ls 5 [(0, .ref k), (1, .int mask)] := hl
  obtain ⟨r, hr⟩ : ∃ r, f_KE_isWholeBy mask shares whole order = r := ⟨_, rfl⟩
  rw [hr]
  unfold f_KE_isWholeBy at hr
  refine lv_lconst (v := (0 : Int64)) hx hb d_KE_isWholeBy_0 (by decide) ?_
  refine lv_lstore_n hx hb d_KE_isWholeBy_1 rfl hl (by decide) rfl (fun ls hl => ?_)
  have hl : lv_has ls 5 [(2, .long (0 : Int64)), (0, .ref k), (1, .int mask)] := hl
  refine lv_iconst (v := (0 : Int32)) hx hb d_KE_isWholeBy_2 (by decide) ?_
  refine lv_istore hx hb d_KE_isWholeBy_3 hl (by decide) rfl (fun ls hl => ?_)
  have hl : lv_has ls 5 [(4, .int (0 : Int32)), (2, .long (0 : Int64)), (0, .ref k), (1, .int mask)] := hl
  exact wl_KE_isWholeBy_5 hg hw S hP hl0 ht  7 (0 : Int64) (0 : Int32) r ls hr (by decide) (lv_sub hl [0, 1, 2, 3] rfl)
