/-! the law's loop -/
section LOL
theorem lo_15 (y : Int32) : ∃ k : Nat, k < 16 ∧ (y &&& (15 : Int32)).toInt = k := by
  have h1 : (y &&& (15 : Int32)).toBitVec.toNat = y.toBitVec.toNat % 16 := by
    rw [Int32.toBitVec_and, BitVec.toNat_and]
    exact Nat.and_two_pow_sub_one_eq_mod _ 4
  have h2 := Nat.mod_lt y.toBitVec.toNat (show 0 < 16 by decide)
  refine ⟨y.toBitVec.toNat % 16, h2, ?_⟩
  show (y &&& (15 : Int32)).toBitVec.toInt = _
  rw [BitVec.toInt_eq_toNat_of_lt (by omega), h1]
theorem lo_8 {L : Nat} (hL : L ≤ 4096) : (Int32.ofNat L - (8 : Int32)).toInt = (L : Int) - 8 := by
  have h1 : (Int32.ofNat L).toInt = (L : Int) := by
    rw [Int32.toInt_ofNat', show Int32.size = 4294967296 from rfl]
    exact Int.bmod_eq_of_le (by omega) (by omega)
  rw [Int32.toInt_sub, h1, show (8 : Int32).toInt = 8 from rfl]
  exact Int.bmod_eq_of_le (by omega) (by omega)
set_option maxHeartbeats 4000000 in
set_option maxRecDepth 100000 in
theorem lo_loop {p : Program} {l : Launch} {e : Env} {s : State} {m : MethodId} {below : List Frame} {meth : Method} {c : Code} {G : xg_G} {b L : Nat} {xs : Nat → Int32} {Q : State → Prop} (hg : xg_F G) (hw : G.1.WarmedH s.vm) (hGh : G.1.heap = s.heap) (hl9 : l.stackTraces = false) (S : xc_Fix p m c b_LW_law 8 s "SealTrustLaw") (hX : va_X b L xs s s.heap) (hbl : b < s.heap.size) (hL : L ≤ 4096) {x y_ ou : Nat} (K : ∀ (H1 : Heap) (ls1 : Array Slot) (cells slots : Nat), va_S (fun q => s.heap.size ≤ q) s.heap H1 [] → cells ≤ 622327 → slots ≤ 7229122 → W p l e room_1 s m #[Value.ref b] below meth c H1 [] cells slots Q (F0 m 1235 ls1 [])) :
    ∀ (n t : Nat) (i : Int32) (cells slots : Nat) (H : Heap) (ls : Array Slot), i.toInt = (8 * t : Nat) → 8 * t ≤ L → L < 8 * t + 8 * n → cells + 8 * n ≤ 622327 → slots + 48 * n ≤ 7229122 → xv_S G s.heap.size t x y_ ou H → va_S (fun q => s.heap.size ≤ q) s.heap H [] → lv_has ls 8 [(4, .int i), (3, .ref ou), (2, .ref y_), (1, .ref x), (0, .ref b)] → W p l e room_1 s m #[Value.ref b] below meth c H [] cells slots Q (F0 m 23 ls []) := by
  have hx := S.1
  have hb := S.2.1
  have hbA : ¬ (fun q => s.heap.size ≤ q) b := by
    show ¬ s.heap.size ≤ b
    omega
  intro n
  induction n with
  | zero => exact fun t i cells slots H ls hi h1 h2 => by omega
  | succ n ih =>
    intro t i cells slots H ls hi h1 h2 hc hs hV hS hl
    refine lv_iload hx hb d_LW_law_23 (lv_at hl 0 rfl) ?_
    refine lv_aload_n hx hb d_LW_law_25 rfl (lv_at hl 4 rfl) ?_
    refine va_slen hx hb hX hbl hbA hS d_LW_law_26 ?_
    refine lv_bipush (v := (8 : Int32)) hx hb d_LW_law_27 (by decide) ?_
    refine lv_isub hx hb d_LW_law_29 ?_
    refine lv_icmp_gt hx hb d_LW_law_30 (tgt := 1235) (by decide) (fun h30 => ?_) (fun h30 => ?_)
    · exact K H ls cells slots hS (by omega) (by omega)
    · rw [Int32.lt_iff_toInt_lt, lo_8 hL] at h30
      have hi8 : 0 ≤ i.toInt ∧ i.toInt + 8 ≤ L := ⟨by omega, by omega⟩
      have hin : vp_in i L := vp_in_iff.mpr ⟨by omega, by omega⟩
      have hi9 : (i + (8 : Int32)).toInt = (8 * (t + 1) : Nat) := by
        rw [Int32.toInt_add, show (8 : Int32).toInt = 8 from rfl, Int.bmod_eq_of_le (by omega) (by omega)]
        omega
      have hroom : cells + 8 ≤ 622327 ∧ slots + 48 ≤ 7229122 := ⟨by omega, by omega⟩
      have nx : ∀ (H1 : Heap) (ls1 : Array Slot), xv_S G s.heap.size (t + 1) x y_ ou H1 → va_S (fun q => s.heap.size ≤ q) s.heap H1 [] → lv_has ls1 8 [(4, .int i), (3, .ref ou), (2, .ref y_), (1, .ref x), (0, .ref b)] → W p l e room_1 s m #[Value.ref b] below meth c H1 [] (cells + 8) (slots + 48) Q (F0 m 1229 ls1 []) := fun H1 ls1 hV1 hS1 hl1 => by
        refine lv_iinc (v := i + (8 : Int32)) hx hb d_LW_law_1229 hl1 (k := 0) rfl rfl (by decide) rfl (fun ls2 hl2 => ?_)
        refine lv_goto hx hb d_LW_law_1232 (tgt := 23) (by decide) ?_
        exact ih (t + 1) (i + (8 : Int32)) (cells + 8) (slots + 48) H1 ls2 hi9 (by omega) (by omega) (by omega) (by omega) hV1 hS1 hl2
      refine lv_aload_n hx hb d_LW_law_33 rfl (lv_at hl 4 rfl) ?_
      refine lv_iload hx hb d_LW_law_34 (lv_at hl 0 rfl) ?_
      refine va_sld hx hb hX hbl hbA hS hin d_LW_law_36 ?_
      refine lv_bipush (v := (15 : Int32)) hx hb d_LW_law_37 (by decide) ?_
      refine lv_iand hx hb d_LW_law_39 ?_
      obtain ⟨k, hk, hke⟩ := lo_15 (xs i.toNatClampNeg)
      generalize xs i.toNatClampNeg &&& (15 : Int32) = w at hke ⊢
      rcases (show k = 0 ∨ k = 1 ∨ k = 2 ∨ k = 3 ∨ k = 4 ∨ k = 5 ∨ k = 6 ∨ k = 7 ∨ k = 8 ∨ k = 9 ∨ k = 10 ∨ k = 11 ∨ k = 12 ∨ k = 13 ∨ k = 14 ∨ k = 15 by omega) with rfl | rfl | rfl | rfl | rfl | rfl | rfl | rfl | rfl | rfl | rfl | rfl | rfl | rfl | rfl | rfl
      · refine lv_tableIn (off := 80) (tgt := 120) hx hb d_LW_law_40 (by rw [hke]; decide) (by rw [hke]; decide) (by rw [hke]; rfl) (by decide) ?_
        exact lc_deal hg hw hGh hl9 S hX hbl hL hi8 hroom hV hS hl nx
      · refine lv_tableIn (off := 164) (tgt := 204) hx hb d_LW_law_40 (by rw [hke]; decide) (by rw [hke]; decide) (by rw [hke]; rfl) (by decide) ?_
        exact lc_put hg hw hGh hl9 S hX hbl hL hi8 hroom hV hS hl nx
      · refine lv_tableIn (off := 232) (tgt := 272) hx hb d_LW_law_40 (by rw [hke]; decide) (by rw [hke]; decide) (by rw [hke]; rfl) (by decide) ?_
        exact lc_motion hg hw hGh hl9 S hX hbl hL hi8 hroom hV hS hl nx
      · refine lv_tableIn (off := 276) (tgt := 316) hx hb d_LW_law_40 (by rw [hke]; decide) (by rw [hke]; decide) (by rw [hke]; rfl) (by decide) ?_
        exact lc_consent hg hw hGh hl9 S hX hbl hL hi8 hroom hV hS hl nx
      · refine lv_tableIn (off := 324) (tgt := 364) hx hb d_LW_law_40 (by rw [hke]; decide) (by rw [hke]; decide) (by rw [hke]; rfl) (by decide) ?_
        exact lc_object hg hw hGh hl9 S hX hbl hL hi8 hroom hV hS hl nx
      · refine lv_tableIn (off := 372) (tgt := 412) hx hb d_LW_law_40 (by rw [hke]; decide) (by rw [hke]; decide) (by rw [hke]; rfl) (by decide) ?_
        exact lc_file hg hw hGh hl9 S hX hbl hL hi8 hroom hV hS hl nx
      · refine lv_tableIn (off := 524) (tgt := 564) hx hb d_LW_law_40 (by rw [hke]; decide) (by rw [hke]; decide) (by rw [hke]; rfl) (by decide) ?_
        exact lc_partial hg hw hGh hl9 S hX hbl hL hi8 hroom hV hS hl nx
      · refine lv_tableIn (off := 603) (tgt := 643) hx hb d_LW_law_40 (by rw [hke]; decide) (by rw [hke]; decide) (by rw [hke]; rfl) (by decide) ?_
        exact lc_bad hg hw hGh hl9 S hX hbl hL hi8 hroom hV hS hl nx
      · refine lv_tableIn (off := 659) (tgt := 699) hx hb d_LW_law_40 (by rw [hke]; decide) (by rw [hke]; decide) (by rw [hke]; rfl) (by decide) ?_
        exact lc_join hg hw hGh hl9 S hX hbl hL hi8 hroom hV hS hl nx
      · refine lv_tableIn (off := 714) (tgt := 754) hx hb d_LW_law_40 (by rw [hke]; decide) (by rw [hke]; decide) (by rw [hke]; rfl) (by decide) ?_
        exact lc_verify hg hw hGh hl9 S hX hbl hL hi8 hroom hV hS hl nx
      · refine lv_tableIn (off := 809) (tgt := 849) hx hb d_LW_law_40 (by rw [hke]; decide) (by rw [hke]; decide) (by rw [hke]; rfl) (by decide) ?_
        exact lc_refresh hg hw hGh hl9 S hX hbl hL hi8 hroom (by omega) hV hS hl nx
      · refine lv_tableIn (off := 857) (tgt := 897) hx hb d_LW_law_40 (by rw [hke]; decide) (by rw [hke]; decide) (by rw [hke]; rfl) (by decide) ?_
        exact lc_suspend hg hw hGh hl9 S hX hbl hL hi8 hroom hV hS hl nx
      · refine lv_tableIn (off := 948) (tgt := 988) hx hb d_LW_law_40 (by rw [hke]; decide) (by rw [hke]; decide) (by rw [hke]; rfl) (by decide) ?_
        exact lc_parts hg hw hGh hl9 S hX hbl hL hi8 hroom hV hS hl nx
      · refine lv_tableIn (off := 1011) (tgt := 1051) hx hb d_LW_law_40 (by rw [hke]; decide) (by rw [hke]; decide) (by rw [hke]; rfl) (by decide) ?_
        exact lc_told hg hw hGh hl9 S hX hbl hL hi8 hroom hV hS hl nx
      · refine lv_tableIn (off := 1078) (tgt := 1118) hx hb d_LW_law_40 (by rw [hke]; decide) (by rw [hke]; decide) (by rw [hke]; rfl) (by decide) ?_
        exact lc_book hg hw hGh hl9 S hX hbl hL hi8 hroom hV hS hl nx
      · refine lv_tableIn (off := 1134) (tgt := 1174) hx hb d_LW_law_40 (by rw [hke]; decide) (by rw [hke]; decide) (by rw [hke]; rfl) (by decide) ?_
        exact lc_state hg hw hGh hl9 S hX hbl hL hi8 hroom hV hS hl nx
end LOL
