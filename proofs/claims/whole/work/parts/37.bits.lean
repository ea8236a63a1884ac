/-! six bits: both sides' ways to look at them -/
section SBI
abbrev sm_o (t : Nat) : Int32 := (1 : Int32) <<< (Int32.ofNat t &&& 31)
set_option maxRecDepth 100000 in
theorem sm_bitF : ∀ k, k < 64 → ∀ t, t < 6 → ((f_ST_isIn (Int32.ofNat k) (Int32.ofNat t) = 0 ↔ ¬ ((Int32.ofNat k >>> (Int32.ofNat t &&& 31)) &&& (1 : Int32)) = 1) ∧ (f_ST_isIn (Int32.ofNat k) (Int32.ofNat t) = 0 ↔ ((Int32.ofNat k >>> (Int32.ofNat t &&& 31)) &&& (1 : Int32)) = 0)) := by decide +kernel
set_option maxRecDepth 100000 in
theorem sm_orF : ∀ a, a < 64 → ∀ b, b < 64 → 0 ≤ (Int32.ofNat a ||| Int32.ofNat b).toInt ∧ (Int32.ofNat a ||| Int32.ofNat b).toInt < 64 := by decide +kernel
set_option maxRecDepth 100000 in
theorem sm_or1F : ∀ a, a < 64 → ∀ t, t < 6 → 0 ≤ (Int32.ofNat a ||| sm_o t).toInt ∧ (Int32.ofNat a ||| sm_o t).toInt < 64 := by decide +kernel
set_option maxRecDepth 100000 in
theorem sm_cntF : ∀ k, k < 64 → f_IN_bitCount (Int32.ofNat k) = f_MD_bits (Int32.ofNat k) := by decide +kernel
set_option maxRecDepth 100000 in
theorem sm_addF : ∀ a, a < 64 → ∀ t, t < 6 → f_ST_isIn (Int32.ofNat a) (Int32.ofNat t) = 0 → f_MD_bits (Int32.ofNat a) < 3 → (f_MD_bits (Int32.ofNat a ||| sm_o t) = 3 ↔ ¬ f_MD_bits (Int32.ofNat a ||| sm_o t) < 3) := by decide +kernel
set_option maxRecDepth 100000 in
theorem sm_sus1a : ∀ a, a < 64 → ∀ t, t < 6 → f_ST_isIn (Int32.ofNat a) (Int32.ofNat t) = 1 → Int32.ofNat a ^^^ sm_o t = Int32.ofNat a &&& (sm_o t ^^^ (-1 : Int32)) := by decide +kernel
set_option maxRecDepth 100000 in
theorem sm_sus1b : ∀ a, a < 64 → ∀ t, t < 6 → f_ST_isIn (Int32.ofNat a) (Int32.ofNat t) = 1 → Int32.ofNat a ||| sm_o t = Int32.ofNat a := by decide +kernel
set_option maxRecDepth 100000 in
theorem sm_sus0a : ∀ a, a < 64 → ∀ t, t < 6 → f_ST_isIn (Int32.ofNat a) (Int32.ofNat t) = 0 → Int32.ofNat a ^^^ sm_o t = Int32.ofNat a ||| sm_o t := by decide +kernel
set_option maxRecDepth 100000 in
theorem sm_sus0b : ∀ a, a < 64 → ∀ t, t < 6 → f_ST_isIn (Int32.ofNat a) (Int32.ofNat t) = 0 → Int32.ofNat a &&& (sm_o t ^^^ (-1 : Int32)) = Int32.ofNat a := by decide +kernel
set_option maxRecDepth 100000 in
theorem sm_susB : ∀ a, a < 64 → ∀ t, t < 6 → 0 ≤ (Int32.ofNat a ^^^ sm_o t).toInt ∧ (Int32.ofNat a ^^^ sm_o t).toInt < 64 := by decide +kernel
set_option maxRecDepth 100000 in
theorem sm_orbF : ∀ a, a < 64 → ∀ b, b < 64 → ∀ t, t < 6 → f_ST_isIn (Int32.ofNat a ||| Int32.ofNat b) (Int32.ofNat t) = 0 → f_ST_isIn (Int32.ofNat b) (Int32.ofNat t) = 0 := by decide +kernel
theorem sm_64 {x : Int32} (h : 0 ≤ x.toInt ∧ x.toInt < 64) : ∃ k, k < 64 ∧ x = Int32.ofNat k := xm_fin (k := 64) h.1 (by omega) (by omega)
theorem sm_6 {x : Int32} (h : vp_in x 6) : ∃ k, k < 6 ∧ x = Int32.ofNat k := by
  have h1 := vp_in_iff.mp h
  exact xm_fin (k := 6) h1.1 (by omega) (by omega)
theorem sm_bit {x t : Int32} (h : 0 ≤ x.toInt ∧ x.toInt < 64) (ht : vp_in t 6) : (f_ST_isIn x t = 0 ↔ ¬ ((x >>> (t &&& 31)) &&& (1 : Int32)) = 1) ∧ (f_ST_isIn x t = 0 ↔ ((x >>> (t &&& 31)) &&& (1 : Int32)) = 0) := by
  obtain ⟨k, hk, rfl⟩ := sm_64 h
  obtain ⟨j, hj, rfl⟩ := sm_6 ht
  exact sm_bitF k hk j hj
theorem sm_or {x y : Int32} (h : 0 ≤ x.toInt ∧ x.toInt < 64) (k : 0 ≤ y.toInt ∧ y.toInt < 64) : 0 ≤ (x ||| y).toInt ∧ (x ||| y).toInt < 64 := by
  obtain ⟨a, ha, rfl⟩ := sm_64 h
  obtain ⟨b, hb, rfl⟩ := sm_64 k
  exact sm_orF a ha b hb
theorem sm_or1 {x t : Int32} (h : 0 ≤ x.toInt ∧ x.toInt < 64) (ht : vp_in t 6) : 0 ≤ (x ||| ((1 : Int32) <<< (t &&& 31))).toInt ∧ (x ||| ((1 : Int32) <<< (t &&& 31))).toInt < 64 := by
  obtain ⟨a, ha, rfl⟩ := sm_64 h
  obtain ⟨j, hj, rfl⟩ := sm_6 ht
  exact sm_or1F a ha j hj
theorem sm_cnt {x : Int32} (h : 0 ≤ x.toInt ∧ x.toInt < 64) : f_IN_bitCount x = f_MD_bits x := by
  obtain ⟨a, ha, rfl⟩ := sm_64 h
  exact sm_cntF a ha
theorem sm_add {x t : Int32} (h : 0 ≤ x.toInt ∧ x.toInt < 64) (ht : vp_in t 6) (h0 : f_ST_isIn x t = 0) (h3 : f_MD_bits x < 3) : (f_MD_bits (x ||| ((1 : Int32) <<< (t &&& 31))) = 3 ↔ ¬ f_MD_bits (x ||| ((1 : Int32) <<< (t &&& 31))) < 3) := by
  obtain ⟨a, ha, rfl⟩ := sm_64 h
  obtain ⟨j, hj, rfl⟩ := sm_6 ht
  exact sm_addF a ha j hj h0 h3
theorem sm_orb {x y t : Int32} (h : 0 ≤ x.toInt ∧ x.toInt < 64) (k : 0 ≤ y.toInt ∧ y.toInt < 64) (ht : vp_in t 6) (h0 : f_ST_isIn (x ||| y) t = 0) : f_ST_isIn y t = 0 := by
  obtain ⟨a, ha, rfl⟩ := sm_64 h
  obtain ⟨b, hb, rfl⟩ := sm_64 k
  obtain ⟨j, hj, rfl⟩ := sm_6 ht
  exact sm_orbF a ha b hb j hj h0
theorem sm_sus {x t : Int32} (h : 0 ≤ x.toInt ∧ x.toInt < 64) (ht : vp_in t 6) : (f_ST_isIn x t = 1 → (x ^^^ ((1 : Int32) <<< (t &&& 31)) = x &&& (((1 : Int32) <<< (t &&& 31)) ^^^ (-1 : Int32))) ∧ x ||| ((1 : Int32) <<< (t &&& 31)) = x ∧ 0 ≤ (x ^^^ ((1 : Int32) <<< (t &&& 31))).toInt ∧ (x ^^^ ((1 : Int32) <<< (t &&& 31))).toInt < 64) ∧ (f_ST_isIn x t = 0 → (x ^^^ ((1 : Int32) <<< (t &&& 31)) = x ||| ((1 : Int32) <<< (t &&& 31))) ∧ x &&& (((1 : Int32) <<< (t &&& 31)) ^^^ (-1 : Int32)) = x ∧ 0 ≤ (x ^^^ ((1 : Int32) <<< (t &&& 31))).toInt ∧ (x ^^^ ((1 : Int32) <<< (t &&& 31))).toInt < 64) := by
  obtain ⟨a, ha, rfl⟩ := sm_64 h
  obtain ⟨j, hj, rfl⟩ := sm_6 ht
  exact ⟨fun h => ⟨sm_sus1a a ha j hj h, sm_sus1b a ha j hj h, sm_susB a ha j hj⟩, fun h => ⟨sm_sus0a a ha j hj h, sm_sus0b a ha j hj h, sm_susB a ha j hj⟩⟩
theorem sm_at0 {m z : Int32} (h : f_MD_isMotion m z = 0) : g_ST_motionAt m z = some xt_NS := by
  unfold f_MD_isMotion at h
  unfold g_ST_motionAt
  split at h
  · rename_i h1
    rw [if_pos h1]
  · rename_i h1
    rw [if_neg h1]
    split at h
    · rename_i h2
      rw [if_neg (fun w => by
        rw [Int32.le_iff_toInt_le] at h2
        rw [Int32.lt_iff_toInt_lt] at w
        omega)]
    · exact absurd h (by decide)
theorem sm_at1 {m z : Int32} (h : ¬ f_MD_isMotion m z = 0) : g_ST_motionAt m z = none := by
  have h1 := xv_isr h
  unfold g_ST_motionAt
  rw [if_neg (fun w => by
    rw [Int32.lt_iff_toInt_lt, show (0 : Int32).toInt = 0 from rfl] at w
    omega), if_pos (by
    rw [Int32.lt_iff_toInt_lt]
    omega)]
theorem sm_tr0 {t : Int32} (h : f_MD_isTrustee t = 0) : g_ST_requireTrustee t = some xt_NS := by
  unfold f_MD_isTrustee at h
  unfold g_ST_requireTrustee
  split at h
  · rename_i h1
    rw [if_pos h1]
  · rename_i h1
    rw [if_neg h1]
    split at h
    · rename_i h2
      rw [if_neg (fun w => by
        rw [Int32.le_iff_toInt_le] at h2
        rw [Int32.lt_iff_toInt_lt] at w
        omega)]
    · exact absurd h (by decide)
theorem sm_tr1 {t : Int32} (h : ¬ f_MD_isTrustee t = 0) : g_ST_requireTrustee t = none := by
  have h1 := vp_in_iff.mp (xs_isT h)
  unfold g_ST_requireTrustee
  rw [if_neg (fun w => by
    rw [Int32.lt_iff_toInt_lt, show (0 : Int32).toInt = 0 from rfl] at w
    omega), if_pos (by
    rw [Int32.lt_iff_toInt_lt, show (6 : Int32).toInt = 6 from rfl]
    omega)]
theorem sm_op0 {z : Int32} (h : z = 0) : g_ST_requireOpen z = none := if_pos h
theorem sm_op1 {z : Int32} (h : ¬ z = 0) : g_ST_requireOpen z = some xt_IS := if_neg h
theorem sm_nv0 {a b t : Int32} (h : f_ST_isIn (a ||| b) t = 0) : g_ST_requireNoVoice a b t = none := if_pos h
theorem sm_nv1 {a b t : Int32} (h : ¬ f_ST_isIn (a ||| b) t = 0) : g_ST_requireNoVoice a b t = some xt_IS := if_neg h
theorem sm_vo {m t : Int32} {fi ob : Nat → Int32} (h : 0 ≤ (fi m.toNatClampNeg).toInt ∧ (fi m.toNatClampNeg).toInt < 64) (k : 0 ≤ (ob m.toNatClampNeg).toInt ∧ (ob m.toNatClampNeg).toInt < 64) (ht : vp_in t 6) : f_MD_voice m t fi ob = 0 ↔ f_ST_isIn (fi m.toNatClampNeg ||| ob m.toNatClampNeg) t = 0 := by
  rw [(sm_bit (sm_or h k) ht).1]
  unfold f_MD_voice
  constructor
  · intro z w
    rw [if_pos w] at z
    exact absurd z (by decide)
  · intro z
    rw [if_neg z]
theorem sm_in01 (x t : Int32) : ¬ f_ST_isIn x t = 0 → f_ST_isIn x t = 1 := fun h => (nb_ST_isIn x t).resolve_left h
theorem sm_u1 (f : Nat → Int32) (k : Nat) (v : Int32) : upd f k v k = v := if_pos rfl
theorem sm_u2 (f : Nat → Int32) {k j : Nat} (v : Int32) (h : ¬ j = k) : upd f k v j = f j := if_neg h
theorem sm_v1 (f : Nat → Int64) (k : Nat) (v : Int64) : vp_updL f k v k = v := if_pos rfl
theorem sm_v2 (f : Nat → Int64) {k j : Nat} (v : Int64) (h : ¬ j = k) : vp_updL f k v j = f j := if_neg h
end SBI
