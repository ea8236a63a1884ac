/-! motion and buffer: methods that write -/
def f_MO_begin_standing (newBlock : Int64) : Int32 := (0 : Int32)
def f_MO_begin_block (newBlock : Int64) : Int64 := newBlock
def f_MO_begin_partials (newBlock : Int64) : Int32 := (0 : Int32)
def f_MO_begin_objections (newBlock : Int64) : Int32 := (0 : Int32)
def f_MO_begin_signature (newBlock : Int64) : Int64 := (0 : Int64)
set_option maxHeartbeats 4000000 in
set_option maxRecDepth 100000 in
theorem ct_MO_begin (l : Launch) {G : xg_G} (hg : xg_F G) (H : Heap) (mo : Nat) (newBlock : Int64) (pw : Nat) (cg : Nat) (an : Nat) (standing : Int32) (block : Int64) (partials : Int32) (objections : Int32) (signature : Int64) (hP : va_P G.2.1 cl_all [(mo, .inr (2, [.ref pw, .ref cg, .ref an, .int standing, .long block, .int partials, .int objections, .long signature]))] H) (hD0 : va_D (fun _ => True) [(mo, .inr (2, [.ref pw, .ref cg, .ref an, .int standing, .long block, .int partials, .int objections, .long signature]))])  : xc_Met l y_MO_begin (.code y_MO_begin b_MO_begin 3 none) ({ frames := 0, cells := 0, slots := 0, locals := 0 } : Room) (xg_Pc G [.ref mo, .long newBlock] H) (xw_post G (va_A [(mo, .inr (2, [.ref pw, .ref cg, .ref an, .int standing, .long block, .int partials, .int objections, .long signature]))] H.size) none [(mo, .inr (2, [.ref pw, .ref cg, .ref an, .int (f_MO_begin_standing newBlock), .long (f_MO_begin_block newBlock), .int (f_MO_begin_partials newBlock), .int (f_MO_begin_objections newBlock), .long (f_MO_begin_signature newBlock)]))]) (va_A [(mo, .inr (2, [.ref pw, .ref cg, .ref an, .int standing, .long block, .int partials, .int objections, .long signature]))] H.size) := by
  refine xc_ofW (by decide) ?_
  intro p e s m args below meth c s₁ B hml hE hv
  obtain ⟨rfl, rfl, hw⟩ := hv
  have hx := B.exec
  have hb := B.bytes
  have ht := B.returns
  have hl0 := B.notSynchronized
  have S : xc_Fix p m c b_MO_begin 3 s "SealTrust$Motion" := ⟨hx, hb, hml, findClass_of_methodNamed B.named⟩
  have hD := hD0.self (sz := s.heap.size)
  generalize hAe : va_A [(mo, .inr (2, [.ref pw, .ref cg, .ref an, .int standing, .long block, .int partials, .int objections, .long signature]))] s.heap.size = A at hD ⊢
  have hA : ∀ q : Nat, s.heap.size ≤ q → A q := fun q h => by rw [← hAe]; exact Or.inr h
  have hS : va_S A s.heap s.heap [] := va_S.rf
  have hl := lv_entry ([.ref mo, .long newBlock]) (n := 3) (Nat.le_of_ble_eq_true rfl)
  rw [lg_entry_eq]
  generalize (lg_sl ([.ref mo, .long newBlock]) ++ List.replicate (3 - (lg_sl ([.ref mo, .long newBlock])).length) Slot.unset).toArray = ls at hl ⊢
  have hl : lv_has ls 3 [(0, .ref mo), (1, .long newBlock)] := hl
  obtain ⟨r0, hr0⟩ : ∃ r, f_MO_begin_standing newBlock = r := ⟨_, rfl⟩
  rw [hr0]
  unfold f_MO_begin_standing at hr0
  obtain ⟨r1, hr1⟩ : ∃ r, f_MO_begin_block newBlock = r := ⟨_, rfl⟩
  rw [hr1]
  unfold f_MO_begin_block at hr1
  obtain ⟨r2, hr2⟩ : ∃ r, f_MO_begin_partials newBlock = r := ⟨_, rfl⟩
  rw [hr2]
  unfold f_MO_begin_partials at hr2
  obtain ⟨r3, hr3⟩ : ∃ r, f_MO_begin_objections newBlock = r := ⟨_, rfl⟩
  rw [hr3]
  unfold f_MO_begin_objections at hr3
  obtain ⟨r4, hr4⟩ : ∃ r, f_MO_begin_signature newBlock = r := ⟨_, rfl⟩
  rw [hr4]
  unfold f_MO_begin_signature at hr4
  refine lv_aload_n hx hb d_MO_begin_0 rfl (lv_at hl 0 rfl) ?_
  refine lv_iconst (v := (0 : Int32)) hx hb d_MO_begin_1 (by decide) ?_
  refine pf_MO_22 hg hw S hP hD hS 0 rfl rfl rfl (Nat.le_of_ble_eq_true rfl) d_MO_begin_2 (fun H1 L1 hP hD hS => ?_)
  have hP : va_P G.2.1 cl_all [(mo, .inr (2, [.ref pw, .ref cg, .ref an, .int (0 : Int32), .long block, .int partials, .int objections, .long signature]))] H1 := hP
  have hD : va_D A [(mo, .inr (2, [.ref pw, .ref cg, .ref an, .int (0 : Int32), .long block, .int partials, .int objections, .long signature]))] := hD
  refine lv_aload_n hx hb d_MO_begin_5 rfl (lv_at hl 0 rfl) ?_
  refine lv_lload_n hx hb d_MO_begin_6 rfl (lv_at hl 1 rfl) ?_
  refine pf_MO_26 hg hw S hP hD hS 0 rfl rfl rfl (Nat.le_of_ble_eq_true rfl) d_MO_begin_7 (fun H2 L2 hP hD hS => ?_)
  have hP : va_P G.2.1 cl_all [(mo, .inr (2, [.ref pw, .ref cg, .ref an, .int (0 : Int32), .long newBlock, .int partials, .int objections, .long signature]))] H2 := hP
  have hD : va_D A [(mo, .inr (2, [.ref pw, .ref cg, .ref an, .int (0 : Int32), .long newBlock, .int partials, .int objections, .long signature]))] := hD
  refine lv_aload_n hx hb d_MO_begin_10 rfl (lv_at hl 0 rfl) ?_
  refine lv_iconst (v := (0 : Int32)) hx hb d_MO_begin_11 (by decide) ?_
  refine pf_MO_30 hg hw S hP hD hS 0 rfl rfl rfl (Nat.le_of_ble_eq_true rfl) d_MO_begin_12 (fun H3 L3 hP hD hS => ?_)
  have hP : va_P G.2.1 cl_all [(mo, .inr (2, [.ref pw, .ref cg, .ref an, .int (0 : Int32), .long newBlock, .int (0 : Int32), .int objections, .long signature]))] H3 := hP
  have hD : va_D A [(mo, .inr (2, [.ref pw, .ref cg, .ref an, .int (0 : Int32), .long newBlock, .int (0 : Int32), .int objections, .long signature]))] := hD
  refine lv_aload_n hx hb d_MO_begin_15 rfl (lv_at hl 0 rfl) ?_
  refine lv_iconst (v := (0 : Int32)) hx hb d_MO_begin_16 (by decide) ?_
  refine pf_MO_33 hg hw S hP hD hS 0 rfl rfl rfl (Nat.le_of_ble_eq_true rfl) d_MO_begin_17 (fun H4 L4 hP hD hS => ?_)
  have hP : va_P G.2.1 cl_all [(mo, .inr (2, [.ref pw, .ref cg, .ref an, .int (0 : Int32), .long newBlock, .int (0 : Int32), .int (0 : Int32), .long signature]))] H4 := hP
  have hD : va_D A [(mo, .inr (2, [.ref pw, .ref cg, .ref an, .int (0 : Int32), .long newBlock, .int (0 : Int32), .int (0 : Int32), .long signature]))] := hD
  refine lv_aload_n hx hb d_MO_begin_20 rfl (lv_at hl 0 rfl) ?_
  refine lv_lconst (v := (0 : Int64)) hx hb d_MO_begin_21 (by decide) ?_
  refine pf_MO_36 hg hw S hP hD hS 0 rfl rfl rfl (Nat.le_of_ble_eq_true rfl) d_MO_begin_22 (fun H5 L5 hP hD hS => ?_)
  have hP : va_P G.2.1 cl_all [(mo, .inr (2, [.ref pw, .ref cg, .ref an, .int (0 : Int32), .long newBlock, .int (0 : Int32), .int (0 : Int32), .long (0 : Int64)]))] H5 := hP
  have hD : va_D A [(mo, .inr (2, [.ref pw, .ref cg, .ref an, .int (0 : Int32), .long newBlock, .int (0 : Int32), .int (0 : Int32), .long (0 : Int64)]))] := hD
  subst hr0
  subst hr1
  subst hr2
  subst hr3
  subst hr4
  exact xw_vret hx hb ht hl0 hP hD hS d_MO_begin_25
def f_MO_dropPartials_partials  : Int32 := (0 : Int32)
set_option maxHeartbeats 4000000 in
set_option maxRecDepth 100000 in
theorem ct_MO_dropPartials (l : Launch) {G : xg_G} (hg : xg_F G) (H : Heap) (mo : Nat) (pw : Nat) (cg : Nat) (an : Nat) (standing : Int32) (block : Int64) (partials : Int32) (objections : Int32) (signature : Int64) (hP : va_P G.2.1 cl_all [(mo, .inr (2, [.ref pw, .ref cg, .ref an, .int standing, .long block, .int partials, .int objections, .long signature]))] H) (hD0 : va_D (fun _ => True) [(mo, .inr (2, [.ref pw, .ref cg, .ref an, .int standing, .long block, .int partials, .int objections, .long signature]))])  : xc_Met l y_MO_dropPartials (.code y_MO_dropPartials b_MO_dropPartials 1 none) ({ frames := 0, cells := 0, slots := 0, locals := 0 } : Room) (xg_Pc G [.ref mo] H) (xw_post G (va_A [(mo, .inr (2, [.ref pw, .ref cg, .ref an, .int standing, .long block, .int partials, .int objections, .long signature]))] H.size) none [(mo, .inr (2, [.ref pw, .ref cg, .ref an, .int standing, .long block, .int f_MO_dropPartials_partials, .int objections, .long signature]))]) (va_A [(mo, .inr (2, [.ref pw, .ref cg, .ref an, .int standing, .long block, .int partials, .int objections, .long signature]))] H.size) := by
  refine xc_ofW (by decide) ?_
  intro p e s m args below meth c s₁ B hml hE hv
  obtain ⟨rfl, rfl, hw⟩ := hv
  have hx := B.exec
  have hb := B.bytes
  have ht := B.returns
  have hl0 := B.notSynchronized
  have S : xc_Fix p m c b_MO_dropPartials 1 s "SealTrust$Motion" := ⟨hx, hb, hml, findClass_of_methodNamed B.named⟩
  have hD := hD0.self (sz := s.heap.size)
  generalize hAe : va_A [(mo, .inr (2, [.ref pw, .ref cg, .ref an, .int standing, .long block, .int partials, .int objections, .long signature]))] s.heap.size = A at hD ⊢
  have hA : ∀ q : Nat, s.heap.size ≤ q → A q := fun q h => by rw [← hAe]; exact Or.inr h
  have hS : va_S A s.heap s.heap [] := va_S.rf
  have hl := lv_entry ([.ref mo]) (n := 1) (Nat.le_of_ble_eq_true rfl)
  rw [lg_entry_eq]
  generalize (lg_sl ([.ref mo]) ++ List.replicate (1 - (lg_sl ([.ref mo])).length) Slot.unset).toArray = ls at hl ⊢
  have hl : lv_has ls 1 [(0, .ref mo)] := hl
  obtain ⟨r0, hr0⟩ : ∃ r, f_MO_dropPartials_partials  = r := ⟨_, rfl⟩
  rw [hr0]
  unfold f_MO_dropPartials_partials at hr0
  refine lv_aload_n hx hb d_MO_dropPartials_0 rfl (lv_at hl 0 rfl) ?_
  refine lv_iconst (v := (0 : Int32)) hx hb d_MO_dropPartials_1 (by decide) ?_
  refine pf_MO_30 hg hw S hP hD hS 0 rfl rfl rfl (Nat.le_of_ble_eq_true rfl) d_MO_dropPartials_2 (fun H1 L1 hP hD hS => ?_)
  have hP : va_P G.2.1 cl_all [(mo, .inr (2, [.ref pw, .ref cg, .ref an, .int standing, .long block, .int (0 : Int32), .int objections, .long signature]))] H1 := hP
  have hD : va_D A [(mo, .inr (2, [.ref pw, .ref cg, .ref an, .int standing, .long block, .int (0 : Int32), .int objections, .long signature]))] := hD
  subst hr0
  exact xw_vret hx hb ht hl0 hP hD hS d_MO_dropPartials_5
def f_MO_seal_standing (newSignature : Int64) : Int32 := (1 : Int32)
def f_MO_seal_signature (newSignature : Int64) : Int64 := newSignature
set_option maxHeartbeats 4000000 in
set_option maxRecDepth 100000 in
theorem ct_MO_seal (l : Launch) {G : xg_G} (hg : xg_F G) (H : Heap) (mo : Nat) (newSignature : Int64) (pw : Nat) (cg : Nat) (an : Nat) (standing : Int32) (block : Int64) (partials : Int32) (objections : Int32) (signature : Int64) (hP : va_P G.2.1 cl_all [(mo, .inr (2, [.ref pw, .ref cg, .ref an, .int standing, .long block, .int partials, .int objections, .long signature]))] H) (hD0 : va_D (fun _ => True) [(mo, .inr (2, [.ref pw, .ref cg, .ref an, .int standing, .long block, .int partials, .int objections, .long signature]))])  : xc_Met l y_MO_seal (.code y_MO_seal b_MO_seal 3 none) ({ frames := 0, cells := 0, slots := 0, locals := 0 } : Room) (xg_Pc G [.ref mo, .long newSignature] H) (xw_post G (va_A [(mo, .inr (2, [.ref pw, .ref cg, .ref an, .int standing, .long block, .int partials, .int objections, .long signature]))] H.size) none [(mo, .inr (2, [.ref pw, .ref cg, .ref an, .int (f_MO_seal_standing newSignature), .long block, .int partials, .int objections, .long (f_MO_seal_signature newSignature)]))]) (va_A [(mo, .inr (2, [.ref pw, .ref cg, .ref an, .int standing, .long block, .int partials, .int objections, .long signature]))] H.size) := by
  refine xc_ofW (by decide) ?_
  intro p e s m args below meth c s₁ B hml hE hv
  obtain ⟨rfl, rfl, hw⟩ := hv
  have hx := B.exec
  have hb := B.bytes
  have ht := B.returns
  have hl0 := B.notSynchronized
  have S : xc_Fix p m c b_MO_seal 3 s "SealTrust$Motion" := ⟨hx, hb, hml, findClass_of_methodNamed B.named⟩
  have hD := hD0.self (sz := s.heap.size)
  generalize hAe : va_A [(mo, .inr (2, [.ref pw, .ref cg, .ref an, .int standing, .long block, .int partials, .int objections, .long signature]))] s.heap.size = A at hD ⊢
  have hA : ∀ q : Nat, s.heap.size ≤ q → A q := fun q h => by rw [← hAe]; exact Or.inr h
  have hS : va_S A s.heap s.heap [] := va_S.rf
  have hl := lv_entry ([.ref mo, .long newSignature]) (n := 3) (Nat.le_of_ble_eq_true rfl)
  rw [lg_entry_eq]
  generalize (lg_sl ([.ref mo, .long newSignature]) ++ List.replicate (3 - (lg_sl ([.ref mo, .long newSignature])).length) Slot.unset).toArray = ls at hl ⊢
  have hl : lv_has ls 3 [(0, .ref mo), (1, .long newSignature)] := hl
  obtain ⟨r0, hr0⟩ : ∃ r, f_MO_seal_standing newSignature = r := ⟨_, rfl⟩
  rw [hr0]
  unfold f_MO_seal_standing at hr0
  obtain ⟨r1, hr1⟩ : ∃ r, f_MO_seal_signature newSignature = r := ⟨_, rfl⟩
  rw [hr1]
  unfold f_MO_seal_signature at hr1
  refine lv_aload_n hx hb d_MO_seal_0 rfl (lv_at hl 0 rfl) ?_
  refine lv_lload_n hx hb d_MO_seal_1 rfl (lv_at hl 1 rfl) ?_
  refine pf_MO_36 hg hw S hP hD hS 0 rfl rfl rfl (Nat.le_of_ble_eq_true rfl) d_MO_seal_2 (fun H1 L1 hP hD hS => ?_)
  have hP : va_P G.2.1 cl_all [(mo, .inr (2, [.ref pw, .ref cg, .ref an, .int standing, .long block, .int partials, .int objections, .long newSignature]))] H1 := hP
  have hD : va_D A [(mo, .inr (2, [.ref pw, .ref cg, .ref an, .int standing, .long block, .int partials, .int objections, .long newSignature]))] := hD
  refine lv_aload_n hx hb d_MO_seal_5 rfl (lv_at hl 0 rfl) ?_
  refine lv_iconst (v := (1 : Int32)) hx hb d_MO_seal_6 (by decide) ?_
  refine pf_MO_22 hg hw S hP hD hS 0 rfl rfl rfl (Nat.le_of_ble_eq_true rfl) d_MO_seal_7 (fun H2 L2 hP hD hS => ?_)
  have hP : va_P G.2.1 cl_all [(mo, .inr (2, [.ref pw, .ref cg, .ref an, .int (1 : Int32), .long block, .int partials, .int objections, .long newSignature]))] H2 := hP
  have hD : va_D A [(mo, .inr (2, [.ref pw, .ref cg, .ref an, .int (1 : Int32), .long block, .int partials, .int objections, .long newSignature]))] := hD
  subst hr0
  subst hr1
  exact xw_vret hx hb ht hl0 hP hD hS d_MO_seal_10
def f_MO_takePartial_PW (trustee : Int32) (power : Int64) (powers : Nat → Int64) : Nat → Int64 := vp_updL powers trustee.toNatClampNeg power
def f_MO_takePartial_CG (trustee : Int32) (challenge : Int32) (challenges : Nat → Int32) : Nat → Int32 := upd challenges trustee.toNatClampNeg challenge
def f_MO_takePartial_AN (trustee : Int32) (answer : Int64) (answers : Nat → Int64) : Nat → Int64 := vp_updL answers trustee.toNatClampNeg answer
def f_MO_takePartial_partials (trustee : Int32) (partials : Int32) : Int32 := partials ||| ((1 : Int32) <<< (trustee &&& 31))
set_option maxHeartbeats 4000000 in
set_option maxRecDepth 100000 in
theorem ct_MO_takePartial (l : Launch) {G : xg_G} (hg : xg_F G) (H : Heap) (mo : Nat) (trustee : Int32) (power : Int64) (challenge : Int32) (answer : Int64) (pw : Nat) (cg : Nat) (an : Nat) (standing : Int32) (block : Int64) (partials : Int32) (objections : Int32) (signature : Int64) (powers : Nat → Int64) (challenges : Nat → Int32) (answers : Nat → Int64) (hP : va_P G.2.1 cl_all [(mo, .inr (2, [.ref pw, .ref cg, .ref an, .int standing, .long block, .int partials, .int objections, .long signature])), (pw, .inl (G.2.2.2.1, 6, .inr (.inl powers))), (cg, .inl (G.2.2.1, 6, .inl challenges)), (an, .inl (G.2.2.2.1, 6, .inr (.inl answers)))] H) (hD0 : va_D (fun _ => True) [(mo, .inr (2, [.ref pw, .ref cg, .ref an, .int standing, .long block, .int partials, .int objections, .long signature])), (pw, .inl (G.2.2.2.1, 6, .inr (.inl powers))), (cg, .inl (G.2.2.1, 6, .inl challenges)), (an, .inl (G.2.2.2.1, 6, .inr (.inl answers)))]) (hT : vp_in trustee 6) : xc_Met l y_MO_takePartial (.code y_MO_takePartial b_MO_takePartial 7 none) ({ frames := 0, cells := 0, slots := 0, locals := 0 } : Room) (xg_Pc G [.ref mo, .int trustee, .long power, .int challenge, .long answer] H) (xw_post G (va_A [(mo, .inr (2, [.ref pw, .ref cg, .ref an, .int standing, .long block, .int partials, .int objections, .long signature])), (pw, .inl (G.2.2.2.1, 6, .inr (.inl powers))), (cg, .inl (G.2.2.1, 6, .inl challenges)), (an, .inl (G.2.2.2.1, 6, .inr (.inl answers)))] H.size) none [(mo, .inr (2, [.ref pw, .ref cg, .ref an, .int standing, .long block, .int (f_MO_takePartial_partials trustee partials), .int objections, .long signature])), (pw, .inl (G.2.2.2.1, 6, .inr (.inl (f_MO_takePartial_PW trustee power powers)))), (cg, .inl (G.2.2.1, 6, .inl (f_MO_takePartial_CG trustee challenge challenges))), (an, .inl (G.2.2.2.1, 6, .inr (.inl (f_MO_takePartial_AN trustee answer answers))))]) (va_A [(mo, .inr (2, [.ref pw, .ref cg, .ref an, .int standing, .long block, .int partials, .int objections, .long signature])), (pw, .inl (G.2.2.2.1, 6, .inr (.inl powers))), (cg, .inl (G.2.2.1, 6, .inl challenges)), (an, .inl (G.2.2.2.1, 6, .inr (.inl answers)))] H.size) := by
  refine xc_ofW (by decide) ?_
  intro p e s m args below meth c s₁ B hml hE hv
  obtain ⟨rfl, rfl, hw⟩ := hv
  have hx := B.exec
  have hb := B.bytes
  have ht := B.returns
  have hl0 := B.notSynchronized
  have S : xc_Fix p m c b_MO_takePartial 7 s "SealTrust$Motion" := ⟨hx, hb, hml, findClass_of_methodNamed B.named⟩
  have hD := hD0.self (sz := s.heap.size)
  generalize hAe : va_A [(mo, .inr (2, [.ref pw, .ref cg, .ref an, .int standing, .long block, .int partials, .int objections, .long signature])), (pw, .inl (G.2.2.2.1, 6, .inr (.inl powers))), (cg, .inl (G.2.2.1, 6, .inl challenges)), (an, .inl (G.2.2.2.1, 6, .inr (.inl answers)))] s.heap.size = A at hD ⊢
  have hA : ∀ q : Nat, s.heap.size ≤ q → A q := fun q h => by rw [← hAe]; exact Or.inr h
  have hS : va_S A s.heap s.heap [] := va_S.rf
  have hl := lv_entry ([.ref mo, .int trustee, .long power, .int challenge, .long answer]) (n := 7) (Nat.le_of_ble_eq_true rfl)
  rw [lg_entry_eq]
  generalize (lg_sl ([.ref mo, .int trustee, .long power, .int challenge, .long answer]) ++ List.replicate (7 - (lg_sl ([.ref mo, .int trustee, .long power, .int challenge, .long answer])).length) Slot.unset).toArray = ls at hl ⊢
  have hl : lv_has ls 7 [(0, .ref mo), (1, .int trustee), (2, .long power), (4, .int challenge), (5, .long answer)] := hl
  obtain ⟨r0, hr0⟩ : ∃ r, f_MO_takePartial_PW trustee power powers = r := ⟨_, rfl⟩
  rw [hr0]
  unfold f_MO_takePartial_PW at hr0
  obtain ⟨r1, hr1⟩ : ∃ r, f_MO_takePartial_CG trustee challenge challenges = r := ⟨_, rfl⟩
  rw [hr1]
  unfold f_MO_takePartial_CG at hr1
  obtain ⟨r2, hr2⟩ : ∃ r, f_MO_takePartial_AN trustee answer answers = r := ⟨_, rfl⟩
  rw [hr2]
  unfold f_MO_takePartial_AN at hr2
  obtain ⟨r3, hr3⟩ : ∃ r, f_MO_takePartial_partials trustee partials = r := ⟨_, rfl⟩
  rw [hr3]
  unfold f_MO_takePartial_partials at hr3
  refine lv_aload_n hx hb d_MO_takePartial_0 rfl (lv_at hl 0 rfl) ?_
  refine gf_MO_9 hg hw S hP 0 rfl rfl d_MO_takePartial_1 ?_
  refine lv_iload_n hx hb d_MO_takePartial_4 rfl (lv_at hl 1 rfl) ?_
  refine lv_lload_n hx hb d_MO_takePartial_5 rfl (lv_at hl 2 rfl) ?_
  refine va_last hx hb (xg_k hg hw) hP hD hS 1 1 rfl rfl hT d_MO_takePartial_6 (fun H1 L1 hP hD hS => ?_)
  have hP : va_P G.2.1 cl_all [(mo, .inr (2, [.ref pw, .ref cg, .ref an, .int standing, .long block, .int partials, .int objections, .long signature])), (pw, .inl (G.2.2.2.1, 6, .inr (.inl (vp_updL powers trustee.toNatClampNeg power)))), (cg, .inl (G.2.2.1, 6, .inl challenges)), (an, .inl (G.2.2.2.1, 6, .inr (.inl answers)))] H1 := hP
  have hD : va_D A [(mo, .inr (2, [.ref pw, .ref cg, .ref an, .int standing, .long block, .int partials, .int objections, .long signature])), (pw, .inl (G.2.2.2.1, 6, .inr (.inl (vp_updL powers trustee.toNatClampNeg power)))), (cg, .inl (G.2.2.1, 6, .inl challenges)), (an, .inl (G.2.2.2.1, 6, .inr (.inl answers)))] := hD
  refine lv_aload_n hx hb d_MO_takePartial_7 rfl (lv_at hl 0 rfl) ?_
  refine gf_MO_15 hg hw S hP 0 rfl rfl d_MO_takePartial_8 ?_
  refine lv_iload_n hx hb d_MO_takePartial_11 rfl (lv_at hl 1 rfl) ?_
  refine lv_iload hx hb d_MO_takePartial_12 (lv_at hl 3 rfl) ?_
  refine va_iast hx hb (xg_k hg hw) hP hD hS 2 0 rfl rfl hT d_MO_takePartial_14 (fun H2 L2 hP hD hS => ?_)
  have hP : va_P G.2.1 cl_all [(mo, .inr (2, [.ref pw, .ref cg, .ref an, .int standing, .long block, .int partials, .int objections, .long signature])), (pw, .inl (G.2.2.2.1, 6, .inr (.inl (vp_updL powers trustee.toNatClampNeg power)))), (cg, .inl (G.2.2.1, 6, .inl (upd challenges trustee.toNatClampNeg challenge))), (an, .inl (G.2.2.2.1, 6, .inr (.inl answers)))] H2 := hP
  have hD : va_D A [(mo, .inr (2, [.ref pw, .ref cg, .ref an, .int standing, .long block, .int partials, .int objections, .long signature])), (pw, .inl (G.2.2.2.1, 6, .inr (.inl (vp_updL powers trustee.toNatClampNeg power)))), (cg, .inl (G.2.2.1, 6, .inl (upd challenges trustee.toNatClampNeg challenge))), (an, .inl (G.2.2.2.1, 6, .inr (.inl answers)))] := hD
  refine lv_aload_n hx hb d_MO_takePartial_15 rfl (lv_at hl 0 rfl) ?_
  refine gf_MO_19 hg hw S hP 0 rfl rfl d_MO_takePartial_16 ?_
  refine lv_iload_n hx hb d_MO_takePartial_19 rfl (lv_at hl 1 rfl) ?_
  refine lv_lload hx hb d_MO_takePartial_20 (lv_at hl 4 rfl) ?_
  refine va_last hx hb (xg_k hg hw) hP hD hS 3 1 rfl rfl hT d_MO_takePartial_22 (fun H3 L3 hP hD hS => ?_)
  have hP : va_P G.2.1 cl_all [(mo, .inr (2, [.ref pw, .ref cg, .ref an, .int standing, .long block, .int partials, .int objections, .long signature])), (pw, .inl (G.2.2.2.1, 6, .inr (.inl (vp_updL powers trustee.toNatClampNeg power)))), (cg, .inl (G.2.2.1, 6, .inl (upd challenges trustee.toNatClampNeg challenge))), (an, .inl (G.2.2.2.1, 6, .inr (.inl (vp_updL answers trustee.toNatClampNeg answer))))] H3 := hP
  have hD : va_D A [(mo, .inr (2, [.ref pw, .ref cg, .ref an, .int standing, .long block, .int partials, .int objections, .long signature])), (pw, .inl (G.2.2.2.1, 6, .inr (.inl (vp_updL powers trustee.toNatClampNeg power)))), (cg, .inl (G.2.2.1, 6, .inl (upd challenges trustee.toNatClampNeg challenge))), (an, .inl (G.2.2.2.1, 6, .inr (.inl (vp_updL answers trustee.toNatClampNeg answer))))] := hD
  refine lv_aload_n hx hb d_MO_takePartial_23 rfl (lv_at hl 0 rfl) ?_
  refine lv_dup hx hb d_MO_takePartial_24 rfl ?_
  refine gf_MO_30 hg hw S hP 0 rfl rfl d_MO_takePartial_25 ?_
  refine lv_iconst (v := (1 : Int32)) hx hb d_MO_takePartial_28 (by decide) ?_
  refine lv_iload_n hx hb d_MO_takePartial_29 rfl (lv_at hl 1 rfl) ?_
  refine lv_ishl hx hb d_MO_takePartial_30 ?_
  refine lv_ior hx hb d_MO_takePartial_31 ?_
  refine pf_MO_30 hg hw S hP hD hS 0 rfl rfl rfl (Nat.le_of_ble_eq_true rfl) d_MO_takePartial_32 (fun H4 L4 hP hD hS => ?_)
  have hP : va_P G.2.1 cl_all [(mo, .inr (2, [.ref pw, .ref cg, .ref an, .int standing, .long block, .int (partials ||| ((1 : Int32) <<< (trustee &&& 31))), .int objections, .long signature])), (pw, .inl (G.2.2.2.1, 6, .inr (.inl (vp_updL powers trustee.toNatClampNeg power)))), (cg, .inl (G.2.2.1, 6, .inl (upd challenges trustee.toNatClampNeg challenge))), (an, .inl (G.2.2.2.1, 6, .inr (.inl (vp_updL answers trustee.toNatClampNeg answer))))] H4 := hP
  have hD : va_D A [(mo, .inr (2, [.ref pw, .ref cg, .ref an, .int standing, .long block, .int (partials ||| ((1 : Int32) <<< (trustee &&& 31))), .int objections, .long signature])), (pw, .inl (G.2.2.2.1, 6, .inr (.inl (vp_updL powers trustee.toNatClampNeg power)))), (cg, .inl (G.2.2.1, 6, .inl (upd challenges trustee.toNatClampNeg challenge))), (an, .inl (G.2.2.2.1, 6, .inr (.inl (vp_updL answers trustee.toNatClampNeg answer))))] := hD
  subst hr0
  subst hr1
  subst hr2
  subst hr3
  exact xw_vret hx hb ht hl0 hP hD hS d_MO_takePartial_35
def f_BU_clear_size  : Int32 := (0 : Int32)
set_option maxHeartbeats 4000000 in
set_option maxRecDepth 100000 in
theorem ct_BU_clear (l : Launch) {G : xg_G} (hg : xg_F G) (H : Heap) (bu : Nat) (bys : Nat) (size : Int32) (hP : va_P G.2.1 cl_all [(bu, .inr (0, [.ref bys, .int size]))] H) (hD0 : va_D (fun _ => True) [(bu, .inr (0, [.ref bys, .int size]))])  : xc_Met l y_BU_clear (.code y_BU_clear b_BU_clear 1 none) ({ frames := 0, cells := 0, slots := 0, locals := 0 } : Room) (xg_Pc G [.ref bu] H) (xw_post G (va_A [(bu, .inr (0, [.ref bys, .int size]))] H.size) none [(bu, .inr (0, [.ref bys, .int f_BU_clear_size]))]) (va_A [(bu, .inr (0, [.ref bys, .int size]))] H.size) := by
  refine xc_ofW (by decide) ?_
  intro p e s m args below meth c s₁ B hml hE hv
  obtain ⟨rfl, rfl, hw⟩ := hv
  have hx := B.exec
  have hb := B.bytes
  have ht := B.returns
  have hl0 := B.notSynchronized
  have S : xc_Fix p m c b_BU_clear 1 s "SealTrust$Buffer" := ⟨hx, hb, hml, findClass_of_methodNamed B.named⟩
  have hD := hD0.self (sz := s.heap.size)
  generalize hAe : va_A [(bu, .inr (0, [.ref bys, .int size]))] s.heap.size = A at hD ⊢
  have hA : ∀ q : Nat, s.heap.size ≤ q → A q := fun q h => by rw [← hAe]; exact Or.inr h
  have hS : va_S A s.heap s.heap [] := va_S.rf
  have hl := lv_entry ([.ref bu]) (n := 1) (Nat.le_of_ble_eq_true rfl)
  rw [lg_entry_eq]
  generalize (lg_sl ([.ref bu]) ++ List.replicate (1 - (lg_sl ([.ref bu])).length) Slot.unset).toArray = ls at hl ⊢
  have hl : lv_has ls 1 [(0, .ref bu)] := hl
  obtain ⟨r0, hr0⟩ : ∃ r, f_BU_clear_size  = r := ⟨_, rfl⟩
  rw [hr0]
  unfold f_BU_clear_size at hr0
  refine lv_aload_n hx hb d_BU_clear_0 rfl (lv_at hl 0 rfl) ?_
  refine lv_iconst (v := (0 : Int32)) hx hb d_BU_clear_1 (by decide) ?_
  refine pf_BU_15 hg hw S hP hD hS 0 rfl rfl rfl (Nat.le_of_ble_eq_true rfl) d_BU_clear_2 (fun H1 L1 hP hD hS => ?_)
  have hP : va_P G.2.1 cl_all [(bu, .inr (0, [.ref bys, .int (0 : Int32)]))] H1 := hP
  have hD : va_D A [(bu, .inr (0, [.ref bys, .int (0 : Int32)]))] := hD
  subst hr0
  exact xw_vret hx hb ht hl0 hP hD hS d_BU_clear_5
def lf_BU_append_4_0 (word : Int32) (n_ : Int32) (size : Int32) (bytes : Nat → Int32) : Nat → Int32 → Int32 → (Nat → Int32) → Int32
  | 0, _, _, _ => 0
  | n + 1, i, sz, bs => if i < 0 then sz else (if (24 : Int32) ≤ sz then sz else (lf_BU_append_4_0 word n_ size bytes n (i + (-1 : Int32)) (sz + (1 : Int32)) (upd bs sz.toNatClampNeg (((word.toUInt32 >>> (((8 : Int32) * i).toUInt32 &&& Int32.toUInt32 31)).toInt32) &&& (255 : Int32)))))
def lf_BU_append_4_1 (word : Int32) (n_ : Int32) (size : Int32) (bytes : Nat → Int32) : Nat → Int32 → Int32 → (Nat → Int32) → (Nat → Int32)
  | 0, _, _, _ => fun _ => 0
  | n + 1, i, sz, bs => if i < 0 then bs else (if (24 : Int32) ≤ sz then bs else (lf_BU_append_4_1 word n_ size bytes n (i + (-1 : Int32)) (sz + (1 : Int32)) (upd bs sz.toNatClampNeg (((word.toUInt32 >>> (((8 : Int32) * i).toUInt32 &&& Int32.toUInt32 31)).toInt32) &&& (255 : Int32)))))
def f_BU_append_size (word : Int32) (n_ : Int32) (size : Int32) (bytes : Nat → Int32) : Int32 := lf_BU_append_4_0 word n_ size bytes 6 (n_ - (1 : Int32)) size bytes
def f_BU_append_BY (word : Int32) (n_ : Int32) (size : Int32) (bytes : Nat → Int32) : Nat → Int32 := lf_BU_append_4_1 word n_ size bytes 6 (n_ - (1 : Int32)) size bytes
set_option maxHeartbeats 4000000 in
set_option maxRecDepth 100000 in
theorem wl_BU_append_4 {p : Program} {l : Launch} {e : Env} {s : State} {m : MethodId} {args : Array Value} {below : List Frame} {meth : Method} {c : Code} {G : xg_G} {A : Nat → Prop} {bu : Nat} {word : Int32} {n_ : Int32} {bys : Nat} {size : Int32} {bytes : Nat → Int32} (hg : xg_F G) (hw : G.1.WarmedH s.vm) (S : xc_Fix p m c b_BU_append 4 s "SealTrust$Buffer") (hl0 : meth.locks = false) (ht : meth.sig.returnType = none) (hA : ∀ q, s.heap.size ≤ q → A q)  : ∀ (n : Nat) (i : Int32) (sz : Int32) (bs : Nat → Int32) (r0 : Int32) (r1 : Nat → Int32) (ls : Array Slot) (H9 : Heap) (L9 : List Loc), lf_BU_append_4_0 word n_ size bytes n i sz bs = r0 → lf_BU_append_4_1 word n_ size bytes n i sz bs = r1 → (-1 ≤ i.toInt ∧ i.toInt < (n : Int) - 1 ∧ 0 ≤ sz.toInt) → lv_has ls 4 [(3, .int i), (0, .ref bu), (1, .int word), (2, .int n_)] → va_P G.2.1 cl_all [(bu, .inr (0, [.ref bys, .int sz])), (bys, .inl (G.2.2.1, 24, .inl bs))] H9 → va_D A [(bu, .inr (0, [.ref bys, .int sz])), (bys, .inl (G.2.2.1, 24, .inl bs))] → va_S A s.heap H9 L9 → W p l e ({ frames := 0, cells := 0, slots := 0, locals := 0 } : Room) s m args below meth c H9 L9 0 0 (xw_Z G below A none [(bu, .inr (0, [.ref bys, .int r0])), (bys, .inl (G.2.2.1, 24, .inl r1))] args s 0 0) (F0 m 4 ls []) := by
  have hx := S.1
  have hb := S.2.1
  intro n
  induction n with
  | zero =>
    intro i sz bs r0 r1 ls H9 L9 hr0 hr1 hmu
    omega
  | succ n ih =>
    intro i sz bs r0 r1 ls H9 L9 hr0 hr1 hmu hl hP hD hS
    rw [lf_BU_append_4_0] at hr0
    rw [lf_BU_append_4_1] at hr1
    refine lv_iload_n hx hb d_BU_append_4 rfl (lv_at hl 0 rfl) ?_
    refine lv_if_lt hx hb d_BU_append_5 (tgt := 52) (by decide) (fun h5 => ?_) (fun h5 => ?_)
    · rw [if_pos h5] at hr0
      rw [if_pos h5] at hr1
      subst hr0
      subst hr1
      exact xw_vret hx hb ht hl0 hP hD hS d_BU_append_52
    · rw [if_neg h5] at hr0
      rw [if_neg h5] at hr1
      refine lv_aload_n hx hb d_BU_append_8 rfl (lv_at hl 1 rfl) ?_
      refine gf_BU_15 hg hw S hP 0 rfl rfl d_BU_append_9 ?_
      refine lv_bipush (v := (24 : Int32)) hx hb d_BU_append_12 (by decide) ?_
      refine lv_icmp_ge hx hb d_BU_append_14 (tgt := 52) (by decide) (fun h14 => ?_) (fun h14 => ?_)
      · rw [if_pos h14] at hr0
        rw [if_pos h14] at hr1
        subst hr0
        subst hr1
        exact xw_vret hx hb ht hl0 hP hD hS d_BU_append_52
      · rw [if_neg h14] at hr0
        rw [if_neg h14] at hr1
        refine lv_aload_n hx hb d_BU_append_17 rfl (lv_at hl 1 rfl) ?_
        refine gf_BU_9 hg hw S hP 0 rfl rfl d_BU_append_18 ?_
        refine lv_aload_n hx hb d_BU_append_21 rfl (lv_at hl 1 rfl) ?_
        refine gf_BU_15 hg hw S hP 0 rfl rfl d_BU_append_22 ?_
        refine lv_iload_n hx hb d_BU_append_25 rfl (lv_at hl 2 rfl) ?_
        refine lv_bipush (v := (8 : Int32)) hx hb d_BU_append_26 (by decide) ?_
        refine lv_iload_n hx hb d_BU_append_28 rfl (lv_at hl 0 rfl) ?_
        refine lv_imul hx hb d_BU_append_29 ?_
        refine lv_iushr hx hb d_BU_append_30 rfl ?_
        refine lv_sipush (v := (255 : Int32)) hx hb d_BU_append_31 (by decide) ?_
        refine lv_iand hx hb d_BU_append_34 ?_
        refine va_iast hx hb (xg_k hg hw) hP hD hS 1 0 rfl rfl (xi_in h14 hmu.2.2 (by decide)) d_BU_append_35 (fun H1 L1 hP hD hS => ?_)
        have hP : va_P G.2.1 cl_all [(bu, .inr (0, [.ref bys, .int sz])), (bys, .inl (G.2.2.1, 24, .inl (upd bs sz.toNatClampNeg (((word.toUInt32 >>> (((8 : Int32) * i).toUInt32 &&& Int32.toUInt32 31)).toInt32) &&& (255 : Int32)))))] H1 := hP
        have hD : va_D A [(bu, .inr (0, [.ref bys, .int sz])), (bys, .inl (G.2.2.1, 24, .inl (upd bs sz.toNatClampNeg (((word.toUInt32 >>> (((8 : Int32) * i).toUInt32 &&& Int32.toUInt32 31)).toInt32) &&& (255 : Int32)))))] := hD
        refine lv_aload_n hx hb d_BU_append_36 rfl (lv_at hl 1 rfl) ?_
        refine lv_dup hx hb d_BU_append_37 rfl ?_
        refine gf_BU_15 hg hw S hP 0 rfl rfl d_BU_append_38 ?_
        refine lv_iconst (v := (1 : Int32)) hx hb d_BU_append_41 (by decide) ?_
        refine lv_iadd hx hb d_BU_append_42 ?_
        refine pf_BU_15 hg hw S hP hD hS 0 rfl rfl rfl (Nat.le_of_ble_eq_true rfl) d_BU_append_43 (fun H2 L2 hP hD hS => ?_)
        have hP : va_P G.2.1 cl_all [(bu, .inr (0, [.ref bys, .int (sz + (1 : Int32))])), (bys, .inl (G.2.2.1, 24, .inl (upd bs sz.toNatClampNeg (((word.toUInt32 >>> (((8 : Int32) * i).toUInt32 &&& Int32.toUInt32 31)).toInt32) &&& (255 : Int32)))))] H2 := hP
        have hD : va_D A [(bu, .inr (0, [.ref bys, .int (sz + (1 : Int32))])), (bys, .inl (G.2.2.1, 24, .inl (upd bs sz.toNatClampNeg (((word.toUInt32 >>> (((8 : Int32) * i).toUInt32 &&& Int32.toUInt32 31)).toInt32) &&& (255 : Int32)))))] := hD
        refine lv_iinc (v := i + (-1 : Int32)) hx hb d_BU_append_46 hl (k := 0) rfl rfl (by decide) rfl (fun ls hl => ?_)
        have hl : lv_has ls 4 [(3, .int (i + (-1 : Int32))), (0, .ref bu), (1, .int word), (2, .int n_)] := hl
        refine lv_goto hx hb d_BU_append_49 (tgt := 4) (by decide) ?_
        exact ih (i + (-1 : Int32)) (sz + (1 : Int32)) (upd bs sz.toNatClampNeg (((word.toUInt32 >>> (((8 : Int32) * i).toUInt32 &&& Int32.toUInt32 31)).toInt32) &&& (255 : Int32))) r0 r1 ls H2 L2 hr0 hr1 (xs_down h5 h14 hmu) (lv_sub hl [0, 1, 2, 3] rfl) hP hD hS
set_option maxHeartbeats 4000000 in
set_option maxRecDepth 100000 in
theorem ct_BU_append (l : Launch) {G : xg_G} (hg : xg_F G) (H : Heap) (bu : Nat) (word : Int32) (n_ : Int32) (bys : Nat) (size : Int32) (bytes : Nat → Int32) (hP : va_P G.2.1 cl_all [(bu, .inr (0, [.ref bys, .int size])), (bys, .inl (G.2.2.1, 24, .inl bytes))] H) (hD0 : va_D (fun _ => True) [(bu, .inr (0, [.ref bys, .int size])), (bys, .inl (G.2.2.1, 24, .inl bytes))]) (hZ : 0 ≤ size.toInt) (hN : 1 ≤ n_.toInt) (hN4 : n_.toInt ≤ 4) : xc_Met l y_BU_append (.code y_BU_append b_BU_append 4 none) ({ frames := 0, cells := 0, slots := 0, locals := 0 } : Room) (xg_Pc G [.ref bu, .int word, .int n_] H) (xw_post G (va_A [(bu, .inr (0, [.ref bys, .int size])), (bys, .inl (G.2.2.1, 24, .inl bytes))] H.size) none [(bu, .inr (0, [.ref bys, .int (f_BU_append_size word n_ size bytes)])), (bys, .inl (G.2.2.1, 24, .inl (f_BU_append_BY word n_ size bytes)))]) (va_A [(bu, .inr (0, [.ref bys, .int size])), (bys, .inl (G.2.2.1, 24, .inl bytes))] H.size) := by
  refine xc_ofW (by decide) ?_
  intro p e s m args below meth c s₁ B hml hE hv
  obtain ⟨rfl, rfl, hw⟩ := hv
  have hx := B.exec
  have hb := B.bytes
  have ht := B.returns
  have hl0 := B.notSynchronized
  have S : xc_Fix p m c b_BU_append 4 s "SealTrust$Buffer" := ⟨hx, hb, hml, findClass_of_methodNamed B.named⟩
  have hD := hD0.self (sz := s.heap.size)
  generalize hAe : va_A [(bu, .inr (0, [.ref bys, .int size])), (bys, .inl (G.2.2.1, 24, .inl bytes))] s.heap.size = A at hD ⊢
  have hA : ∀ q : Nat, s.heap.size ≤ q → A q := fun q h => by rw [← hAe]; exact Or.inr h
  have hS : va_S A s.heap s.heap [] := va_S.rf
  have hl := lv_entry ([.ref bu, .int word, .int n_]) (n := 4) (Nat.le_of_ble_eq_true rfl)
  rw [lg_entry_eq]
  generalize (lg_sl ([.ref bu, .int word, .int n_]) ++ List.replicate (4 - (lg_sl ([.ref bu, .int word, .int n_])).length) Slot.unset).toArray = ls at hl ⊢
  have hl : lv_has ls 4 [(0, .ref bu), (1, .int word), (2, .int n_)] := hl
  obtain ⟨r0, hr0⟩ : ∃ r, f_BU_append_size word n_ size bytes = r := ⟨_, rfl⟩
  rw [hr0]
  unfold f_BU_append_size at hr0
  obtain ⟨r1, hr1⟩ : ∃ r, f_BU_append_BY word n_ size bytes = r := ⟨_, rfl⟩
  rw [hr1]
  unfold f_BU_append_BY at hr1
  refine lv_iload_n hx hb d_BU_append_0 rfl (lv_at hl 2 rfl) ?_
  refine lv_iconst (v := (1 : Int32)) hx hb d_BU_append_1 (by decide) ?_
  refine lv_isub hx hb d_BU_append_2 ?_
  refine lv_istore_n hx hb d_BU_append_3 rfl hl (by decide) rfl (fun ls hl => ?_)
  have hl : lv_has ls 4 [(3, .int (n_ - (1 : Int32))), (0, .ref bu), (1, .int word), (2, .int n_)] := hl
  exact wl_BU_append_4 hg hw S hl0 ht hA  6 (n_ - (1 : Int32)) size bytes r0 r1 ls s.heap [] hr0 hr1 (xs_start hN hN4 hZ) (lv_sub hl [0, 1, 2, 3] rfl) hP hD hS
