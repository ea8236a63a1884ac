/-! the class's own constructor: the pool of twelve motions -/
section XQL
def xq_m (G : xg_G) (mo pw cg an : Nat → Nat) (k : Nat) : va_W := [(mo k, .inr (2, [.ref (pw k), .ref (cg k), .ref (an k), .int (0 : Int32), .long (0 : Int64), .int (0 : Int32), .int (0 : Int32), .long (0 : Int64)])), (pw k, .inl (G.2.2.2.1, 6, .inr (.inl (fun _ => 0)))), (cg k, .inl (G.2.2.1, 6, .inl (fun _ => 0))), (an k, .inl (G.2.2.2.1, 6, .inr (.inl (fun _ => 0))))]
def xq_L (G : xg_G) (mo pw cg an : Nat → Nat) (t : Nat) : va_W := (List.range t).flatMap (xq_m G mo pw cg an)
def xq_u (f : Nat → Nat) (t v : Nat) : Nat → Nat := fun k => if k = t then v else f k
theorem xq_len (G : xg_G) (mo pw cg an : Nat → Nat) (t : Nat) : (xq_L G mo pw cg an t).length = 4 * t := by
  induction t with
  | zero => rfl
  | succ t ih =>
    unfold xq_L at ih ⊢
    rw [List.range_succ, List.flatMap_append, List.length_append, ih]
    show 4 * t + 4 = 4 * (t + 1)
    omega
theorem xq_succ (G : xg_G) (mo pw cg an : Nat → Nat) (t q1 q2 q3 q4 : Nat) : xq_L G (xq_u mo t q1) (xq_u pw t q2) (xq_u cg t q3) (xq_u an t q4) (t + 1) = xq_L G mo pw cg an t ++ [(q1, .inr (2, [.ref q2, .ref q3, .ref q4, .int (0 : Int32), .long (0 : Int64), .int (0 : Int32), .int (0 : Int32), .long (0 : Int64)])), (q2, .inl (G.2.2.2.1, 6, .inr (.inl (fun _ => 0)))), (q3, .inl (G.2.2.1, 6, .inl (fun _ => 0))), (q4, .inl (G.2.2.2.1, 6, .inr (.inl (fun _ => 0))))] := by
  unfold xq_L
  rw [List.range_succ, List.flatMap_append]
  have e1 : (List.range t).flatMap (xq_m G (xq_u mo t q1) (xq_u pw t q2) (xq_u cg t q3) (xq_u an t q4)) = (List.range t).flatMap (xq_m G mo pw cg an) := by
    rw [List.flatMap_def, List.flatMap_def]
    congr 1
    refine List.map_congr_left (fun k hk => ?_)
    have hk := List.mem_range.mp hk
    unfold xq_m xq_u
    simp only [show ¬ k = t by omega, if_false]
  rw [e1]
  congr 1
  show xq_m G (xq_u mo t q1) (xq_u pw t q2) (xq_u cg t q3) (xq_u an t q4) t ++ [] = _
  unfold xq_m xq_u
  simp only [if_true, List.append_nil]
def fk_ST_init (G : xg_G) (x : Nat) : va_W → Prop := fun ws => ∃ (k sh ch bu bys ma se : Nat) (mo pw cg an : Nat → Nat) (mot : Nat → Option Nat), (∀ j, j < 12 → mot j = some (mo j)) ∧ ws = ([(x, .inr (3, [.ref k, .ref bu, .ref ma, .ref se, .int (0 : Int32), .int (0 : Int32), .int (0 : Int32)])), (k, .inr (1, [.ref sh, .ref ch, .int (0 : Int32), .long (0 : Int64), .long (0 : Int64), .long (0 : Int64), .long (0 : Int64), .long (0 : Int64), .long (0 : Int64), .long (0 : Int64), .long (0 : Int64)])), (sh, .inl (G.2.2.2.1, 6, .inr (.inl (fun _ => 0)))), (ch, .inl (G.2.2.2.1, 6, .inr (.inl (fun _ => 0)))), (bu, .inr (0, [.ref bys, .int (0 : Int32)])), (bys, .inl (G.2.2.1, 24, .inl (fun _ => 0))), (ma, .inl (G.2.2.2.2, 12, .inr (.inr (.inr (.inr mot)))))] ++ xq_L G mo pw cg an 12) ++ [(se, .inl (G.2.2.1, 12, .inl (fun _ => 0)))]
set_option maxHeartbeats 4000000 in
set_option maxRecDepth 100000 in
theorem wl_ST_init {p : Program} {l : Launch} {e : Env} {s : State} {m : MethodId} {args : Array Value} {below : List Frame} {meth : Method} {c : Code} {G : xg_G} {A : Nat → Prop} {x k sh ch bu bys ma : Nat}
    (hg : xg_F G) (hw : G.1.WarmedH s.vm) (S : xc_Fix p m c b_ST_init 2 s "SealTrust") (hl0 : meth.locks = false) (ht : meth.sig.returnType = none) (hin : meth.name = "<init>") (hA : ∀ q, s.heap.size ≤ q → A q) :
    ∀ (n : Nat) (i : Int32) (t : Nat) (mo pw cg an : Nat → Nat) (mot : Nat → Option Nat) (ls : Array Slot) (H9 : Heap) (L9 : List Loc), i.toInt = t → t ≤ 12 → 12 - t < n → (∀ j, j < t → mot j = some (mo j)) → lv_has ls 2 [(1, .int i), (0, .ref x)] →
      va_P G.2.1 cl_all ([(x, .inr (3, [.ref k, .ref bu, .ref ma, .null, .int (0 : Int32), .int (0 : Int32), .int (0 : Int32)])), (k, .inr (1, [.ref sh, .ref ch, .int (0 : Int32), .long (0 : Int64), .long (0 : Int64), .long (0 : Int64), .long (0 : Int64), .long (0 : Int64), .long (0 : Int64), .long (0 : Int64), .long (0 : Int64)])), (sh, .inl (G.2.2.2.1, 6, .inr (.inl (fun _ => 0)))), (ch, .inl (G.2.2.2.1, 6, .inr (.inl (fun _ => 0)))), (bu, .inr (0, [.ref bys, .int (0 : Int32)])), (bys, .inl (G.2.2.1, 24, .inl (fun _ => 0))), (ma, .inl (G.2.2.2.2, 12, .inr (.inr (.inr (.inr mot)))))] ++ xq_L G mo pw cg an t) H9 → va_D A ([(x, .inr (3, [.ref k, .ref bu, .ref ma, .null, .int (0 : Int32), .int (0 : Int32), .int (0 : Int32)])), (k, .inr (1, [.ref sh, .ref ch, .int (0 : Int32), .long (0 : Int64), .long (0 : Int64), .long (0 : Int64), .long (0 : Int64), .long (0 : Int64), .long (0 : Int64), .long (0 : Int64), .long (0 : Int64)])), (sh, .inl (G.2.2.2.1, 6, .inr (.inl (fun _ => 0)))), (ch, .inl (G.2.2.2.1, 6, .inr (.inl (fun _ => 0)))), (bu, .inr (0, [.ref bys, .int (0 : Int32)])), (bys, .inl (G.2.2.1, 24, .inl (fun _ => 0))), (ma, .inl (G.2.2.2.2, 12, .inr (.inr (.inr (.inr mot)))))] ++ xq_L G mo pw cg an t) → va_S A s.heap H9 L9 →
      W p l e ({ frames := 2, cells := 55, slots := 385, locals := 30 } : Room) s m args below meth c H9 L9 (6 + 4 * t) (61 + 26 * t) (xc_Z below (xk_P G A (fk_ST_init G x)) A args s 55 385) (F0 m 37 ls []) := by
  have hx := S.1
  have hb := S.2.1
  intro n
  induction n with
  | zero =>
    intro i t mo pw cg an mot ls H9 L9 hi ht12 hmu
    omega
  | succ n ih =>
    intro i t mo pw cg an mot ls H9 L9 hi ht12 hmu hM hl hP hD hS
    refine lv_iload_n hx hb d_ST_init_37 rfl (lv_at hl 0 rfl) ?_
    refine lv_bipush (v := (12 : Int32)) hx hb d_ST_init_38 (by decide) ?_
    refine lv_icmp_ge hx hb d_ST_init_40 (tgt := 62) (by decide) (fun h40 => ?_) (fun h40 => ?_)
    · rw [Int32.le_iff_toInt_le, show (12 : Int32).toInt = 12 from rfl] at h40
      have ht9 : t = 12 := by omega
      subst ht9
      refine lv_aload_n hx hb d_ST_init_62 rfl (lv_at hl 1 rfl) ?_
      refine lv_bipush (v := (12 : Int32)) hx hb d_ST_init_63 (by decide) ?_
      refine xk_newI hg hw hx hb hP hD hS hA (by decide) (N := 12) rfl (by decide) (by decide) (by decide) d_ST_init_65 (fun se H1 hP hD hS => ?_)
      refine pf_ST_30 hg hw S hP hD hS 0 rfl hin rfl rfl (Nat.le_of_ble_eq_true rfl) d_ST_init_67 (fun H2 L2 hP hD hS => ?_)
      refine W.widen (k := 55) (n := 385) (by decide) (by decide) ?_
      exact xk_vret hx hb ht hl0 hP hD hS ⟨k, sh, ch, bu, bys, ma, se, mo, pw, cg, an, mot, hM, rfl⟩ d_ST_init_70
    · rw [Int32.le_iff_toInt_le, show (12 : Int32).toInt = 12 from rfl] at h40
      have hlt : t < 12 := by omega
      have hin9 : vp_in i 12 := vp_in_iff.mpr ⟨by omega, by omega⟩
      have hcl : i.toNatClampNeg = t := by
        show i.toInt.toNat = t
        omega
      have hup : (i + 1).toInt = i.toInt + 1 := xi_inc (by omega)
      refine lv_aload_n hx hb d_ST_init_43 rfl (lv_at hl 1 rfl) ?_
      refine gf_ST_25 hg hw S hP 0 rfl rfl d_ST_init_44 ?_
      refine lv_iload_n hx hb d_ST_init_47 rfl (lv_at hl 0 rfl) ?_
      refine va_new (ci := 2) (fs := [.null, .null, .null, .int (0 : Int32), .long (0 : Int64), .int (0 : Int32), .int (0 : Int32), .long (0 : Int64)]) (C := "SealTrust$Motion") (T := T_MO) (N := 8) hx hb (xg_t hg hw _) in_MO t_MO o_MO S.2.2.2 (xg_w hg hw (w := .classLink "SealTrust" 23 "SealTrust$Motion") (by decide +kernel) rfl _) (xg_w hg hw (w := .instantiable "SealTrust$Motion" 8) (by decide +kernel) rfl _) (xg_w hg hw (w := .initialized "SealTrust$Motion") (by decide +kernel) rfl _) (xg_k hg hw) hP hD hS hA rfl (fun j hj => by rcases (show j = 0 ∨ j = 1 ∨ j = 2 ∨ j = 3 ∨ j = 4 ∨ j = 5 ∨ j = 6 ∨ j = 7 by omega) with rfl | rfl | rfl | rfl | rfl | rfl | rfl | rfl <;> rfl) (by show 6 + 4 * t + 1 ≤ 55; omega) (by show 61 + 26 * t + 8 ≤ 385; omega) d_ST_init_48 (fun mq H1 hP hD hS => ?_)
      refine lv_dup hx hb d_ST_init_51 rfl ?_
      have hlen : (([(x, .inr (3, [.ref k, .ref bu, .ref ma, .null, .int (0 : Int32), .int (0 : Int32), .int (0 : Int32)])), (k, .inr (1, [.ref sh, .ref ch, .int (0 : Int32), .long (0 : Int64), .long (0 : Int64), .long (0 : Int64), .long (0 : Int64), .long (0 : Int64), .long (0 : Int64), .long (0 : Int64), .long (0 : Int64)])), (sh, .inl (G.2.2.2.1, 6, .inr (.inl (fun _ => 0)))), (ch, .inl (G.2.2.2.1, 6, .inr (.inl (fun _ => 0)))), (bu, .inr (0, [.ref bys, .int (0 : Int32)])), (bys, .inl (G.2.2.1, 24, .inl (fun _ => 0))), (ma, .inl (G.2.2.2.2, 12, .inr (.inr (.inr (.inr mot)))))] : va_W) ++ xq_L G mo pw cg an t).length = 7 + 4 * t := by
        rw [List.length_append, xq_len]
        rfl
      have hmq : ((([(x, .inr (3, [.ref k, .ref bu, .ref ma, .null, .int (0 : Int32), .int (0 : Int32), .int (0 : Int32)])), (k, .inr (1, [.ref sh, .ref ch, .int (0 : Int32), .long (0 : Int64), .long (0 : Int64), .long (0 : Int64), .long (0 : Int64), .long (0 : Int64), .long (0 : Int64), .long (0 : Int64), .long (0 : Int64)])), (sh, .inl (G.2.2.2.1, 6, .inr (.inl (fun _ => 0)))), (ch, .inl (G.2.2.2.1, 6, .inr (.inl (fun _ => 0)))), (bu, .inr (0, [.ref bys, .int (0 : Int32)])), (bys, .inl (G.2.2.1, 24, .inl (fun _ => 0))), (ma, .inl (G.2.2.2.2, 12, .inr (.inr (.inr (.inr mot)))))] : va_W) ++ xq_L G mo pw cg an t) ++ [(mq, .inr (2, [.null, .null, .null, .int (0 : Int32), .long (0 : Int64), .int (0 : Int32), .int (0 : Int32), .long (0 : Int64)]))])[7 + 4 * t]? = some (mq, .inr (2, [.null, .null, .null, .int (0 : Int32), .long (0 : Int64), .int (0 : Int32), .int (0 : Int32), .long (0 : Int64)])) := by
        rw [List.getElem?_append_right (by omega), hlen, Nat.sub_self]
        rfl
      refine xk_use (x := (mq, .inr (2, [.null, .null, .null, .int (0 : Int32), .long (0 : Int64), .int (0 : Int32), .int (0 : Int32), .long (0 : Int64)]))) (xg_runIN (rest := [.ref mq, .int i, .ref ma]) (kw := 3) si_ST_29 hg hw S (ct_MO_init l hg H1 mq (hP.sub [7 + 4 * t] (by rw [List.filterMap_cons, hmq]; rfl))) ⟨by decide, by decide, by show 6 + 4 * t + 1 + 3 ≤ 55; omega, by show 61 + 26 * t + 8 + 18 ≤ 385; omega⟩ rfl hl.1 rfl (Nat.le_of_ble_eq_true rfl) d_ST_init_52) hP hD hS hA (fun wn H2 L2 hf hP hD hS => ?_)
      obtain ⟨q1, q3, q5, rfl⟩ := hf
      refine va_astq hx hb (xg_k hg hw) hP hD hS 6 2 (7 + 4 * t) 2 (r := ("SealTrust$Motion", T_MO, 8)) rfl rfl (by rw [List.getElem?_append_right (by omega), hlen, Nat.sub_self]; rfl) rfl hin9 d_ST_init_55 (fun H3 L3 hP hD hS => ?_)
      rw [hcl] at hP hD
      have hP : va_P G.2.1 cl_all ([(x, .inr (3, [.ref k, .ref bu, .ref ma, .null, .int (0 : Int32), .int (0 : Int32), .int (0 : Int32)])), (k, .inr (1, [.ref sh, .ref ch, .int (0 : Int32), .long (0 : Int64), .long (0 : Int64), .long (0 : Int64), .long (0 : Int64), .long (0 : Int64), .long (0 : Int64), .long (0 : Int64), .long (0 : Int64)])), (sh, .inl (G.2.2.2.1, 6, .inr (.inl (fun _ => 0)))), (ch, .inl (G.2.2.2.1, 6, .inr (.inl (fun _ => 0)))), (bu, .inr (0, [.ref bys, .int (0 : Int32)])), (bys, .inl (G.2.2.1, 24, .inl (fun _ => 0))), (ma, .inl (G.2.2.2.2, 12, .inr (.inr (.inr (.inr (va_up mot t (some mq)))))))] ++ (xq_L G mo pw cg an t ++ [(mq, .inr (2, [.ref q1, .ref q3, .ref q5, .int (0 : Int32), .long (0 : Int64), .int (0 : Int32), .int (0 : Int32), .long (0 : Int64)])), (q1, .inl (G.2.2.2.1, 6, .inr (.inl (fun _ => 0)))), (q3, .inl (G.2.2.1, 6, .inl (fun _ => 0))), (q5, .inl (G.2.2.2.1, 6, .inr (.inl (fun _ => 0))))])) H3 := by
        rw [List.append_assoc] at hP
        exact hP
      have hD : va_D A ([(x, .inr (3, [.ref k, .ref bu, .ref ma, .null, .int (0 : Int32), .int (0 : Int32), .int (0 : Int32)])), (k, .inr (1, [.ref sh, .ref ch, .int (0 : Int32), .long (0 : Int64), .long (0 : Int64), .long (0 : Int64), .long (0 : Int64), .long (0 : Int64), .long (0 : Int64), .long (0 : Int64), .long (0 : Int64)])), (sh, .inl (G.2.2.2.1, 6, .inr (.inl (fun _ => 0)))), (ch, .inl (G.2.2.2.1, 6, .inr (.inl (fun _ => 0)))), (bu, .inr (0, [.ref bys, .int (0 : Int32)])), (bys, .inl (G.2.2.1, 24, .inl (fun _ => 0))), (ma, .inl (G.2.2.2.2, 12, .inr (.inr (.inr (.inr (va_up mot t (some mq)))))))] ++ (xq_L G mo pw cg an t ++ [(mq, .inr (2, [.ref q1, .ref q3, .ref q5, .int (0 : Int32), .long (0 : Int64), .int (0 : Int32), .int (0 : Int32), .long (0 : Int64)])), (q1, .inl (G.2.2.2.1, 6, .inr (.inl (fun _ => 0)))), (q3, .inl (G.2.2.1, 6, .inl (fun _ => 0))), (q5, .inl (G.2.2.2.1, 6, .inr (.inl (fun _ => 0))))])) := by
        rw [List.append_assoc] at hD
        exact hD
      rw [← xq_succ] at hP hD
      refine lv_iinc (v := i + (1 : Int32)) hx hb d_ST_init_56 hl (k := 0) rfl rfl (by decide) rfl (fun ls hl => ?_)
      have hl : lv_has ls 2 [(1, .int (i + (1 : Int32))), (0, .ref x)] := hl
      refine lv_goto hx hb d_ST_init_59 (tgt := 37) (by decide) ?_
      refine W.widen (k := 6 + 4 * (t + 1)) (n := 61 + 26 * (t + 1)) (by show 6 + 4 * t + 1 + 3 ≤ _; omega) (by show 61 + 26 * t + 8 + 18 ≤ _; omega) ?_
      refine ih (i + 1) (t + 1) (xq_u mo t mq) (xq_u pw t q1) (xq_u cg t q3) (xq_u an t q5) (va_up mot t (some mq)) ls H3 L3 (by omega) (by omega) (by omega) (fun j hj => ?_) hl hP hD hS
      by_cases h9 : j = t
      · subst h9
        simp [va_up, xq_u]
      · simp [va_up, xq_u, h9, hM j (by omega)]
set_option maxHeartbeats 4000000 in
set_option maxRecDepth 100000 in
theorem ct_ST_init (l : Launch) {G : xg_G} (hg : xg_F G) (H : Heap) (x : Nat) (hP : va_P G.2.1 cl_all [(x, .inr (3, [.null, .null, .null, .null, .int (0 : Int32), .int (0 : Int32), .int (0 : Int32)]))] H) : xc_Met l y_ST_init (.code y_ST_init b_ST_init 2 none) ({ frames := 2, cells := 55, slots := 385, locals := 30 } : Room) (xg_Pc G [.ref x] H) (xk_P G (va_A [(x, .inr (3, [.null, .null, .null, .null, .int (0 : Int32), .int (0 : Int32), .int (0 : Int32)]))] H.size) (fk_ST_init G x)) (va_A [(x, .inr (3, [.null, .null, .null, .null, .int (0 : Int32), .int (0 : Int32), .int (0 : Int32)]))] H.size) := by
  refine xc_ofW (by decide) ?_
  intro p e s m args below meth c s₁ B hml hE hv
  obtain ⟨rfl, rfl, hw⟩ := hv
  have hx := B.exec
  have hb := B.bytes
  have ht := B.returns
  have hl0 := B.notSynchronized
  have hin : meth.name = "<init>" := (name_of_methodNamed B.named B.method).1
  have S : xc_Fix p m c b_ST_init 2 s "SealTrust" := ⟨hx, hb, hml, findClass_of_methodNamed B.named⟩
  have hD := (xk_one (x, .inr (3, [.null, .null, .null, .null, .int (0 : Int32), .int (0 : Int32), .int (0 : Int32)]))).self (sz := s.heap.size)
  generalize hAe : va_A [(x, .inr (3, [.null, .null, .null, .null, .int (0 : Int32), .int (0 : Int32), .int (0 : Int32)]))] s.heap.size = A at hD ⊢
  have hA : ∀ q : Nat, s.heap.size ≤ q → A q := fun q h => by rw [← hAe]; exact Or.inr h
  have hS : va_S A s.heap s.heap [] := va_S.rf
  have hl := lv_entry ([.ref x]) (n := 2) (Nat.le_of_ble_eq_true rfl)
  rw [lg_entry_eq]
  generalize (lg_sl ([.ref x]) ++ List.replicate (2 - (lg_sl ([.ref x])).length) Slot.unset).toArray = ls at hl ⊢
  have hl : lv_has ls 2 [(0, .ref x)] := hl
  refine lv_aload_n hx hb d_ST_init_0 rfl (lv_at hl 0 rfl) ?_
  refine xk_obj (own := "SealTrust") (idx := 1) (by decide +kernel) hg hw S hl.1 d_ST_init_1 (by decide) (by decide) ?_
  refine lv_aload_n hx hb d_ST_init_4 rfl (lv_at hl 0 rfl) ?_
  refine va_new (ci := 1) (fs := [.null, .null, .int (0 : Int32), .long (0 : Int64), .long (0 : Int64), .long (0 : Int64), .long (0 : Int64), .long (0 : Int64), .long (0 : Int64), .long (0 : Int64), .long (0 : Int64)]) (C := "SealTrust$Key") (T := T_KE) (N := 11) hx hb (xg_t hg hw _) in_KE t_KE o_KE S.2.2.2 (xg_w hg hw (w := .classLink "SealTrust" 7 "SealTrust$Key") (by decide +kernel) rfl _) (xg_w hg hw (w := .instantiable "SealTrust$Key" 11) (by decide +kernel) rfl _) (xg_w hg hw (w := .initialized "SealTrust$Key") (by decide +kernel) rfl _) (xg_k hg hw) hP hD hS hA rfl (fun j hj => by rcases (show j = 0 ∨ j = 1 ∨ j = 2 ∨ j = 3 ∨ j = 4 ∨ j = 5 ∨ j = 6 ∨ j = 7 ∨ j = 8 ∨ j = 9 ∨ j = 10 by omega) with rfl | rfl | rfl | rfl | rfl | rfl | rfl | rfl | rfl | rfl | rfl <;> rfl) (by decide) (by decide) d_ST_init_5 (fun k H1 hP hD hS => ?_)
  refine lv_dup hx hb d_ST_init_8 rfl ?_
  refine xk_use (ws := [(x, .inr (3, [.null, .null, .null, .null, .int (0 : Int32), .int (0 : Int32), .int (0 : Int32)]))]) (x := (k, .inr (1, [.null, .null, .int (0 : Int32), .long (0 : Int64), .long (0 : Int64), .long (0 : Int64), .long (0 : Int64), .long (0 : Int64), .long (0 : Int64), .long (0 : Int64), .long (0 : Int64)]))) (xg_runIN (rest := [.ref k, .ref x]) (kw := 2) si_ST_9 hg hw S (ct_KE_init l hg H1 k (hP.sub [1] rfl)) ⟨by decide, by decide, by decide, by decide⟩ rfl hl.1 rfl (Nat.le_of_ble_eq_true rfl) d_ST_init_9) hP hD hS hA (fun wn H2 L2 hf hP hD hS => ?_)
  obtain ⟨sh, ch, rfl⟩ := hf
  refine pf_ST_10 hg hw S hP hD hS 0 rfl hin rfl rfl (Nat.le_of_ble_eq_true rfl) d_ST_init_12 (fun H3 L3 hP hD hS => ?_)
  have hP : va_P G.2.1 cl_all [(x, .inr (3, [.ref k, .null, .null, .null, .int (0 : Int32), .int (0 : Int32), .int (0 : Int32)])), (k, .inr (1, [.ref sh, .ref ch, .int (0 : Int32), .long (0 : Int64), .long (0 : Int64), .long (0 : Int64), .long (0 : Int64), .long (0 : Int64), .long (0 : Int64), .long (0 : Int64), .long (0 : Int64)])), (sh, .inl (G.2.2.2.1, 6, .inr (.inl (fun _ => 0)))), (ch, .inl (G.2.2.2.1, 6, .inr (.inl (fun _ => 0))))] H3 := hP
  have hD : va_D A [(x, .inr (3, [.ref k, .null, .null, .null, .int (0 : Int32), .int (0 : Int32), .int (0 : Int32)])), (k, .inr (1, [.ref sh, .ref ch, .int (0 : Int32), .long (0 : Int64), .long (0 : Int64), .long (0 : Int64), .long (0 : Int64), .long (0 : Int64), .long (0 : Int64), .long (0 : Int64), .long (0 : Int64)])), (sh, .inl (G.2.2.2.1, 6, .inr (.inl (fun _ => 0)))), (ch, .inl (G.2.2.2.1, 6, .inr (.inl (fun _ => 0))))] := hD
  refine lv_aload_n hx hb d_ST_init_15 rfl (lv_at hl 0 rfl) ?_
  refine va_new (ci := 0) (fs := [.null, .int (0 : Int32)]) (C := "SealTrust$Buffer") (T := T_BU) (N := 2) hx hb (xg_t hg hw _) in_BU t_BU o_BU S.2.2.2 (xg_w hg hw (w := .classLink "SealTrust" 16 "SealTrust$Buffer") (by decide +kernel) rfl _) (xg_w hg hw (w := .instantiable "SealTrust$Buffer" 2) (by decide +kernel) rfl _) (xg_w hg hw (w := .initialized "SealTrust$Buffer") (by decide +kernel) rfl _) (xg_k hg hw) hP hD hS hA rfl (fun j hj => by rcases (show j = 0 ∨ j = 1 by omega) with rfl | rfl <;> rfl) (by decide) (by decide) d_ST_init_16 (fun bu H4 hP hD hS => ?_)
  refine lv_dup hx hb d_ST_init_19 rfl ?_
  refine xk_use (ws := [(x, .inr (3, [.ref k, .null, .null, .null, .int (0 : Int32), .int (0 : Int32), .int (0 : Int32)])), (k, .inr (1, [.ref sh, .ref ch, .int (0 : Int32), .long (0 : Int64), .long (0 : Int64), .long (0 : Int64), .long (0 : Int64), .long (0 : Int64), .long (0 : Int64), .long (0 : Int64), .long (0 : Int64)])), (sh, .inl (G.2.2.2.1, 6, .inr (.inl (fun _ => 0)))), (ch, .inl (G.2.2.2.1, 6, .inr (.inl (fun _ => 0))))]) (x := (bu, .inr (0, [.null, .int (0 : Int32)]))) (xg_runIN (rest := [.ref bu, .ref x]) (kw := 2) si_ST_18 hg hw S (ct_BU_init l hg H4 bu (hP.sub [4] rfl)) ⟨by decide, by decide, by decide, by decide⟩ rfl hl.1 rfl (Nat.le_of_ble_eq_true rfl) d_ST_init_20) hP hD hS hA (fun wn H5 L5 hf hP hD hS => ?_)
  obtain ⟨bys, rfl⟩ := hf
  refine pf_ST_19 hg hw S hP hD hS 0 rfl hin rfl rfl (Nat.le_of_ble_eq_true rfl) d_ST_init_23 (fun H6 L6 hP hD hS => ?_)
  have hP : va_P G.2.1 cl_all [(x, .inr (3, [.ref k, .ref bu, .null, .null, .int (0 : Int32), .int (0 : Int32), .int (0 : Int32)])), (k, .inr (1, [.ref sh, .ref ch, .int (0 : Int32), .long (0 : Int64), .long (0 : Int64), .long (0 : Int64), .long (0 : Int64), .long (0 : Int64), .long (0 : Int64), .long (0 : Int64), .long (0 : Int64)])), (sh, .inl (G.2.2.2.1, 6, .inr (.inl (fun _ => 0)))), (ch, .inl (G.2.2.2.1, 6, .inr (.inl (fun _ => 0)))), (bu, .inr (0, [.ref bys, .int (0 : Int32)])), (bys, .inl (G.2.2.1, 24, .inl (fun _ => 0)))] H6 := hP
  have hD : va_D A [(x, .inr (3, [.ref k, .ref bu, .null, .null, .int (0 : Int32), .int (0 : Int32), .int (0 : Int32)])), (k, .inr (1, [.ref sh, .ref ch, .int (0 : Int32), .long (0 : Int64), .long (0 : Int64), .long (0 : Int64), .long (0 : Int64), .long (0 : Int64), .long (0 : Int64), .long (0 : Int64), .long (0 : Int64)])), (sh, .inl (G.2.2.2.1, 6, .inr (.inl (fun _ => 0)))), (ch, .inl (G.2.2.2.1, 6, .inr (.inl (fun _ => 0)))), (bu, .inr (0, [.ref bys, .int (0 : Int32)])), (bys, .inl (G.2.2.1, 24, .inl (fun _ => 0)))] := hD
  refine lv_aload_n hx hb d_ST_init_26 rfl (lv_at hl 0 rfl) ?_
  refine lv_bipush (v := (12 : Int32)) hx hb d_ST_init_27 (by decide) ?_
  refine xk_newM hg hw S hP hD hS hA (by decide) (N := 12) rfl (by decide) (by decide) (by decide) d_ST_init_29 (fun ma H7 hP hD hS => ?_)
  refine pf_ST_25 hg hw S hP hD hS 0 rfl hin rfl rfl (Nat.le_of_ble_eq_true rfl) d_ST_init_32 (fun H8 L8 hP hD hS => ?_)
  refine lv_iconst (v := (0 : Int32)) hx hb d_ST_init_35 (by decide) ?_
  refine lv_istore_n hx hb d_ST_init_36 rfl hl (by decide) rfl (fun ls hl => ?_)
  have hl : lv_has ls 2 [(1, .int (0 : Int32)), (0, .ref x)] := hl
  refine W.widen (k := 6 + 4 * 0) (n := 61 + 26 * 0) (by decide) (by decide) ?_
  exact wl_ST_init (k := k) (sh := sh) (ch := ch) (bu := bu) (bys := bys) (ma := ma) hg hw S hl0 ht hin hA 13 0 0 id id id id (fun _ => none) ls H8 L8 rfl (by omega) (by omega) (fun j hj => by omega) hl hP hD hS
end XQL
