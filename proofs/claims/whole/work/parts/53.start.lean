/-! the law's start -/
section LOS
theorem lo_nd {A : Nat → Prop} {ws : va_W} (h : va_D A ws) : (ws.map (fun q => q.1)).Nodup := by
  refine List.pairwise_iff_getElem.mpr (fun i j hi hj hij he => ?_)
  rw [List.length_map] at hi hj
  rw [List.getElem_map, List.getElem_map] at he
  have := h.1 i j _ _ (List.getElem?_eq_getElem hi) (List.getElem?_eq_getElem hj) he
  omega
theorem lo_ge {A : Nat → Prop} {ws : va_W} (h : va_D A ws) : ∀ q, q ∈ ws.map (fun q => q.1) → A q := fun q hq => by
  obtain ⟨w, hw, rfl⟩ := List.mem_map.mp hq
  obtain ⟨i, hi⟩ := List.getElem?_of_mem hw
  exact h.2 i w hi
set_option maxHeartbeats 4000000 in
set_option maxRecDepth 100000 in
theorem lo_ix {G : xg_G} {x k sh ch bu bys ma se : Nat} {mo pw cg an : Nat → Nat} {mot : Nat → Option Nat} {y_ a_buf a_st a_bl a_fi a_ob a_si a_po a_pr a_an a_bo ou : Nat} (j : Nat) (hj : j < 12) : ∃ is : List Nat, va_nd is = true ∧ is.map (fun i => (((([(x, .inr (3, [.ref k, .ref bu, .ref ma, .ref se, .int (0 : Int32), .int (0 : Int32), .int (0 : Int32)])), (k, .inr (1, [.ref sh, .ref ch, .int (0 : Int32), .long (0 : Int64), .long (0 : Int64), .long (0 : Int64), .long (0 : Int64), .long (0 : Int64), .long (0 : Int64), .long (0 : Int64), .long (0 : Int64)])), (sh, .inl (G.2.2.2.1, 6, .inr (.inl (fun _ => 0)))), (ch, .inl (G.2.2.2.1, 6, .inr (.inl (fun _ => 0)))), (bu, .inr (0, [.ref bys, .int (0 : Int32)])), (bys, .inl (G.2.2.1, 24, .inl (fun _ => 0))), (ma, .inl (G.2.2.2.2, 12, .inr (.inr (.inr (.inr mot)))))] ++ xq_L G mo pw cg an 12) ++ [(se, .inl (G.2.2.1, 12, .inl (fun _ => 0)))] : va_W) ++ [(y_, .inr (4, [.int (0 : Int32), .long (0 : Int64), .long (0 : Int64), .long (0 : Int64), .long (0 : Int64), .long (0 : Int64), .long (0 : Int64), .int (0 : Int32), .int (0 : Int32), .ref a_buf, .int (0 : Int32), .int (0 : Int32), .ref a_st, .ref a_bl, .ref a_fi, .ref a_ob, .ref a_si, .ref a_po, .ref a_pr, .ref a_an, .int (0 : Int32), .ref a_bo, .long (0 : Int64)])), (a_buf, .inl (G.2.2.1, 24, .inl (fun _ => 0))), (a_st, .inl (G.2.2.1, 12, .inl (fun _ => 0))), (a_bl, .inl (G.2.2.2.1, 12, .inr (.inl (fun _ => 0)))), (a_fi, .inl (G.2.2.1, 12, .inl (fun _ => 0))), (a_ob, .inl (G.2.2.1, 12, .inl (fun _ => 0))), (a_si, .inl (G.2.2.2.1, 12, .inr (.inl (fun _ => 0)))), (a_po, .inl (G.2.2.2.1, 72, .inr (.inl (fun _ => 0)))), (a_pr, .inl (G.2.2.1, 72, .inl (fun _ => 0))), (a_an, .inl (G.2.2.2.1, 72, .inr (.inl (fun _ => 0)))), (a_bo, .inl (G.2.2.1, 12, .inl (fun _ => 0)))]) ++ [(ou, .inl (G.2.2.2.1, 1, .inr (.inl (fun _ => 0))))] : va_W)[i]?) = (xl_fx G x k sh ch bu bys ma se mot y_ a_buf a_st a_bl a_fi a_ob a_si a_po a_pr a_an a_bo ou (fun _ => (0 : Int64)) (0 : Int32) (0 : Int64) (0 : Int64) (0 : Int64) (0 : Int64) (fun _ => (0 : Int64)) (fun _ => (0 : Int64)) (0 : Int32) (0 : Int64) (0 : Int64) (0 : Int64) (0 : Int64) (0 : Int64) (0 : Int64) (0 : Int32) (0 : Int32) (fun _ => (0 : Int32)) (0 : Int32) (0 : Int32) (fun _ => (0 : Int32)) (fun _ => (0 : Int64)) (fun _ => (0 : Int32)) (fun _ => (0 : Int32)) (fun _ => (0 : Int64)) (fun _ => (0 : Int64)) (fun _ => (0 : Int32)) (fun _ => (0 : Int64)) (0 : Int32) (fun _ => (0 : Int32)) (0 : Int64) ++ xl_m G mo pw cg an (fun _ _ => (0 : Int64)) (fun _ _ => (0 : Int32)) (fun _ _ => (0 : Int64)) (fun _ => (0 : Int32)) (fun _ => (0 : Int64)) (fun _ => (0 : Int32)) (fun _ => (0 : Int32)) (fun _ => (0 : Int64)) j).map some ∧ is.filterMap (fun i => (((([(x, .inr (3, [.ref k, .ref bu, .ref ma, .ref se, .int (0 : Int32), .int (0 : Int32), .int (0 : Int32)])), (k, .inr (1, [.ref sh, .ref ch, .int (0 : Int32), .long (0 : Int64), .long (0 : Int64), .long (0 : Int64), .long (0 : Int64), .long (0 : Int64), .long (0 : Int64), .long (0 : Int64), .long (0 : Int64)])), (sh, .inl (G.2.2.2.1, 6, .inr (.inl (fun _ => 0)))), (ch, .inl (G.2.2.2.1, 6, .inr (.inl (fun _ => 0)))), (bu, .inr (0, [.ref bys, .int (0 : Int32)])), (bys, .inl (G.2.2.1, 24, .inl (fun _ => 0))), (ma, .inl (G.2.2.2.2, 12, .inr (.inr (.inr (.inr mot)))))] ++ xq_L G mo pw cg an 12) ++ [(se, .inl (G.2.2.1, 12, .inl (fun _ => 0)))] : va_W) ++ [(y_, .inr (4, [.int (0 : Int32), .long (0 : Int64), .long (0 : Int64), .long (0 : Int64), .long (0 : Int64), .long (0 : Int64), .long (0 : Int64), .int (0 : Int32), .int (0 : Int32), .ref a_buf, .int (0 : Int32), .int (0 : Int32), .ref a_st, .ref a_bl, .ref a_fi, .ref a_ob, .ref a_si, .ref a_po, .ref a_pr, .ref a_an, .int (0 : Int32), .ref a_bo, .long (0 : Int64)])), (a_buf, .inl (G.2.2.1, 24, .inl (fun _ => 0))), (a_st, .inl (G.2.2.1, 12, .inl (fun _ => 0))), (a_bl, .inl (G.2.2.2.1, 12, .inr (.inl (fun _ => 0)))), (a_fi, .inl (G.2.2.1, 12, .inl (fun _ => 0))), (a_ob, .inl (G.2.2.1, 12, .inl (fun _ => 0))), (a_si, .inl (G.2.2.2.1, 12, .inr (.inl (fun _ => 0)))), (a_po, .inl (G.2.2.2.1, 72, .inr (.inl (fun _ => 0)))), (a_pr, .inl (G.2.2.1, 72, .inl (fun _ => 0))), (a_an, .inl (G.2.2.2.1, 72, .inr (.inl (fun _ => 0)))), (a_bo, .inl (G.2.2.1, 12, .inl (fun _ => 0)))]) ++ [(ou, .inl (G.2.2.2.1, 1, .inr (.inl (fun _ => 0))))] : va_W)[i]?) = xl_fx G x k sh ch bu bys ma se mot y_ a_buf a_st a_bl a_fi a_ob a_si a_po a_pr a_an a_bo ou (fun _ => (0 : Int64)) (0 : Int32) (0 : Int64) (0 : Int64) (0 : Int64) (0 : Int64) (fun _ => (0 : Int64)) (fun _ => (0 : Int64)) (0 : Int32) (0 : Int64) (0 : Int64) (0 : Int64) (0 : Int64) (0 : Int64) (0 : Int64) (0 : Int32) (0 : Int32) (fun _ => (0 : Int32)) (0 : Int32) (0 : Int32) (fun _ => (0 : Int32)) (fun _ => (0 : Int64)) (fun _ => (0 : Int32)) (fun _ => (0 : Int32)) (fun _ => (0 : Int64)) (fun _ => (0 : Int64)) (fun _ => (0 : Int32)) (fun _ => (0 : Int64)) (0 : Int32) (fun _ => (0 : Int32)) (0 : Int64) ++ xl_m G mo pw cg an (fun _ _ => (0 : Int64)) (fun _ _ => (0 : Int32)) (fun _ _ => (0 : Int64)) (fun _ => (0 : Int32)) (fun _ => (0 : Int64)) (fun _ => (0 : Int32)) (fun _ => (0 : Int32)) (fun _ => (0 : Int64)) j := by
  rcases (show j = 0 ∨ j = 1 ∨ j = 2 ∨ j = 3 ∨ j = 4 ∨ j = 5 ∨ j = 6 ∨ j = 7 ∨ j = 8 ∨ j = 9 ∨ j = 10 ∨ j = 11 by omega) with rfl | rfl | rfl | rfl | rfl | rfl | rfl | rfl | rfl | rfl | rfl | rfl
  · exact ⟨[0, 1, 2, 3, 4, 5, 6, 55, 56, 57, 58, 59, 60, 61, 62, 63, 64, 65, 66, 67, 7, 8, 9, 10], by decide, rfl, rfl⟩
  · exact ⟨[0, 1, 2, 3, 4, 5, 6, 55, 56, 57, 58, 59, 60, 61, 62, 63, 64, 65, 66, 67, 11, 12, 13, 14], by decide, rfl, rfl⟩
  · exact ⟨[0, 1, 2, 3, 4, 5, 6, 55, 56, 57, 58, 59, 60, 61, 62, 63, 64, 65, 66, 67, 15, 16, 17, 18], by decide, rfl, rfl⟩
  · exact ⟨[0, 1, 2, 3, 4, 5, 6, 55, 56, 57, 58, 59, 60, 61, 62, 63, 64, 65, 66, 67, 19, 20, 21, 22], by decide, rfl, rfl⟩
  · exact ⟨[0, 1, 2, 3, 4, 5, 6, 55, 56, 57, 58, 59, 60, 61, 62, 63, 64, 65, 66, 67, 23, 24, 25, 26], by decide, rfl, rfl⟩
  · exact ⟨[0, 1, 2, 3, 4, 5, 6, 55, 56, 57, 58, 59, 60, 61, 62, 63, 64, 65, 66, 67, 27, 28, 29, 30], by decide, rfl, rfl⟩
  · exact ⟨[0, 1, 2, 3, 4, 5, 6, 55, 56, 57, 58, 59, 60, 61, 62, 63, 64, 65, 66, 67, 31, 32, 33, 34], by decide, rfl, rfl⟩
  · exact ⟨[0, 1, 2, 3, 4, 5, 6, 55, 56, 57, 58, 59, 60, 61, 62, 63, 64, 65, 66, 67, 35, 36, 37, 38], by decide, rfl, rfl⟩
  · exact ⟨[0, 1, 2, 3, 4, 5, 6, 55, 56, 57, 58, 59, 60, 61, 62, 63, 64, 65, 66, 67, 39, 40, 41, 42], by decide, rfl, rfl⟩
  · exact ⟨[0, 1, 2, 3, 4, 5, 6, 55, 56, 57, 58, 59, 60, 61, 62, 63, 64, 65, 66, 67, 43, 44, 45, 46], by decide, rfl, rfl⟩
  · exact ⟨[0, 1, 2, 3, 4, 5, 6, 55, 56, 57, 58, 59, 60, 61, 62, 63, 64, 65, 66, 67, 47, 48, 49, 50], by decide, rfl, rfl⟩
  · exact ⟨[0, 1, 2, 3, 4, 5, 6, 55, 56, 57, 58, 59, 60, 61, 62, 63, 64, 65, 66, 67, 51, 52, 53, 54], by decide, rfl, rfl⟩
set_option maxHeartbeats 4000000 in
set_option maxRecDepth 100000 in
theorem lo_mid {G : xg_G} {x k sh ch bu bys ma se : Nat} {mo pw cg an : Nat → Nat} {mot : Nat → Option Nat} {y_ a_buf a_st a_bl a_fi a_ob a_si a_po a_pr a_an a_bo ou : Nat} : (List.range' 7 48).map (fun i => (((([(x, .inr (3, [.ref k, .ref bu, .ref ma, .ref se, .int (0 : Int32), .int (0 : Int32), .int (0 : Int32)])), (k, .inr (1, [.ref sh, .ref ch, .int (0 : Int32), .long (0 : Int64), .long (0 : Int64), .long (0 : Int64), .long (0 : Int64), .long (0 : Int64), .long (0 : Int64), .long (0 : Int64), .long (0 : Int64)])), (sh, .inl (G.2.2.2.1, 6, .inr (.inl (fun _ => 0)))), (ch, .inl (G.2.2.2.1, 6, .inr (.inl (fun _ => 0)))), (bu, .inr (0, [.ref bys, .int (0 : Int32)])), (bys, .inl (G.2.2.1, 24, .inl (fun _ => 0))), (ma, .inl (G.2.2.2.2, 12, .inr (.inr (.inr (.inr mot)))))] ++ xq_L G mo pw cg an 12) ++ [(se, .inl (G.2.2.1, 12, .inl (fun _ => 0)))] : va_W) ++ [(y_, .inr (4, [.int (0 : Int32), .long (0 : Int64), .long (0 : Int64), .long (0 : Int64), .long (0 : Int64), .long (0 : Int64), .long (0 : Int64), .int (0 : Int32), .int (0 : Int32), .ref a_buf, .int (0 : Int32), .int (0 : Int32), .ref a_st, .ref a_bl, .ref a_fi, .ref a_ob, .ref a_si, .ref a_po, .ref a_pr, .ref a_an, .int (0 : Int32), .ref a_bo, .long (0 : Int64)])), (a_buf, .inl (G.2.2.1, 24, .inl (fun _ => 0))), (a_st, .inl (G.2.2.1, 12, .inl (fun _ => 0))), (a_bl, .inl (G.2.2.2.1, 12, .inr (.inl (fun _ => 0)))), (a_fi, .inl (G.2.2.1, 12, .inl (fun _ => 0))), (a_ob, .inl (G.2.2.1, 12, .inl (fun _ => 0))), (a_si, .inl (G.2.2.2.1, 12, .inr (.inl (fun _ => 0)))), (a_po, .inl (G.2.2.2.1, 72, .inr (.inl (fun _ => 0)))), (a_pr, .inl (G.2.2.1, 72, .inl (fun _ => 0))), (a_an, .inl (G.2.2.2.1, 72, .inr (.inl (fun _ => 0)))), (a_bo, .inl (G.2.2.1, 12, .inl (fun _ => 0)))]) ++ [(ou, .inl (G.2.2.2.1, 1, .inr (.inl (fun _ => 0))))] : va_W)[i]?) = (xq_L G mo pw cg an 12).map some := rfl
set_option maxHeartbeats 4000000 in
set_option maxRecDepth 100000 in
/-- what stands ahead of the first call -/
theorem lo_S {G : xg_G} {x k sh ch bu bys ma se : Nat} {mo pw cg an : Nat → Nat} {mot : Nat → Option Nat} {y_ a_buf a_st a_bl a_fi a_ob a_si a_po a_pr a_an a_bo ou : Nat} {z : Nat} {H : Heap} (hmot : ∀ j, j < 12 → mot j = some (mo j)) (hP : va_P G.2.1 cl_all (((([(x, .inr (3, [.ref k, .ref bu, .ref ma, .ref se, .int (0 : Int32), .int (0 : Int32), .int (0 : Int32)])), (k, .inr (1, [.ref sh, .ref ch, .int (0 : Int32), .long (0 : Int64), .long (0 : Int64), .long (0 : Int64), .long (0 : Int64), .long (0 : Int64), .long (0 : Int64), .long (0 : Int64), .long (0 : Int64)])), (sh, .inl (G.2.2.2.1, 6, .inr (.inl (fun _ => 0)))), (ch, .inl (G.2.2.2.1, 6, .inr (.inl (fun _ => 0)))), (bu, .inr (0, [.ref bys, .int (0 : Int32)])), (bys, .inl (G.2.2.1, 24, .inl (fun _ => 0))), (ma, .inl (G.2.2.2.2, 12, .inr (.inr (.inr (.inr mot)))))] ++ xq_L G mo pw cg an 12) ++ [(se, .inl (G.2.2.1, 12, .inl (fun _ => 0)))] : va_W) ++ [(y_, .inr (4, [.int (0 : Int32), .long (0 : Int64), .long (0 : Int64), .long (0 : Int64), .long (0 : Int64), .long (0 : Int64), .long (0 : Int64), .int (0 : Int32), .int (0 : Int32), .ref a_buf, .int (0 : Int32), .int (0 : Int32), .ref a_st, .ref a_bl, .ref a_fi, .ref a_ob, .ref a_si, .ref a_po, .ref a_pr, .ref a_an, .int (0 : Int32), .ref a_bo, .long (0 : Int64)])), (a_buf, .inl (G.2.2.1, 24, .inl (fun _ => 0))), (a_st, .inl (G.2.2.1, 12, .inl (fun _ => 0))), (a_bl, .inl (G.2.2.2.1, 12, .inr (.inl (fun _ => 0)))), (a_fi, .inl (G.2.2.1, 12, .inl (fun _ => 0))), (a_ob, .inl (G.2.2.1, 12, .inl (fun _ => 0))), (a_si, .inl (G.2.2.2.1, 12, .inr (.inl (fun _ => 0)))), (a_po, .inl (G.2.2.2.1, 72, .inr (.inl (fun _ => 0)))), (a_pr, .inl (G.2.2.1, 72, .inl (fun _ => 0))), (a_an, .inl (G.2.2.2.1, 72, .inr (.inl (fun _ => 0)))), (a_bo, .inl (G.2.2.1, 12, .inl (fun _ => 0)))]) ++ [(ou, .inl (G.2.2.2.1, 1, .inr (.inl (fun _ => 0))))] : va_W) H) (hD : va_D (fun q => z ≤ q) (((([(x, .inr (3, [.ref k, .ref bu, .ref ma, .ref se, .int (0 : Int32), .int (0 : Int32), .int (0 : Int32)])), (k, .inr (1, [.ref sh, .ref ch, .int (0 : Int32), .long (0 : Int64), .long (0 : Int64), .long (0 : Int64), .long (0 : Int64), .long (0 : Int64), .long (0 : Int64), .long (0 : Int64), .long (0 : Int64)])), (sh, .inl (G.2.2.2.1, 6, .inr (.inl (fun _ => 0)))), (ch, .inl (G.2.2.2.1, 6, .inr (.inl (fun _ => 0)))), (bu, .inr (0, [.ref bys, .int (0 : Int32)])), (bys, .inl (G.2.2.1, 24, .inl (fun _ => 0))), (ma, .inl (G.2.2.2.2, 12, .inr (.inr (.inr (.inr mot)))))] ++ xq_L G mo pw cg an 12) ++ [(se, .inl (G.2.2.1, 12, .inl (fun _ => 0)))] : va_W) ++ [(y_, .inr (4, [.int (0 : Int32), .long (0 : Int64), .long (0 : Int64), .long (0 : Int64), .long (0 : Int64), .long (0 : Int64), .long (0 : Int64), .int (0 : Int32), .int (0 : Int32), .ref a_buf, .int (0 : Int32), .int (0 : Int32), .ref a_st, .ref a_bl, .ref a_fi, .ref a_ob, .ref a_si, .ref a_po, .ref a_pr, .ref a_an, .int (0 : Int32), .ref a_bo, .long (0 : Int64)])), (a_buf, .inl (G.2.2.1, 24, .inl (fun _ => 0))), (a_st, .inl (G.2.2.1, 12, .inl (fun _ => 0))), (a_bl, .inl (G.2.2.2.1, 12, .inr (.inl (fun _ => 0)))), (a_fi, .inl (G.2.2.1, 12, .inl (fun _ => 0))), (a_ob, .inl (G.2.2.1, 12, .inl (fun _ => 0))), (a_si, .inl (G.2.2.2.1, 12, .inr (.inl (fun _ => 0)))), (a_po, .inl (G.2.2.2.1, 72, .inr (.inl (fun _ => 0)))), (a_pr, .inl (G.2.2.1, 72, .inl (fun _ => 0))), (a_an, .inl (G.2.2.2.1, 72, .inr (.inl (fun _ => 0)))), (a_bo, .inl (G.2.2.1, 12, .inl (fun _ => 0)))]) ++ [(ou, .inl (G.2.2.2.1, 1, .inr (.inl (fun _ => 0))))] : va_W)) : xv_S G z 0 x y_ ou H := by
  have hd : ∀ j, j < 12 → va_D (fun q => z ≤ q) (xl_fx G x k sh ch bu bys ma se mot y_ a_buf a_st a_bl a_fi a_ob a_si a_po a_pr a_an a_bo ou (fun _ => (0 : Int64)) (0 : Int32) (0 : Int64) (0 : Int64) (0 : Int64) (0 : Int64) (fun _ => (0 : Int64)) (fun _ => (0 : Int64)) (0 : Int32) (0 : Int64) (0 : Int64) (0 : Int64) (0 : Int64) (0 : Int64) (0 : Int64) (0 : Int32) (0 : Int32) (fun _ => (0 : Int32)) (0 : Int32) (0 : Int32) (fun _ => (0 : Int32)) (fun _ => (0 : Int64)) (fun _ => (0 : Int32)) (fun _ => (0 : Int32)) (fun _ => (0 : Int64)) (fun _ => (0 : Int64)) (fun _ => (0 : Int32)) (fun _ => (0 : Int64)) (0 : Int32) (fun _ => (0 : Int32)) (0 : Int64) ++ xl_m G mo pw cg an (fun _ _ => (0 : Int64)) (fun _ _ => (0 : Int32)) (fun _ _ => (0 : Int64)) (fun _ => (0 : Int32)) (fun _ => (0 : Int64)) (fun _ => (0 : Int32)) (fun _ => (0 : Int32)) (fun _ => (0 : Int64)) j) := fun j hj => by
    obtain ⟨is, h1, h2, h3⟩ := lo_ix (G := G) (x := x) (k := k) (sh := sh) (ch := ch) (bu := bu) (bys := bys) (ma := ma) (se := se) (mo := mo) (pw := pw) (cg := cg) (an := an) (mot := mot) (y_ := y_) (a_buf := a_buf) (a_st := a_st) (a_bl := a_bl) (a_fi := a_fi) (a_ob := a_ob) (a_si := a_si) (a_po := a_po) (a_pr := a_pr) (a_an := a_an) (a_bo := a_bo) (ou := ou) j hj
    exact hD.sub is h1 h2
  have hp : ∀ j, j < 12 → va_P G.2.1 cl_all (xl_fx G x k sh ch bu bys ma se mot y_ a_buf a_st a_bl a_fi a_ob a_si a_po a_pr a_an a_bo ou (fun _ => (0 : Int64)) (0 : Int32) (0 : Int64) (0 : Int64) (0 : Int64) (0 : Int64) (fun _ => (0 : Int64)) (fun _ => (0 : Int64)) (0 : Int32) (0 : Int64) (0 : Int64) (0 : Int64) (0 : Int64) (0 : Int64) (0 : Int64) (0 : Int32) (0 : Int32) (fun _ => (0 : Int32)) (0 : Int32) (0 : Int32) (fun _ => (0 : Int32)) (fun _ => (0 : Int64)) (fun _ => (0 : Int32)) (fun _ => (0 : Int32)) (fun _ => (0 : Int64)) (fun _ => (0 : Int64)) (fun _ => (0 : Int32)) (fun _ => (0 : Int64)) (0 : Int32) (fun _ => (0 : Int32)) (0 : Int64) ++ xl_m G mo pw cg an (fun _ _ => (0 : Int64)) (fun _ _ => (0 : Int32)) (fun _ _ => (0 : Int64)) (fun _ => (0 : Int32)) (fun _ => (0 : Int64)) (fun _ => (0 : Int32)) (fun _ => (0 : Int32)) (fun _ => (0 : Int64)) j) H := fun j hj => by
    obtain ⟨is, h1, h2, h3⟩ := lo_ix (G := G) (x := x) (k := k) (sh := sh) (ch := ch) (bu := bu) (bys := bys) (ma := ma) (se := se) (mo := mo) (pw := pw) (cg := cg) (an := an) (mot := mot) (y_ := y_) (a_buf := a_buf) (a_st := a_st) (a_bl := a_bl) (a_fi := a_fi) (a_ob := a_ob) (a_si := a_si) (a_po := a_po) (a_pr := a_pr) (a_an := a_an) (a_bo := a_bo) (ou := ou) j hj
    exact hP.sub is h3
  have hm : va_D (fun q => z ≤ q) (xq_L G mo pw cg an 12) := hD.sub (List.range' 7 48) (by decide) lo_mid
  have hpw : ((List.range 12).flatMap (fun j => [mo j, pw j, cg j, an j])).Nodup := by
    have h1 := lo_nd hm
    unfold xq_L at h1
    rw [List.map_flatMap] at h1
    exact h1
  have hpw2 := (List.pairwise_flatMap.mp hpw).2
  have hap : ∀ i j, i < j → j < 12 → ∀ q, q ∈ [mo i, pw i, cg i, an i] → ∀ r, r ∈ [mo j, pw j, cg j, an j] → q ≠ r := fun i j hij hj => by
    have h1 := List.pairwise_iff_getElem.mp hpw2 i j (by rw [List.length_range]; omega) (by rw [List.length_range]; omega) hij
    rw [List.getElem_range, List.getElem_range] at h1
    exact h1
  refine ⟨k, sh, ch, bu, bys, ma, se, mo, pw, cg, an, mot, a_buf, a_st, a_bl, a_fi, a_ob, a_si, a_po, a_pr, a_an, a_bo, (0 : Int32), (0 : Int64), (0 : Int64), (0 : Int64), (0 : Int64), (fun _ => (0 : Int64)), (fun _ => (0 : Int64)), (fun _ _ => (0 : Int64)), (fun _ _ => (0 : Int32)), (fun _ _ => (0 : Int64)), (0 : Int32), (0 : Int64), (0 : Int64), (0 : Int64), (0 : Int64), (0 : Int64), (0 : Int64), (0 : Int32), (0 : Int32), (fun _ => (0 : Int32)), (0 : Int32), (0 : Int32), (fun _ => (0 : Int32)), (fun _ => (0 : Int64)), (fun _ => (0 : Int32)), (fun _ => (0 : Int32)), (fun _ => (0 : Int64)), (fun _ => (0 : Int64)), (fun _ => (0 : Int32)), (fun _ => (0 : Int64)), (0 : Int32), (fun _ => (0 : Int32)), (0 : Int64), (fun _ => (0 : Int64)), ?_, ⟨?_, ?_, ?_, ?_⟩, hmot, ?_, ?_⟩
  · refine ⟨⟨by decide, by decide⟩, ⟨by decide, by decide⟩, ⟨by decide, rfl⟩, ⟨by decide, by decide⟩, ⟨rfl, by decide, by decide⟩, fun _ _ _ _ => ⟨rfl, rfl, rfl⟩, fun j hj => absurd hj (by show ¬ j < 0; omega), Or.inl ⟨rfl, rfl, rfl⟩⟩
  · exact fun j hj => lo_nd (hd j hj)
  · intro i j hi hj hne q hq hq2
    rcases Nat.lt_or_gt_of_ne hne with h | h
    · exact hap i j h hj q hq q hq2 rfl
    · exact hap j i h hi q hq2 q hq rfl
  · exact fun q hq => lo_ge (hd 0 (by decide)) q (List.mem_append_left [mo 0, pw 0, cg 0, an 0] hq)
  · intro j hj q hq
    have h1 := lo_ge (hd j hj) q
    rw [List.map_append] at h1
    exact h1 (List.mem_append_right _ hq)
  · exact xl_of_mem fun q hq => xl_to_mem (hp 0 (by decide)) q (List.mem_append_left _ hq)
  · exact fun j hj => xl_of_mem fun q hq => xl_to_mem (hp j hj) q (List.mem_append_right _ hq)
def lo_k : Cond → Bool
  | .laysStatic _ _ _ => true
  | .stringRef _ _ _ => true
  | .arrayOver _ => true
  | w => xg_st w || w.onTables
theorem lo_kinds : lw_tbl.all lo_k = true := by decide +kernel
theorem lo_args {s : State} {args : Array Value} (hts : ∀ w ∈ lw_tbl, w.before args s = true) : ∀ w ∈ lw_tbl, w.before #[] s = true := by
  intro w hw
  have h1 := hts w hw
  have h2 : lo_k w = true := List.all_eq_true.mp lo_kinds w hw
  have hr := State.WarmedH.refl s
  by_cases h3 : xg_st w = true
  · exact xg_stable hr h3 h1
  by_cases h4 : w.onTables = true
  · have h5 := Cond.onTables_vm (A := #[]) (A' := args) (U := s) (U' := s) s.vm w h4
    rw [State.setVm_self] at h5
    rw [h5]
    exact h1
  · cases w with
    | laysStatic C n d => exact xg_lays hr (fun _ _ => rfl) h1
    | stringRef own k tx => exact xg_string hr h1
    | arrayOver ty => exact h1
    | _ => exact absurd h2 (by simp only [lo_k, Bool.or_eq_true]; exact fun z => z.elim h3 h4)
theorem lo_arr {s : State} {ty : FieldType} {args : Array Value} (h : (Cond.arrayClass ty).before args s = true) : ∃ cA : ClassId, ArrOfT s cA ty ∧ s.vm.findClass ("[" ++ ty.toString) = some cA := by
  obtain ⟨cA, kA, comp, h1, h2, h3⟩ := Cond.arrayClass_spec h
  exact ⟨cA, fun N z => ⟨(fun k h => by cases h), kA, h2, comp, h3⟩, h1⟩
def lo_five (a0 a1 a2 a3 a4 : ClassId) (i0 i1 i2 i3 i4 : Nat → Nat) : va_G := (fun j => match j with | 0 => a0 | 1 => a1 | 2 => a2 | 3 => a3 | _ => a4, fun j => match j with | 0 => i0 | 1 => i1 | 2 => i2 | 3 => i3 | _ => i4)
set_option maxHeartbeats 4000000 in
/-- what the start says, with the classes' numbers -/
theorem lo_G {s : State} {b : Nat} (hts : ∀ w ∈ lw_tbl, w.before #[Value.ref b] s = true) (hgv : (Jvm.Cond.and given_1 narrow_1).before #[Value.ref b] s = true) : ∃ G : xg_G, G.1 = s ∧ xg_F G := by
  have h0 := lo_args hts
  have hf := flat_of_before _ hgv
  have hr := State.WarmedH.refl s
  have htb : ∀ w ∈ xg_tb, w.before #[] s = true := fun w h => h0 w (List.mem_filter.mp h).1
  obtain ⟨a0, i0, k0⟩ := u_known htb in_BU (h0 (.instantiable "SealTrust$Buffer" 2) (by decide +kernel))
  obtain ⟨a1, i1, k1⟩ := u_known htb in_KE (h0 (.instantiable "SealTrust$Key" 11) (by decide +kernel))
  obtain ⟨a2, i2, k2⟩ := u_known htb in_MO (h0 (.instantiable "SealTrust$Motion" 8) (by decide +kernel))
  obtain ⟨a3, i3, k3⟩ := u_known htb in_ST (h0 (.instantiable "SealTrust" 7) (by decide +kernel))
  obtain ⟨a4, i4, k4⟩ := u_known htb in_MD (h0 (.instantiable "SealTrustModel" 23) (by decide +kernel))
  obtain ⟨cI, hI1, hI2⟩ := lo_arr (h0 _ xk_ai)
  obtain ⟨cJ, hJ1, hJ2⟩ := lo_arr (h0 _ xk_al)
  obtain ⟨comp, cM, kM, m1, m2, m3, m4, m5⟩ := Cond.arrayOver_spec (h0 _ xk_ao)
  refine ⟨(s, lo_five a0 a1 a2 a3 a4 i0 i1 i2 i3 i4, cI, cJ, cM), rfl, h0, ⟨?_, ?_⟩, ?_, ?_, ?_⟩
  · intro c q hq
    match c, hq with
    | 0, hq => cases hq; exact k0
    | 1, hq => cases hq; exact k1
    | 2, hq => cases hq; exact k2
    | 3, hq => cases hq; exact k3
    | 4, hq => cases hq; exact k4
    | n + 5, hq => cases hq
  · intro c q hq
    match c, hq with
    | 0, hq => cases hq; exact ⟨hI1, hI2⟩
    | 1, hq => cases hq; exact ⟨hJ1, hJ2⟩
    | 2, hq => cases hq; exact ⟨fun N z => ⟨(fun k h => by cases h), kM, m3, comp, m4⟩, kM, comp, m3, m4, m1, m5⟩
    | n + 3, hq => cases hq
  · exact xg_isRef hr (fun _ _ => rfl) (h0 _ xt_lu) (hf xt_U (by decide +kernel))
  · exact xg_isRef hr (fun _ _ => rfl) (h0 _ xt_ls) (hf xt_S (by decide +kernel))
  · intro q hq
    have h9 : ∀ q ∈ xg_ne, Cond.not (.castable q.1 q.2) ∈ flatC (Jvm.Cond.and given_1 narrow_1) := by decide +kernel
    exact va_Nc.of (hf _ (h9 q hq))
end LOS
