/-! the law's world: the class and the reference side by side; what holds between them -/
section XLW
def xl_up {α : Type} (f : Nat → α) (k : Nat) (v : α) : Nat → α := fun j => if j = k then v else f j
theorem xl_up1 {α : Type} {f : Nat → α} {k : Nat} {v : α} : xl_up f k v k = v := if_pos rfl
theorem xl_up2 {α : Type} {f : Nat → α} {k j : Nat} {v : α} (h : ¬ j = k) : xl_up f k v j = f j := if_neg h
/-- the motion whose cells a call may touch -/
def xl_ix (m : Int32) : Nat := if 0 ≤ m.toInt ∧ m.toInt < 12 then m.toInt.toNat else 0
theorem xl_ix_lt (m : Int32) : xl_ix m < 12 := by
  unfold xl_ix
  split
  · omega
  · omega
theorem xl_ix_in {m : Int32} (h : vp_in m 12) : xl_ix m = m.toNatClampNeg := by
  have h1 := vp_in_iff.mp h
  unfold xl_ix
  rw [if_pos ⟨h1.1, by omega⟩]
  rfl
def xl_fx (G : xg_G) (x : Nat) (k : Nat) (sh : Nat) (ch : Nat) (bu : Nat) (bys : Nat) (ma : Nat) (se : Nat) (mot : Nat → Option Nat) (y_ : Nat) (a_buf : Nat) (a_st : Nat) (a_bl : Nat) (a_fi : Nat) (a_ob : Nat) (a_si : Nat) (a_po : Nat) (a_pr : Nat) (a_an : Nat) (a_bo : Nat) (ou : Nat) (outf : Nat → Int64) (dealt : Int32) (epoch : Int64) (signing : Int64) (pp : Int64) (qq : Int64) (shares : Nat → Int64) (checks : Nat → Int64) (z_th : Int32) (z_n : Int64) (z_m : Int64) (z_d : Int64) (z_a : Int64) (z_b : Int64) (z_v : Int64) (z_ep : Int32) (z_su : Int32) (z_buf : Nat → Int32) (z_by : Int32) (z_mo : Int32) (z_st : Nat → Int32) (z_bl : Nat → Int64) (z_fi : Nat → Int32) (z_ob : Nat → Int32) (z_sg : Nat → Int64) (z_po : Nat → Int64) (z_pr : Nat → Int32) (z_an : Nat → Int64) (z_bk : Int32) (z_bo : Nat → Int32) (z_h : Int64) : va_W := [(x, .inr (3, [.ref k, .ref bu, .ref ma, .ref se, .int z_mo, .int z_bk, .int z_su])), (k, .inr (1, [.ref sh, .ref ch, .int dealt, .long epoch, .long z_v, .long z_d, .long signing, .long pp, .long qq, .long z_n, .long z_m])), (sh, .inl (G.2.2.2.1, 6, .inr (.inl shares))), (ch, .inl (G.2.2.2.1, 6, .inr (.inl checks))), (bu, .inr (0, [.ref bys, .int z_by])), (bys, .inl (G.2.2.1, 24, .inl z_buf)), (ma, .inl (G.2.2.2.2, 12, .inr (.inr (.inr (.inr mot))))), (se, .inl (G.2.2.1, 12, .inl z_bo)), (y_, .inr (4, [.int z_th, .long z_n, .long z_m, .long z_d, .long z_a, .long z_b, .long z_v, .int z_ep, .int z_su, .ref a_buf, .int z_by, .int z_mo, .ref a_st, .ref a_bl, .ref a_fi, .ref a_ob, .ref a_si, .ref a_po, .ref a_pr, .ref a_an, .int z_bk, .ref a_bo, .long z_h])), (a_buf, .inl (G.2.2.1, 24, .inl z_buf)), (a_st, .inl (G.2.2.1, 12, .inl z_st)), (a_bl, .inl (G.2.2.2.1, 12, .inr (.inl z_bl))), (a_fi, .inl (G.2.2.1, 12, .inl z_fi)), (a_ob, .inl (G.2.2.1, 12, .inl z_ob)), (a_si, .inl (G.2.2.2.1, 12, .inr (.inl z_sg))), (a_po, .inl (G.2.2.2.1, 72, .inr (.inl z_po))), (a_pr, .inl (G.2.2.1, 72, .inl z_pr)), (a_an, .inl (G.2.2.2.1, 72, .inr (.inl z_an))), (a_bo, .inl (G.2.2.1, 12, .inl z_bo)), (ou, .inl (G.2.2.2.1, 1, .inr (.inl outf)))]
def xl_m (G : xg_G) (mo : Nat → Nat) (pw : Nat → Nat) (cg : Nat → Nat) (an : Nat → Nat) (powers : Nat → Nat → Int64) (challenges : Nat → Nat → Int32) (answers : Nat → Nat → Int64) (z_st : Nat → Int32) (z_bl : Nat → Int64) (z_fi : Nat → Int32) (z_ob : Nat → Int32) (z_sg : Nat → Int64) (j : Nat) : va_W := [((mo j), .inr (2, [.ref (pw j), .ref (cg j), .ref (an j), .int (z_st j), .long (z_bl j), .int (z_fi j), .int (z_ob j), .long (z_sg j)])), ((pw j), .inl (G.2.2.2.1, 6, .inr (.inl (powers j)))), ((cg j), .inl (G.2.2.1, 6, .inl (challenges j))), ((an j), .inl (G.2.2.2.1, 6, .inr (.inl (answers j))))]
/-- where the cells lie: apart, and none of them older than z -/
def xl_A (z : Nat) (fa : List Nat) (ma : Nat → List Nat) : Prop := (∀ k, k < 12 → (fa ++ ma k).Nodup) ∧ (∀ i j, i < 12 → j < 12 → ¬ i = j → ∀ q, q ∈ ma i → q ∉ ma j) ∧ (∀ q, q ∈ fa → z ≤ q) ∧ ∀ k, k < 12 → ∀ q, q ∈ ma k → z ≤ q
theorem xl_D {ws : va_W} {sz : Nat} (h : (ws.map (fun q => q.1)).Nodup) : va_D (va_A ws sz) ws := by
  refine ⟨fun i j p q hp hq he => ?_, fun k q hq => va_A.in hq⟩
  have hl : i < (ws.map (fun q => q.1)).length := by
    rw [List.length_map]
    exact (List.getElem?_eq_some_iff.mp hp).1
  refine (List.getElem?_inj hl h).mp ?_
  rw [List.getElem?_map, List.getElem?_map, hp, hq]
  exact congrArg some he
theorem xl_mem {ws : va_W} {sz q : Nat} (h : va_A ws sz q) : q ∈ ws.map (fun q => q.1) ∨ sz ≤ q := by
  rcases h with ⟨k, e, h⟩ | h
  · exact Or.inl (List.mem_map.mpr ⟨(q, e), List.mem_of_getElem? h, rfl⟩)
  · exact Or.inr h
theorem xl_of_mem {D : va_G} {cl : List vw_C} {ws : va_W} {H : Heap} (h : ∀ q ∈ ws, va_at D cl q H) : va_P D cl ws H := fun _ q hq => h q (List.mem_of_getElem? hq)
theorem xl_to_mem {D : va_G} {cl : List vw_C} {ws : va_W} {H : Heap} (h : va_P D cl ws H) : ∀ q ∈ ws, va_at D cl q H := fun q hq => by
  obtain ⟨i, hi⟩ := List.getElem?_of_mem hq
  exact h i q hi
/-- behind a case: the other motions are as they were -/
theorem xl_close {G : xg_G} {z : Nat} {fa : List Nat} {ma : Nat → List Nat} {fx fx1 : va_W} {xm xm1 : Nat → va_W} {kk : Nat} {H H1 : Heap} {L : List Loc} (hk : kk < 12) (hA : xl_A z fa ma) (hfa : fx.map (fun q => q.1) = fa) (hma : ∀ k, k < 12 → (xm k).map (fun q => q.1) = ma k)
    (hold : ∀ k, k < 12 → va_P G.2.1 cl_all (xm k) H) (hP : va_P G.2.1 cl_all (fx1 ++ xm1 kk) H1) (hS : va_S (va_A (fx ++ xm kk) H.size) H H1 L) (hxo : ∀ k, k < 12 → ¬ k = kk → xm1 k = xm k) : va_P G.2.1 cl_all fx1 H1 ∧ ∀ k, k < 12 → va_P G.2.1 cl_all (xm1 k) H1 := by
  have hm := xl_to_mem hP
  refine ⟨xl_of_mem fun q hq => hm q (List.mem_append_left _ hq), fun k hk2 => ?_⟩
  by_cases he : k = kk
  · subst he
    exact xl_of_mem fun q hq => hm q (List.mem_append_right _ hq)
  · rw [hxo k hk2 he]
    refine (hold k hk2).kept (fun i q hq => hS.2.1 q.1 ((hold k hk2) i q hq).lt (fun w => ?_))
    have hqm : q.1 ∈ ma k := by
      rw [← hma k hk2]
      exact List.mem_map.mpr ⟨q, List.mem_of_getElem? hq, rfl⟩
    rcases xl_mem w with w | w
    · rw [List.map_append, hfa, hma kk hk] at w
      rcases List.mem_append.mp w with w | w
      · exact (List.nodup_append.mp (hA.1 k hk2)).2.2 q.1 w q.1 hqm rfl
      · exact hA.2.1 k kk hk2 hk he q.1 hqm w
    · have := ((hold k hk2) i q hq).lt
      omega
theorem xl_gl {z : Nat} {ws : va_W} {H0 H H1 : Heap} {L : List Loc} (hz : H0.size = z) (hw : ∀ q, q ∈ ws.map (fun q => q.1) → z ≤ q) (hS : va_S (fun q => z ≤ q) H0 H []) (hT : va_S (va_A ws H.size) H H1 L) : va_S (fun q => z ≤ q) H0 H1 L := by
  have h1 : ∀ q, va_A ws H.size q → z ≤ q := fun q h => by
    rcases xl_mem h with h | h
    · exact hw q h
    · have := hS.1
      omega
  exact ⟨Nat.le_trans hS.1 hT.1, fun q a b => (hT.2.1 q (Nat.lt_of_lt_of_le a hS.1) (fun w => b (h1 q w))).trans (hS.2.1 q a b), fun q hq => h1 _ (hT.2.2 q hq)⟩
/-- two safe primes 2a+1 and 2b+1 -/
def xv_pq (a b : Nat) : Prop := nt_P (2 * a + 1) ∧ nt_P (2 * b + 1) ∧ a ≠ b ∧ nt_P a ∧ nt_P b ∧ 10 ≤ a ∧ a ≤ 16383 ∧ 10 ≤ b ∧ b ≤ 16383
def xv_key (signing pp qq : Int64) (shares checks : Nat → Int64) (z_n z_m z_d z_a z_b z_v : Int64) : Prop :=
  ∃ a b : Nat, xv_pq a b ∧ z_n.toInt = ((2 * a + 1) * (2 * b + 1) : Nat) ∧ z_m.toInt = (a * b : Nat) ∧ pp.toInt = (2 * a + 1 : Nat) ∧ qq.toInt = (2 * b + 1 : Nat) ∧ 0 ≤ signing.toInt ∧ signing.toInt < (2 * (a * b) : Nat) ∧ nt_eq (2 * (a * b)) (65537 * signing.toInt.toNat) 1 ∧
    z_d.toInt = signing.toInt % (a * b : Nat) ∧ 0 ≤ z_v.toInt ∧ z_v.toInt < z_n.toInt ∧ ¬ (2 * a + 1) ∣ z_v.toInt.toNat ∧ ¬ (2 * b + 1) ∣ z_v.toInt.toNat ∧ 0 ≤ z_a.toInt ∧ z_a.toInt < (a * b : Nat) ∧ 0 ≤ z_b.toInt ∧ z_b.toInt < (a * b : Nat) ∧
    ∀ i, i < 6 → shares i = f_MD_part (Int32.ofNat i) z_m z_d z_a z_b ∧ checks i = f_MD_check (Int32.ofNat i) z_n z_m z_d z_a z_b z_v
/-- a motion that was made -/
def xv_mot (z_n : Int64) (z_st : Nat → Int32) (z_bl : Nat → Int64) (z_fi z_ob : Nat → Int32) (k : Nat) : Prop :=
  0 ≤ (z_fi k).toInt ∧ (z_fi k).toInt < 64 ∧ 0 ≤ (z_ob k).toInt ∧ (z_ob k).toInt < 64 ∧ (z_st k = 0 → f_MD_bits (z_ob k) < 3) ∧ 2 ≤ (z_bl k).toInt ∧ (z_bl k).toInt < z_n.toInt
def xv_I (t : Nat) (dealt : Int32) (epoch : Int64) (signing : Int64) (pp : Int64) (qq : Int64) (shares : Nat → Int64) (checks : Nat → Int64) (powers : Nat → Nat → Int64) (challenges : Nat → Nat → Int32) (answers : Nat → Nat → Int64) (z_n : Int64) (z_m : Int64) (z_d : Int64) (z_a : Int64) (z_b : Int64) (z_v : Int64) (z_ep : Int32) (z_su : Int32) (z_by : Int32) (z_mo : Int32) (z_st : Nat → Int32) (z_bl : Nat → Int64) (z_fi : Nat → Int32) (z_ob : Nat → Int32) (z_po : Nat → Int64) (z_pr : Nat → Int32) (z_an : Nat → Int64) (z_bk : Int32) : Prop :=
  (0 ≤ z_by.toInt ∧ z_by.toInt ≤ 24) ∧ (0 ≤ z_mo.toInt ∧ z_mo.toInt ≤ 12) ∧ (0 ≤ z_bk.toInt ∧ ((List.range z_mo.toInt.toNat).filter (fun k => decide (z_st k = 1))).length = z_bk.toInt.toNat) ∧ (0 ≤ z_su.toInt ∧ z_su.toInt < 64) ∧ (epoch = z_ep.toInt64 ∧ 0 ≤ z_ep.toInt ∧ z_ep.toInt ≤ t) ∧
  (∀ k, k < 12 → ∀ i, i < 6 → powers k i = z_po (6 * k + i) ∧ challenges k i = z_pr (6 * k + i) ∧ answers k i = z_an (6 * k + i)) ∧ (∀ k, k < z_mo.toInt.toNat → xv_mot z_n z_st z_bl z_fi z_ob k) ∧
  ((z_n = 0 ∧ dealt = 0 ∧ z_mo = 0) ∨ (dealt = 1 ∧ xv_key signing pp qq shares checks z_n z_m z_d z_a z_b z_v))
def xv_S (G : xg_G) (z t : Nat) (x y_ ou : Nat) (H : Heap) : Prop :=
  ∃ (k : Nat) (sh : Nat) (ch : Nat) (bu : Nat) (bys : Nat) (ma : Nat) (se : Nat) (mo : Nat → Nat) (pw : Nat → Nat) (cg : Nat → Nat) (an : Nat → Nat) (mot : Nat → Option Nat) (a_buf : Nat) (a_st : Nat) (a_bl : Nat) (a_fi : Nat) (a_ob : Nat) (a_si : Nat) (a_po : Nat) (a_pr : Nat) (a_an : Nat) (a_bo : Nat) (dealt : Int32) (epoch : Int64) (signing : Int64) (pp : Int64) (qq : Int64) (shares : Nat → Int64) (checks : Nat → Int64) (powers : Nat → Nat → Int64) (challenges : Nat → Nat → Int32) (answers : Nat → Nat → Int64) (z_th : Int32) (z_n : Int64) (z_m : Int64) (z_d : Int64) (z_a : Int64) (z_b : Int64) (z_v : Int64) (z_ep : Int32) (z_su : Int32) (z_buf : Nat → Int32) (z_by : Int32) (z_mo : Int32) (z_st : Nat → Int32) (z_bl : Nat → Int64) (z_fi : Nat → Int32) (z_ob : Nat → Int32) (z_sg : Nat → Int64) (z_po : Nat → Int64) (z_pr : Nat → Int32) (z_an : Nat → Int64) (z_bk : Int32) (z_bo : Nat → Int32) (z_h : Int64) (outf : Nat → Int64), xv_I t dealt epoch signing pp qq shares checks powers challenges answers z_n z_m z_d z_a z_b z_v z_ep z_su z_by z_mo z_st z_bl z_fi z_ob z_po z_pr z_an z_bk ∧ xl_A z [x, k, sh, ch, bu, bys, ma, se, y_, a_buf, a_st, a_bl, a_fi, a_ob, a_si, a_po, a_pr, a_an, a_bo, ou] (fun j => [mo j, pw j, cg j, an j]) ∧ (∀ j, j < 12 → mot j = some (mo j)) ∧ va_P G.2.1 cl_all (xl_fx G x k sh ch bu bys ma se mot y_ a_buf a_st a_bl a_fi a_ob a_si a_po a_pr a_an a_bo ou outf dealt epoch signing pp qq shares checks z_th z_n z_m z_d z_a z_b z_v z_ep z_su z_buf z_by z_mo z_st z_bl z_fi z_ob z_sg z_po z_pr z_an z_bk z_bo z_h) H ∧ ∀ j, j < 12 → va_P G.2.1 cl_all (xl_m G mo pw cg an powers challenges answers z_st z_bl z_fi z_ob z_sg j) H
end XLW
