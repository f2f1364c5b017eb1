theorem am_uws {C : String} {T : u_T} {N : Nat} {ci : Nat} (h : es_cl[ci]? = some (C, T, N)) : ∀ w ∈ u_ws C T N, w ∈ es_gt := by
  intro w hw
  refine es_gt_in (es_in ((es_cl_ok ci _ h).1 w hw)) ?_
  obtain ⟨k, -, rfl⟩ := List.mem_map.mp hw
  unfold u_lay
  split <;> rfl
theorem am_fok_sp {own : String} {n ci j : Nat} {r : vw_C} (h : am_fok own (n, ci, j)) (hr : es_cl[ci]? = some r) : j < r.2.2 ∧ ∃ ref : String, Jvm.Cond.fieldLink own n ref (r.2.1 j).2.1 (r.2.1 j).2.2.1 ∈ es_gt ∧ (ref = (r.2.1 j).1 ∨ Jvm.Cond.sameField ref (r.2.1 j).1 (r.2.1 j).2.1 (r.2.1 j).2.2.1 ∈ es_gt) := by
  obtain ⟨r2, h1, h2⟩ := h
  cases h1.symm.trans hr
  exact h2
theorem am_same {args : Array Value} {s : State} {ref o n dd : String} (hts : ∀ w ∈ es_gt, w.before args s = true) (h : ref = o ∨ Jvm.Cond.sameField ref o n dd ∈ es_gt) : ∀ x, s.fieldFound? o n dd = some x → s.fieldFound? ref n dd = some x := by
  intro x hx
  rcases h with rfl | h
  · exact hx
  · exact u_same (hts _ h) x hx
theorem am_nar (b : Bool) {x : Int} (h : b = true → x = 0 ∨ x = 1) : ∃ ty : FieldType, parseFieldDescriptor (if b then "Z" else "I") = some ty ∧ narrow ty (.int (Int32.ofInt x)) = .int (Int32.ofInt x) ∧ fits ty (.int (Int32.ofInt x)) = true := by
  cases b with
  | false => exact ⟨.int, by decide +kernel, rfl, rfl⟩
  | true =>
    rcases h rfl with rfl | rfl
    · exact ⟨.boolean, by decide +kernel, by decide +kernel, by decide +kernel⟩
    · exact ⟨.boolean, by decide +kernel, by decide +kernel, by decide +kernel⟩
theorem am_cell_put {ad : Nat → Nat} {ca : Nat → ClassId} {I : am_I} {a j : Nat} {b : Bool} {o : Nat × List (Bool ⊕ Nat)} (x : Int) (ho : am_nth ES a = some (.inl o)) (hj : o.2[j]? = some (.inl b)) : (am_W ad ca I).set a (ad a, .inr (o.1, (am_fv ad (I a) 0 o.2).set j (.int (Int32.ofInt x)))) = am_W ad ca (am_u I a j x) := by
  rw [← am_W_put (I := I) (I' := am_u I a j x) ho (fun q hq => am_u_ne hq), am_fv_set x hj]
  unfold am_cell
  dsimp only
  rw [am_u_eq]
theorem am_cell_putA {ad : Nat → Nat} {ca : Nat → ClassId} {I : am_I} {a j : Nat} {o : FieldType × Int × List Nat} (x : Int) (ho : am_nth ES a = some (.inr o)) : (am_W ad ca I).set a (ad a, .inl (ca a, o.2.1.toNat, am_ar ad o.1 o.2.2 (am_up (I a) j x))) = am_W ad ca (am_u I a j x) := by
  rw [← am_W_put (I := I) (I' := am_u I a j x) ho (fun q hq => am_u_ne hq)]
  unfold am_cell
  dsimp only
  rw [am_u_eq]
theorem am_updI (f : Nat → Int) (j : Nat) (x : Int) : upd (fun i => Int32.ofInt (f i)) j (Int32.ofInt x) = fun i => Int32.ofInt (am_up f j x i) := by
  funext i
  unfold upd am_up
  split <;> rfl
theorem am_updL (f : Nat → Int) (j : Nat) (x : Int) : vp_updL (fun i => Int64.ofInt (f i)) j (Int64.ofInt x) = fun i => Int64.ofInt (am_up f j x i) := by
  funext i
  unfold vp_updL am_up
  split <;> rfl
section AMH
variable {p : Program} {l : Launch} {e : Env} {R : Room} {s : State} {m : MethodId} {args : Array Value} {below : List Frame} {meth : Method} {c : Code} {cells slots : Nat} {Q : State → Prop} {D : va_G} {ad : Nat → Nat} {ca : Nat → ClassId} {tys : List (ClassId × FieldType)} {A : Nat → Prop} {H0 : Heap} {y : am_Y} {d : Nat} {pc nx tg pc' : Nat} {ax : Int} {lv lv' : List (Nat × am_v)} {st st' : List am_v} {I I' : am_I} {P : Option Prop}
theorem am_o_getfield {n : Nat} (hB : am_B y d p R s m args c D ca tys A H0 cells slots) (hv : am_v1 y.1.cls y.2.1 y.2.2.1 (pc, .getfield n, nx, ax, tg) = true) (h : am_ex y.2.2.2.2.2 (.getfield n) nx ax tg lv st I = some (P, pc', lv', st', I')) (hp : am_p P) (k : am_w p l e R s m args below meth c D ad ca A H0 cells slots Q y pc' lv' st' I') : am_w p l e R s m args below meth c D ad ca A H0 cells slots Q y pc lv st I := by
  obtain ⟨hd, hn, hw⟩ := am_v1_sp rfl hv
  obtain ⟨⟨hx, hb, hml, hown⟩, hts, hN, hK, hT, hA, hR, hC, hk⟩ := hB
  try simp only [am_vx, decide_eq_true_eq] at hw
  subst hn
  simp only [am_ex] at h
  split at h
  · rename_i a r
    unfold am_ob at h
    split at h
    · rename_i o ho
      dsimp only at h
      unfold am_fsk at h
      split at h
      · rename_i j hj
        obtain ⟨⟨C, T, N⟩, hr0, hlen, hfld⟩ := es_sh_fld ho
        obtain ⟨hlt, ref, hli, hsa⟩ := am_fok_sp (am_chk_f hk (am_fs_mem hj)) hr0
        dsimp only at h
        unfold am_gf at h
        split at h
        · rename_i b hb2
          cases h
          intro H locs ls hP hD hS hl
          exact va_get hx hb hts (am_uws hr0) hown hK hP a (am_W_at I ho) hr0 j hlt (hts _ hli) (am_same hts hsa) (v := .int (Int32.ofInt (I a j))) (by rw [am_fv_get, ← am_nth_eq, hb2]; simp) hd (k H locs ls hP hD hS hl)
        · rename_i q hb2
          cases h
          intro H locs ls hP hD hS hl
          exact va_get hx hb hts (am_uws hr0) hown hK hP a (am_W_at I ho) hr0 j hlt (hts _ hli) (am_same hts hsa) (v := .ref (ad q)) (by rw [am_fv_get, ← am_nth_eq, hb2]; simp) hd (k H locs ls hP hD hS hl)
        · cases h
      · cases h
    · cases h
  · cases h
theorem am_o_putfield {n : Nat} (hB : am_B y d p R s m args c D ca tys A H0 cells slots) (hv : am_v1 y.1.cls y.2.1 y.2.2.1 (pc, .putfield n, nx, ax, tg) = true) (h : am_ex y.2.2.2.2.2 (.putfield n) nx ax tg lv st I = some (P, pc', lv', st', I')) (hp : am_p P) (k : am_w p l e R s m args below meth c D ad ca A H0 cells slots Q y pc' lv' st' I') : am_w p l e R s m args below meth c D ad ca A H0 cells slots Q y pc lv st I := by
  obtain ⟨hd, hn, hw⟩ := am_v1_sp rfl hv
  obtain ⟨⟨hx, hb, hml, hown⟩, hts, hN, hK, hT, hA, hR, hC, hk⟩ := hB
  try simp only [am_vx, decide_eq_true_eq] at hw
  subst hn
  simp only [am_ex] at h
  split at h
  · rename_i x a r
    unfold am_ob at h
    split at h
    · rename_i o ho
      dsimp only at h
      unfold am_fsk at h
      split at h
      · rename_i j hj
        obtain ⟨⟨C, T, N⟩, hr0, hlen, hfld⟩ := es_sh_fld ho
        obtain ⟨hlt, ref, hli, hsa⟩ := am_fok_sp (am_chk_f hk (am_fs_mem hj)) hr0
        dsimp only at h
        unfold am_gf at h
        split at h
        · rename_i b hb2
          cases b with
          | false =>
            cases h
            obtain ⟨ty, t1, t2, t3⟩ := am_nar false (x := x) (fun h => by cases h)
            obtain ⟨f1, f2⟩ := hfld j false (by rw [← am_nth_eq]; exact hb2)
            intro H locs ls hP hD hS hl
            refine va_put hx hb hts (am_uws hr0) (es_ty T) (es_cl_ok _ _ hr0).2.1 (es_cl_ok _ _ hr0).2.2 hown hK hP hD hS a (am_W_at I ho) hr0 j hlt (hts _ hli) (am_same hts hsa) f2 (ty := ty) (v := .int (Int32.ofInt x)) (by rw [f1]; exact t1) t2 t3 (by rw [am_fv_len, hlen]; exact hlt) hd (fun H1 locs1 hP1 hD1 hS1 => ?_)
            rw [am_cell_put x ho (by rw [← am_nth_eq]; exact hb2)] at hP1 hD1
            exact k H1 locs1 ls hP1 hD1 hS1 hl
          | true =>
            cases h
            obtain ⟨ty, t1, t2, t3⟩ := am_nar true (x := x) (fun _ => hp)
            obtain ⟨f1, f2⟩ := hfld j true (by rw [← am_nth_eq]; exact hb2)
            intro H locs ls hP hD hS hl
            refine va_put hx hb hts (am_uws hr0) (es_ty T) (es_cl_ok _ _ hr0).2.1 (es_cl_ok _ _ hr0).2.2 hown hK hP hD hS a (am_W_at I ho) hr0 j hlt (hts _ hli) (am_same hts hsa) f2 (ty := ty) (v := .int (Int32.ofInt x)) (by rw [f1]; exact t1) t2 t3 (by rw [am_fv_len, hlen]; exact hlt) hd (fun H1 locs1 hP1 hD1 hS1 => ?_)
            rw [am_cell_put x ho (by rw [← am_nth_eq]; exact hb2)] at hP1 hD1
            exact k H1 locs1 ls hP1 hD1 hS1 hl
        · cases h
        · cases h
      · cases h
    · cases h
  · cases h
theorem am_o_iaload (hB : am_B y d p R s m args c D ca tys A H0 cells slots) (hv : am_v1 y.1.cls y.2.1 y.2.2.1 (pc, .iaload, nx, ax, tg) = true) (h : am_ex y.2.2.2.2.2 (.iaload) nx ax tg lv st I = some (P, pc', lv', st', I')) (hp : am_p P) (k : am_w p l e R s m args below meth c D ad ca A H0 cells slots Q y pc' lv' st' I') : am_w p l e R s m args below meth c D ad ca A H0 cells slots Q y pc lv st I := by
  obtain ⟨hd, hn, hw⟩ := am_v1_sp rfl hv
  obtain ⟨⟨hx, hb, hml, hown⟩, hts, hN, hK, hT, hA, hR, hC, hk⟩ := hB
  try simp only [am_vx, decide_eq_true_eq] at hw
  subst hn
  simp only [am_ex, am_ai] at h
  split at h
  · rename_i i a r
    unfold am_arr at h
    split at h
    · rename_i ty n rs ho
      dsimp only at h
      unfold am_isI at h
      split at h
      · cases h
        obtain ⟨z1, z2⟩ := es_sh_arr ho
        obtain ⟨t0, ht0⟩ := hT a _ ho
        obtain ⟨i1, i2⟩ := am_idx hp z2
        intro H locs ls hP hD hS hl
        refine va_iald hx hb hK hP a t0 (am_W_at I ho) ht0 i1 hd ?_
        rw [i2]
        exact k H locs ls hP hD hS hl
      · cases h
    · cases h
  · cases h
theorem am_o_laload (hB : am_B y d p R s m args c D ca tys A H0 cells slots) (hv : am_v1 y.1.cls y.2.1 y.2.2.1 (pc, .laload, nx, ax, tg) = true) (h : am_ex y.2.2.2.2.2 (.laload) nx ax tg lv st I = some (P, pc', lv', st', I')) (hp : am_p P) (k : am_w p l e R s m args below meth c D ad ca A H0 cells slots Q y pc' lv' st' I') : am_w p l e R s m args below meth c D ad ca A H0 cells slots Q y pc lv st I := by
  obtain ⟨hd, hn, hw⟩ := am_v1_sp rfl hv
  obtain ⟨⟨hx, hb, hml, hown⟩, hts, hN, hK, hT, hA, hR, hC, hk⟩ := hB
  try simp only [am_vx, decide_eq_true_eq] at hw
  subst hn
  simp only [am_ex, am_ai] at h
  split at h
  · rename_i i a r
    unfold am_arr at h
    split at h
    · rename_i ty n rs ho
      dsimp only at h
      unfold am_isL at h
      split at h
      · cases h
        obtain ⟨z1, z2⟩ := es_sh_arr ho
        obtain ⟨t0, ht0⟩ := hT a _ ho
        obtain ⟨i1, i2⟩ := am_idx hp z2
        intro H locs ls hP hD hS hl
        refine va_lald hx hb hK hP a t0 (am_W_at I ho) ht0 i1 hd ?_
        rw [i2]
        exact k H locs ls hP hD hS hl
      · cases h
    · cases h
  · cases h
theorem am_o_baload (hB : am_B y d p R s m args c D ca tys A H0 cells slots) (hv : am_v1 y.1.cls y.2.1 y.2.2.1 (pc, .baload, nx, ax, tg) = true) (h : am_ex y.2.2.2.2.2 (.baload) nx ax tg lv st I = some (P, pc', lv', st', I')) (hp : am_p P) (k : am_w p l e R s m args below meth c D ad ca A H0 cells slots Q y pc' lv' st' I') : am_w p l e R s m args below meth c D ad ca A H0 cells slots Q y pc lv st I := by
  obtain ⟨hd, hn, hw⟩ := am_v1_sp rfl hv
  obtain ⟨⟨hx, hb, hml, hown⟩, hts, hN, hK, hT, hA, hR, hC, hk⟩ := hB
  try simp only [am_vx, decide_eq_true_eq] at hw
  subst hn
  simp only [am_ex, am_ai] at h
  split at h
  · rename_i i a r
    unfold am_arr at h
    split at h
    · rename_i ty n rs ho
      dsimp only at h
      unfold am_isZ at h
      split at h
      · cases h
        obtain ⟨z1, z2⟩ := es_sh_arr ho
        obtain ⟨t0, ht0⟩ := hT a _ ho
        obtain ⟨i1, i2⟩ := am_idx hp z2
        intro H locs ls hP hD hS hl
        refine va_zald hx hb hK hP a t0 (am_W_at I ho) ht0 i1 hd ?_
        rw [i2]
        exact k H locs ls hP hD hS hl
      · cases h
    · cases h
  · cases h
theorem am_o_aaload (hB : am_B y d p R s m args c D ca tys A H0 cells slots) (hv : am_v1 y.1.cls y.2.1 y.2.2.1 (pc, .aaload, nx, ax, tg) = true) (h : am_ex y.2.2.2.2.2 (.aaload) nx ax tg lv st I = some (P, pc', lv', st', I')) (hp : am_p P) (k : am_w p l e R s m args below meth c D ad ca A H0 cells slots Q y pc' lv' st' I') : am_w p l e R s m args below meth c D ad ca A H0 cells slots Q y pc lv st I := by
  obtain ⟨hd, hn, hw⟩ := am_v1_sp rfl hv
  obtain ⟨⟨hx, hb, hml, hown⟩, hts, hN, hK, hT, hA, hR, hC, hk⟩ := hB
  try simp only [am_vx, decide_eq_true_eq] at hw
  subst hn
  simp only [am_ex, am_ai] at h
  split at h
  · rename_i i a r
    unfold am_arr at h
    split at h
    · rename_i ty n rs ho
      dsimp only at h
      unfold am_isA at h
      split at h
      · unfold am_nk at h
        split at h
        · rename_i q hq
          cases h
          obtain ⟨z1, z2⟩ := es_sh_arr ho
          obtain ⟨t0, ht0⟩ := hT a _ ho
          obtain ⟨i1, i2⟩ := am_idx hp z2
          intro H locs ls hP hD hS hl
          have hlt : (Int32.ofInt i).toNatClampNeg < n.toNat := Nat.not_le.mp fun q => i1 (Or.inr q)
          refine W.aald (v := va_rf ((rs[(Int32.ofInt i).toNatClampNeg]?).map ad)) (ty := .array .int) hx hb (hP a _ (am_W_at I ho)) ((hK.2 t0 _ ht0).1 n.toNat (fun j => va_rf ((rs[j]?).map ad))) rfl (fun q => by cases q) (by show ¬ (Int32.ofInt i < 0 ∨ (arrV _ _ _).slots.size ≤ _); rw [arrV_size]; exact i1) (by show (arrV _ _ _).slots[_]? = _; rw [arrV_read _ _ hlt]) rfl rfl hd ?_
          rw [i2, ← am_nth_eq, hq]
          exact k H locs ls hP hD hS hl
        · cases h
      · cases h
    · cases h
  · cases h
theorem am_o_iastore (hB : am_B y d p R s m args c D ca tys A H0 cells slots) (hv : am_v1 y.1.cls y.2.1 y.2.2.1 (pc, .iastore, nx, ax, tg) = true) (h : am_ex y.2.2.2.2.2 (.iastore) nx ax tg lv st I = some (P, pc', lv', st', I')) (hp : am_p P) (k : am_w p l e R s m args below meth c D ad ca A H0 cells slots Q y pc' lv' st' I') : am_w p l e R s m args below meth c D ad ca A H0 cells slots Q y pc lv st I := by
  obtain ⟨hd, hn, hw⟩ := am_v1_sp rfl hv
  obtain ⟨⟨hx, hb, hml, hown⟩, hts, hN, hK, hT, hA, hR, hC, hk⟩ := hB
  try simp only [am_vx, decide_eq_true_eq] at hw
  subst hn
  simp only [am_ex] at h
  split at h
  · rename_i x i a r
    unfold am_arr at h
    split at h
    · rename_i ty n rs ho
      dsimp only at h
      unfold am_isI at h
      split at h
      · cases h
        obtain ⟨z1, z2⟩ := es_sh_arr ho
        obtain ⟨t0, ht0⟩ := hT a _ ho
        obtain ⟨i1, i2⟩ := am_idx hp z2
        intro H locs ls hP hD hS hl
        refine va_iast hx hb hK hP hD hS a t0 (am_W_at I ho) ht0 i1 hd (fun H1 locs1 hP1 hD1 hS1 => ?_)
        rw [i2, am_updI] at hP1 hD1
        refine k H1 locs1 ls ?_ ?_ hS1 hl
        · rw [← am_cell_putA x ho]; exact hP1
        · rw [← am_cell_putA x ho]; exact hD1
      · cases h
    · cases h
  · cases h
theorem am_o_lastore (hB : am_B y d p R s m args c D ca tys A H0 cells slots) (hv : am_v1 y.1.cls y.2.1 y.2.2.1 (pc, .lastore, nx, ax, tg) = true) (h : am_ex y.2.2.2.2.2 (.lastore) nx ax tg lv st I = some (P, pc', lv', st', I')) (hp : am_p P) (k : am_w p l e R s m args below meth c D ad ca A H0 cells slots Q y pc' lv' st' I') : am_w p l e R s m args below meth c D ad ca A H0 cells slots Q y pc lv st I := by
  obtain ⟨hd, hn, hw⟩ := am_v1_sp rfl hv
  obtain ⟨⟨hx, hb, hml, hown⟩, hts, hN, hK, hT, hA, hR, hC, hk⟩ := hB
  try simp only [am_vx, decide_eq_true_eq] at hw
  subst hn
  simp only [am_ex] at h
  split at h
  · rename_i x i a r
    unfold am_arr at h
    split at h
    · rename_i ty n rs ho
      dsimp only at h
      unfold am_isL at h
      split at h
      · cases h
        obtain ⟨z1, z2⟩ := es_sh_arr ho
        obtain ⟨t0, ht0⟩ := hT a _ ho
        obtain ⟨i1, i2⟩ := am_idx hp z2
        intro H locs ls hP hD hS hl
        refine va_last hx hb hK hP hD hS a t0 (am_W_at I ho) ht0 i1 hd (fun H1 locs1 hP1 hD1 hS1 => ?_)
        rw [i2, am_updL] at hP1 hD1
        refine k H1 locs1 ls ?_ ?_ hS1 hl
        · rw [← am_cell_putA x ho]; exact hP1
        · rw [← am_cell_putA x ho]; exact hD1
      · cases h
    · cases h
  · cases h
theorem am_o_bastore (hB : am_B y d p R s m args c D ca tys A H0 cells slots) (hv : am_v1 y.1.cls y.2.1 y.2.2.1 (pc, .bastore, nx, ax, tg) = true) (h : am_ex y.2.2.2.2.2 (.bastore) nx ax tg lv st I = some (P, pc', lv', st', I')) (hp : am_p P) (k : am_w p l e R s m args below meth c D ad ca A H0 cells slots Q y pc' lv' st' I') : am_w p l e R s m args below meth c D ad ca A H0 cells slots Q y pc lv st I := by
  obtain ⟨hd, hn, hw⟩ := am_v1_sp rfl hv
  obtain ⟨⟨hx, hb, hml, hown⟩, hts, hN, hK, hT, hA, hR, hC, hk⟩ := hB
  try simp only [am_vx, decide_eq_true_eq] at hw
  subst hn
  simp only [am_ex] at h
  split at h
  · rename_i x i a r
    unfold am_arr at h
    split at h
    · rename_i ty n rs ho
      dsimp only at h
      unfold am_isZ at h
      split at h
      · cases h
        obtain ⟨z1, z2⟩ := es_sh_arr ho
        obtain ⟨t0, ht0⟩ := hT a _ ho
        obtain ⟨i1, i2⟩ := am_idx hp.1 z2
        intro H locs ls hP hD hS hl
        refine va_zast hx hb hK hP hD hS a t0 (am_W_at I ho) ht0 i1 hd (fun H1 locs1 hP1 hD1 hS1 => ?_)
        have e0 : vp_nar .boolean (Int32.ofInt x) = Int32.ofInt x := by rcases hp.2 with rfl | rfl <;> decide +kernel
        rw [i2, e0, am_updI] at hP1 hD1
        refine k H1 locs1 ls ?_ ?_ hS1 hl
        · rw [← am_cell_putA x ho]; exact hP1
        · rw [← am_cell_putA x ho]; exact hD1
      · cases h
    · cases h
  · cases h
theorem am_o_arraylength (hB : am_B y d p R s m args c D ca tys A H0 cells slots) (hv : am_v1 y.1.cls y.2.1 y.2.2.1 (pc, .arraylength, nx, ax, tg) = true) (h : am_ex y.2.2.2.2.2 (.arraylength) nx ax tg lv st I = some (P, pc', lv', st', I')) (hp : am_p P) (k : am_w p l e R s m args below meth c D ad ca A H0 cells slots Q y pc' lv' st' I') : am_w p l e R s m args below meth c D ad ca A H0 cells slots Q y pc lv st I := by
  obtain ⟨hd, hn, hw⟩ := am_v1_sp rfl hv
  obtain ⟨⟨hx, hb, hml, hown⟩, hts, hN, hK, hT, hA, hR, hC, hk⟩ := hB
  try simp only [am_vx, decide_eq_true_eq] at hw
  subst hn
  simp only [am_ex] at h
  split at h
  · rename_i a r
    unfold am_arr at h
    split at h
    · rename_i ty n rs ho
      dsimp only at h
      cases h
      obtain ⟨z1, z2⟩ := es_sh_arr ho
      obtain ⟨t0, ht0⟩ := hT a _ ho
      intro H locs ls hP hD hS hl
      refine va_alen hx hb hK hP a t0 (am_W_at I ho) ht0 (v := Int32.ofInt n) ?_ hd (k H locs ls hP hD hS hl)
      show Int32.ofNat n.toNat = Int32.ofInt n
      rw [← Int32.ofInt_eq_ofNat, Int.toNat_of_nonneg z1]
    · cases h
  · cases h
theorem am_ex_ok {ins : Instr} (hB : am_B y d p R s m args c D ca tys A H0 cells slots) (hv : am_v1 y.1.cls y.2.1 y.2.2.1 (pc, ins, nx, ax, tg) = true) (h : am_ex y.2.2.2.2.2 ins nx ax tg lv st I = some (P, pc', lv', st', I')) (hp : am_p P) (k : am_w p l e R s m args below meth c D ad ca A H0 cells slots Q y pc' lv' st' I') : am_w p l e R s m args below meth c D ad ca A H0 cells slots Q y pc lv st I := by
  cases ins with
  | iconst n => exact am_o_iconst hB hv h hp k
  | bipush n => exact am_o_bipush hB hv h hp k
  | sipush n => exact am_o_sipush hB hv h hp k
  | ldc n => exact am_o_ldc hB hv h hp k
  | ldc_w n => exact am_o_ldc_w hB hv h hp k
  | lconst n => exact am_o_lconst hB hv h hp k
  | ldc2_w n => exact am_o_ldc2 hB hv h hp k
  | iload n => exact am_o_iload hB hv h hp k
  | iload_n n => exact am_o_iload_n hB hv h hp k
  | lload n => exact am_o_lload hB hv h hp k
  | lload_n n => exact am_o_lload_n hB hv h hp k
  | aload n => exact am_o_aload hB hv h hp k
  | aload_n n => exact am_o_aload_n hB hv h hp k
  | istore n => exact am_o_istore hB hv h hp k
  | istore_n n => exact am_o_istore_n hB hv h hp k
  | lstore n => exact am_o_lstore hB hv h hp k
  | lstore_n n => exact am_o_lstore_n hB hv h hp k
  | iinc n j => exact am_o_iinc hB hv h hp k
  | iadd  => exact am_o_iadd hB hv h hp k
  | isub  => exact am_o_isub hB hv h hp k
  | imul  => exact am_o_imul hB hv h hp k
  | idiv  => exact am_o_idiv hB hv h hp k
  | irem  => exact am_o_irem hB hv h hp k
  | ineg  => exact am_o_ineg hB hv h hp k
  | iand  => exact am_o_iand hB hv h hp k
  | ior  => exact am_o_ior hB hv h hp k
  | ishl  => exact am_o_ishl hB hv h hp k
  | ishr  => exact am_o_ishr hB hv h hp k
  | iushr  => exact am_o_iushr hB hv h hp k
  | ladd  => exact am_o_ladd hB hv h hp k
  | lsub  => exact am_o_lsub hB hv h hp k
  | i2l  => exact am_o_i2l hB hv h hp k
  | l2i  => exact am_o_l2i hB hv h hp k
  | dup  => exact am_o_dup hB hv h hp k
  | dup2  => exact am_o_dup2 hB hv h hp k
  | goto n => exact am_o_goto hB hv h hp k
  | getfield n => exact am_o_getfield hB hv h hp k
  | putfield n => exact am_o_putfield hB hv h hp k
  | iaload  => exact am_o_iaload hB hv h hp k
  | laload  => exact am_o_laload hB hv h hp k
  | baload  => exact am_o_baload hB hv h hp k
  | aaload  => exact am_o_aaload hB hv h hp k
  | iastore  => exact am_o_iastore hB hv h hp k
  | bastore  => exact am_o_bastore hB hv h hp k
  | lastore  => exact am_o_lastore hB hv h hp k
  | arraylength  => exact am_o_arraylength hB hv h hp k
  | _ => simp only [am_ex, reduceCtorEq] at h
theorem am_step_ok (hB : am_B y d p R s m args c D ca tys A H0 cells slots) (h : am_step y pc lv st I = some (P, pc', lv', st', I')) (hp : am_p P) (k : am_w p l e R s m args below meth c D ad ca A H0 cells slots Q y pc' lv' st' I') : am_w p l e R s m args below meth c D ad ca A H0 cells slots Q y pc lv st I := by
  unfold am_step at h
  split at h
  · cases h
  · rename_i ins nx1 ax1 tg1 hq
    exact am_ex_ok hB (am_chk_1 hB.2.2.2.2.2.2.2.2 (am_at_mem hq)) h hp k
theorem am_run_ok (hB : am_B y d p R s m args c D ca tys A H0 cells slots) (ss : List Nat) : ∀ (n : Nat) (pc : Nat) (lv : List (Nat × am_v)) (st : List am_v) (I : am_I) (P : Option Prop), am_run n ss y pc lv st I = some (P, pc', lv', st', I') → am_p P → am_w p l e R s m args below meth c D ad ca A H0 cells slots Q y pc' lv' st' I' → am_w p l e R s m args below meth c D ad ca A H0 cells slots Q y pc lv st I := by
  intro n
  induction n with
  | zero =>
    intro pc lv st I P h hp k
    unfold am_run at h
    cases h
    exact k
  | succ n ih =>
    intro pc lv st I P h hp k
    unfold am_run at h
    split at h
    · cases h
      exact k
    · rename_i P1 pc1 lv1 st1 I1 h1
      split at h
      · cases h
        exact am_step_ok hB h1 hp k
      · split at h
        · cases h
        · rename_i Q1 c1 h2
          obtain ⟨pc2, lv2, st2, I2⟩ := c1
          split at h
          · cases h
            exact am_step_ok hB h1 trivial (ih _ _ _ _ _ h2 hp k)
          · split at h
            · cases h
              exact am_step_ok hB h1 hp (ih _ _ _ _ _ h2 trivial k)
            · cases h
              exact am_step_ok hB h1 hp.1 (ih _ _ _ _ _ h2 hp.2 k)
end AMH
