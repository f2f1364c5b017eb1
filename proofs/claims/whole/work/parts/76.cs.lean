def va_AOA (t : FieldType) (U : State) : Prop := (Cond.arrayOver (.array t)).before #[] U = true
theorem va_AOA.use {t : FieldType} {A : Array Value} {U : State} (h : va_AOA t U) : (Cond.arrayOver (.array t)).before A U = true := h
def vr_up {α : Type} (f : Nat → α) (l : List Nat) (v : α) : Nat → α := fun a => if a ∈ l then v else f a
theorem vr_up_in {α : Type} {f : Nat → α} {l : List Nat} {v : α} {a : Nat} (h : a ∈ l) : vr_up f l v a = v := if_pos h
theorem vr_up_ne {α : Type} {f : Nat → α} {l : List Nat} {v : α} {a : Nat} (h : a ∉ l) : vr_up f l v a = f a := if_neg h
theorem vr_rows {L l : List Nat} {f : Nat → va_E} {e : va_E} (h : ∀ a, a ∈ l → a ∉ L) : va_pl L f ++ l.map (fun a => (a, e)) = va_pl (L ++ l) (vr_up f l e) := by
  unfold va_pl
  rw [List.map_append]
  congr 1
  · apply List.map_congr_left
    intro a ha
    rw [vr_up_ne (fun q => h a q ha)]
  · apply List.map_congr_left
    intro a ha
    rw [vr_up_in ha]
theorem vr_lay {X rows : va_W} {x : Nat × va_E} {pl : va_W} {D : va_G} {cl : List vw_C} {H : Heap} (hP : va_P D cl (((X ++ pl) ++ [x]) ++ rows) H) : va_P D cl ((X ++ [x]) ++ (pl ++ rows)) H := by
  rw [List.append_assoc (X ++ pl)] at hP
  have h := va_P.swap hP
  rw [← List.append_assoc X] at h
  have h2 := va_P.swap h
  rw [List.append_assoc (X ++ [x])] at h2
  exact h2
theorem vr_layD {X rows : va_W} {x : Nat × va_E} {pl : va_W} {A : Nat → Prop} (hD : va_D A (((X ++ pl) ++ [x]) ++ rows)) : va_D A ((X ++ [x]) ++ (pl ++ rows)) := by
  rw [List.append_assoc (X ++ pl)] at hD
  have h := va_D.swap hD
  rw [← List.append_assoc X] at h
  have h2 := va_D.swap h
  rw [List.append_assoc (X ++ [x])] at h2
  exact h2
theorem vr_outer (c : ClassId) (N h0 : Nat) : ∀ i : Nat, Jvm.Free.Multi.outerC c N h0 i = arrV c N (fun j => va_rf (if j < i then some (h0 + 1 + j) else none))
  | 0 => by
    show ({ cls := c, slots := Array.replicate N .null, vm := .none } : Cell) = _
    rw [arrV_new]
    refine congrArg (arrV c N) (funext fun j => ?_)
    simp [va_rf]
  | i + 1 => by
    show (Jvm.Free.Multi.outerC c N h0 i).setSlot i (.ref (h0 + 1 + i)) = _
    rw [vr_outer c N h0 i, arrV_store]
    refine congrArg (arrV c N) (funext fun j => ?_)
    by_cases e : j = i
    · subst e
      simp [updV, va_rf]
    · by_cases h : j < i
      · simp [updV, e, h, Nat.lt_succ_of_lt h]
      · simp [updV, e, h, show ¬ j < i + 1 by omega]
section VGM
variable {p : Program} {l : Launch} {e : Env} {R : Room} {s : State} {m : MethodId} {args : Array Value} {below : List Frame} {meth : Method} {c : Code} {H : Heap} {locs : List Loc} {cells slots : Nat} {Q : State → Prop}
variable {cc : ByteArray} {pc : Nat} {ls : Array Slot} {rest : List Value} {D : va_G} {cl : List vw_C} {A : Nat → Prop} {a : Nat} {tys : List (ClassId × FieldType)} {ws : va_W} {H0 : Heap}
theorem va_mna {X : va_W} {L : List Nat} {f : Nat → va_E} {cc : ByteArray} (hexec : p.tables.exec = Jvm.exec) (hb : c.code = cc) {own : String} {index : Nat} {ty : FieldType} {cy : ClassId} (hown : s.vm.findClass own = some m.cls) (hclink : (Cond.classLink own index ("[" ++ (FieldType.array ty).toString)).before args s = true) (hover : va_AOA ty s) (harr : (Cond.arrayClass ty).before args s = true) (hcy : s.vm.findClass (FieldType.array ty).toString = some cy)
    (hK : va_K D cl tys s) (hP : va_P D cl (X ++ va_pl L f) H) (hD : va_D A (X ++ va_pl L f)) (hS : va_S A H0 H locs) (hA : ∀ q, H0.size ≤ q → A q) {n k : Int32} {N' K' : Nat} {z : vp_A} (hn : ¬ n < 0) (hk : ¬ k < 0) (hN : n.toNatClampNeg = N') (hM : k.toNatClampNeg = K')
    (hb1 : N' * 4 ≤ 536870912) (hb2 : K' * componentBytes ty ≤ 536870912) (hb3 : K' ≤ 536870912) (hdf : fits ty (defaultValue ty) = true) (hdd : (defaultValue ty).isDefault = true) (hcells : cells + (1 + N') ≤ R.cells) (hslots : slots + (N' + N' * K') ≤ R.slots) (hz : ∀ c : ClassId, Jvm.Free.Multi.innerC c K' (defaultValue ty) = vp_cell c z) (hdg : decode cc pc = .ok (.multianewarray index 2, 4))
    (kk : ∀ (q : Nat) (r : Nat → Nat) (cA : ClassId) (H1 : Heap), (∀ i j : Nat, i < N' → j < N' → r i = r j → i = j) → (∀ i : Nat, i < N' → r i ∉ L) → va_K D cl (tys ++ [(cA, .array ty)]) s →
      va_P D cl ((X ++ [(q, .inl (cA, N', .inr (.inr (.inr (.inr (fun i => if i < N' then some (r i) else none))))))]) ++ va_pl (L ++ (List.range N').map r) (vr_up f ((List.range N').map r) (.inl (cy, z)))) H1 → va_D A ((X ++ [(q, .inl (cA, N', .inr (.inr (.inr (.inr (fun i => if i < N' then some (r i) else none))))))]) ++ va_pl (L ++ (List.range N').map r) (vr_up f ((List.range N').map r) (.inl (cy, z)))) → va_S A H0 H1 locs →
      W p l e R s m args below meth c H1 locs (cells + 1 + N') (slots + N' + N' * K') Q (F0 m (pc + 4) ls (.ref q :: rest))) : W p l e R s m args below meth c H locs cells slots Q (F0 m pc ls (.int k :: .int n :: rest)) := by
  subst hN
  subst hM
  intro T hT Xs
  obtain ⟨vm₁, cA, comp, -, fA, fC, hO, -, X', step⟩ := Xs.multianewarray2F hexec hown hclink (va_AOA.use hover) harr (g := F0 m pc ls (.int k :: .int n :: rest)) rfl (by rw [hb]; exact hdg) rfl hn hk hb1 hb2 hb3 hdf hdd hcells hslots
  have ec : some cy = some comp := hcy.symm.trans fC
  cases ec
  generalize hF : Jvm.Free.Multi.fill (T.setVm vm₁) cA cy n.toNatClampNeg k.toNatClampNeg (defaultValue ty) n.toNatClampNeg = F at X' step
  have hTh : (T.setVm vm₁).heap = H := hT
  obtain ⟨f1, f2, -, -⟩ := Jvm.Free.Multi.fill_facts (T.setVm vm₁) cA cy n.toNatClampNeg k.toNatClampNeg (defaultValue ty) n.toNatClampNeg
  rw [hF, hTh] at f1 f2
  have hold : ∀ x : Nat, x < H.size → F.heap[x]? = H[x]? := fun x hx => by
    have := Jvm.Free.Multi.fill_old (T.setVm vm₁) cA cy n.toNatClampNeg k.toNatClampNeg (defaultValue ty) (a := x) (by rw [hTh]; exact hx) n.toNatClampNeg
    rw [hF, hTh] at this
    exact this
  have hrow : ∀ j : Nat, j < n.toNatClampNeg → F.heap[H.size + 1 + j]? = some (vp_cell cy z) := fun j hj => by
    have := Jvm.Free.Multi.fill_inner (T.setVm vm₁) cA cy n.toNatClampNeg k.toNatClampNeg (defaultValue ty) n.toNatClampNeg j hj
    rw [hF, hTh, hz] at this
    exact this
  have hout : Jvm.Free.Multi.outerC cA n.toNatClampNeg H.size n.toNatClampNeg = vp_cell cA (n.toNatClampNeg, .inr (.inr (.inr (.inr (fun i => if i < n.toNatClampNeg then some (H.size + 1 + i) else none))))) := by
    rw [vp_cell_q]
    exact vr_outer cA n.toNatClampNeg H.size n.toNatClampNeg
  rw [hout] at f2
  have hlt : ∀ a, a ∈ L → a < H.size := fun a ha => by
    obtain ⟨k9, hk9⟩ := va_pl_get (X := X) (f := f) ha
    exact (hP k9 _ hk9).lt
  have hnl : ∀ i : Nat, i < n.toNatClampNeg → H.size + 1 + i ∉ L := fun i _ h => by
    have := hlt _ h
    omega
  have hnm : ∀ a, a ∈ (List.range n.toNatClampNeg).map (fun i => H.size + 1 + i) → a ∉ L := fun a ha h => by
    obtain ⟨i, -, rfl⟩ := List.mem_map.mp ha
    have := hlt _ h
    omega
  have hP0 : va_P D cl (X ++ va_pl L f) F.heap := hP.kept (fun k9 x hx => hold x.1 ((hP k9 x hx).lt))
  have hP1 : va_P D cl ((X ++ va_pl L f) ++ [(H.size, .inl (cA, n.toNatClampNeg, .inr (.inr (.inr (.inr (fun i => if i < n.toNatClampNeg then some (H.size + 1 + i) else none))))))]) F.heap := hP0.app (fun k9 x hx => by
    have h0 : k9 < 1 := (List.getElem?_eq_some_iff.mp hx).1
    rw [show k9 = 0 by omega] at hx
    cases hx
    exact f2)
  have hP2 : va_P D cl (((X ++ va_pl L f) ++ [(H.size, .inl (cA, n.toNatClampNeg, .inr (.inr (.inr (.inr (fun i => if i < n.toNatClampNeg then some (H.size + 1 + i) else none))))))]) ++ ((List.range n.toNatClampNeg).map (fun i => H.size + 1 + i)).map (fun a => (a, .inl (cy, z)))) F.heap := hP1.app (fun k9 x hx => by
    obtain ⟨a, ha, rfl⟩ := List.mem_map.mp (List.mem_of_getElem? hx)
    obtain ⟨i, hi, rfl⟩ := List.mem_map.mp ha
    exact hrow i (List.mem_range.mp hi))
  have hD2 : va_D A (((X ++ va_pl L f) ++ [(H.size, .inl (cA, n.toNatClampNeg, .inr (.inr (.inr (.inr (fun i => if i < n.toNatClampNeg then some (H.size + 1 + i) else none))))))]) ++ ((List.range n.toNatClampNeg).map (fun i => H.size + 1 + i)).map (fun a => (a, .inl (cy, z)))) := by
    have hD1 := hD.push (e := .inl (cA, n.toNatClampNeg, .inr (.inr (.inr (.inr (fun i => if i < n.toNatClampNeg then some (H.size + 1 + i) else none)))))) hP rfl (hA _ hS.1)
    generalize hW1 : (X ++ va_pl L f) ++ [(H.size, .inl (cA, n.toNatClampNeg, .inr (.inr (.inr (.inr (fun i => if i < n.toNatClampNeg then some (H.size + 1 + i) else none))))))] = W1 at hD1 hP1 ⊢
    have hle : ∀ (k9 : Nat) (x : Nat × va_E), W1[k9]? = some x → x.1 ≤ H.size := fun k9 x hx => by
      rw [← hW1] at hx
      by_cases hl : k9 < (X ++ va_pl L f).length
      · rw [List.getElem?_append_left hl] at hx
        exact Nat.le_of_lt ((hP k9 x hx).lt)
      · rw [List.getElem?_append_right (by omega)] at hx
        have h0 : k9 - (X ++ va_pl L f).length < 1 := (List.getElem?_eq_some_iff.mp hx).1
        rw [show k9 - (X ++ va_pl L f).length = 0 by omega] at hx
        cases hx
        exact Nat.le_refl _
    have hr : ∀ (k9 : Nat) (x : Nat × va_E), (((List.range n.toNatClampNeg).map (fun i => H.size + 1 + i)).map (fun a => ((a, .inl (cy, z)) : Nat × va_E)))[k9]? = some x → x.1 = H.size + 1 + k9 := fun k9 x hx => by
      rw [List.getElem?_map, List.getElem?_map] at hx
      by_cases h9 : k9 < n.toNatClampNeg
      · rw [List.getElem?_range h9] at hx
        cases hx
        rfl
      · have hn0 : (List.range n.toNatClampNeg)[k9]? = none := List.getElem?_eq_none (by rw [List.length_range]; omega)
        rw [hn0] at hx
        cases hx
    refine ⟨fun i j x y hi hj hxy => ?_, fun k9 x hx => ?_⟩
    · by_cases h1 : i < W1.length <;> by_cases h2 : j < W1.length
      · rw [List.getElem?_append_left h1] at hi
        rw [List.getElem?_append_left h2] at hj
        exact hD1.1 i j x y hi hj hxy
      · rw [List.getElem?_append_left h1] at hi
        rw [List.getElem?_append_right (by omega)] at hj
        have := hle _ _ hi
        have := hr _ _ hj
        omega
      · rw [List.getElem?_append_right (by omega)] at hi
        rw [List.getElem?_append_left h2] at hj
        have := hle _ _ hj
        have := hr _ _ hi
        omega
      · rw [List.getElem?_append_right (by omega)] at hi hj
        have := hr _ _ hi
        have := hr _ _ hj
        omega
    · by_cases h1 : k9 < W1.length
      · rw [List.getElem?_append_left h1] at hx
        exact hD1.2 k9 x hx
      · rw [List.getElem?_append_right (by omega)] at hx
        have := hr _ _ hx
        exact hA _ (by have := hS.1; omega)
  have hAr : ArrOfT s cA (.array ty) := fun N9 z9 => by
    obtain ⟨-, k9, hk9, cm9, hkk9⟩ := (hO 0 0 0).1
    exact ⟨(fun q hq => by cases hq), k9, hk9, cm9, hkk9⟩
  have hK2 : va_K D cl (tys ++ [(cA, .array ty)]) s := ⟨hK.1, fun k9 x hx => by
    by_cases hl : k9 < tys.length
    · rw [List.getElem?_append_left hl] at hx
      exact hK.2 k9 x hx
    · rw [List.getElem?_append_right (by omega)] at hx
      have h0 : k9 - tys.length < 1 := (List.getElem?_eq_some_iff.mp hx).1
      rw [show k9 - tys.length = 0 by omega] at hx
      cases hx
      exact ⟨hAr, fA⟩⟩
  obtain ⟨t, a1, b1⟩ := kk H.size (fun i => H.size + 1 + i) cA F.heap (fun i j _ _ h => by have h9 : H.size + 1 + i = H.size + 1 + j := h; omega) hnl hK2 (by rw [← vr_rows hnm]; exact vr_lay hP2) (by rw [← vr_rows hnm]; exact vr_layD hD2) ⟨by rw [f1]; have := hS.1; omega, fun x h1 h2 => (hold x (Nat.lt_of_lt_of_le h1 hS.1)).trans (hS.2.1 x h1 h2), hS.2.2⟩ F rfl X'
  refine ⟨t, step t ?_, b1⟩
  have e : T.heap.size = H.size := by rw [hT]
  rw [e]
  exact a1
end VGM
def es_AO (U : State) : Prop := va_AOA .int U
theorem es_AO.moved {u U : State} (hvm : u.vm.Alike U.vm) (h : es_AO u) : es_AO U := by
  have h1 := Cond.arrayOver_setVmC (args := #[]) hvm (.array .int)
  have h2 : (Cond.arrayOver (.array .int)).before #[] U = (Cond.arrayOver (.array .int)).before #[] (u.setVm U.vm) := rfl
  unfold es_AO va_AOA at h ⊢
  rw [h2, h1]
  exact h
def cs_P (D : va_G) (h0 : Nat) (e0 : va_E) (As : List Value) (tys0 : List (ClassId × FieldType)) (sz : Nat) : Array Value → State → Prop := va_Pc (.ref h0 :: As) (fun U => U.heap.size = sz ∧ va_P D es_cl [(h0, e0)] U.heap ∧ va_K D es_cl tys0 U ∧ es_N U ∧ es_AO U ∧ va_D (fun _ => True) [(h0, e0)])
def cs_Q (D : va_G) (h0 : Nat) (e0 : va_E) (w1 : (Nat → Nat) → (Nat → ClassId) → va_W) (t1 : (Nat → ClassId) → List (ClassId × FieldType)) (sz : Nat) : Array Value → State → Outcome → State → Prop := va_Qv (fun _ : (Nat → Nat) × (Nat → ClassId) => True) (fun u t => va_P D es_cl (w1 u.1 u.2) t.heap ∧ va_K D es_cl (t1 u.2) t ∧ va_D (va_A [(h0, e0)] sz) (w1 u.1 u.2)) (va_A [(h0, e0)] sz)
def cs_C (l : Launch) (D : va_G) (y : MethodName) (bs : ByteArray) (mL : Nat) (rm : Room) (h0 : Nat) (e0 : va_E) (As : List Value) (tys0 : List (ClassId × FieldType)) (w1 : (Nat → Nat) → (Nat → ClassId) → va_W) (t1 : (Nat → ClassId) → List (ClassId × FieldType)) : Prop := ∀ sz : Nat, Met l y (.code y bs mL none :: es_gt) rm (cs_P D h0 e0 As tys0 sz) (cs_Q D h0 e0 w1 t1 sz) rm.cells rm.slots (va_A [(h0, e0)] sz)
def cs_E (nL : Nat) (cc : ByteArray) (own : String) (p : Program) (s : State) (m : MethodId) (args : Array Value) (c : Code) (A : Nat → Prop) (H0 : Heap) : Prop := (p.tables.exec = Jvm.exec ∧ c.code = cc ∧ c.maxLocals = nL ∧ s.vm.findClass own = some m.cls) ∧ (∀ w ∈ es_gt, w.before args s = true) ∧ es_N s ∧ es_AO s ∧ (∀ q, H0.size ≤ q → A q)
def cs_w (p : Program) (l : Launch) (e : Env) (R : Room) (s : State) (m : MethodId) (args : Array Value) (below : List Frame) (meth : Method) (c : Code) (D : va_G) (A : Nat → Prop) (H0 : Heap) (Q : State → Prop) (nL : Nat) (cells slots : Nat) (tys : List (ClassId × FieldType)) (ws : va_W) (pc : Nat) (lv : List (Nat × Value)) (st : List Value) : Prop :=
  ∀ (H : Heap) (locs : List Loc) (ls : Array Slot), va_K D es_cl tys s → va_P D es_cl ws H → va_D A ws → va_S A H0 H locs → lv_has ls nL lv → W p l e R s m args below meth c H locs cells slots Q (F0 m pc ls st)
section CSM
variable {p : Program} {l : Launch} {e : Env} {R : Room} {s : State} {m : MethodId} {args : Array Value} {below : List Frame} {meth : Method} {c : Code} {D : va_G} {A : Nat → Prop} {H0 : Heap} {Q : State → Prop} {nL cells slots : Nat} {tys : List (ClassId × FieldType)} {ws tl : va_W} {pc : Nat} {lv : List (Nat × Value)} {st : List Value} {cc : ByteArray} {own : String}
theorem cs_al {x : Nat} {k : Fin 4} (hE : cs_E nL cc own p s m args c A H0) (j : Nat) (hd : decode cc pc = .ok (.aload_n k, 1)) (hj : lv[j]? = some ((k : Nat), .ref x)) (kk : cs_w p l e R s m args below meth c D A H0 Q nL cells slots tys ws (pc + 1) lv (.ref x :: st)) : cs_w p l e R s m args below meth c D A H0 Q nL cells slots tys ws pc lv st := by
  intro H locs ls hK hP hD hS hl
  exact lv_aload_n hE.1.1 hE.1.2.1 hd rfl (lv_at hl j hj) (kk H locs ls hK hP hD hS hl)
theorem cs_nf {ws' : va_W} {tys' : List (ClassId × FieldType)} (h1 : ws = ws') (h2 : tys = tys') (kk : cs_w p l e R s m args below meth c D A H0 Q nL cells slots tys' ws' pc lv st) : cs_w p l e R s m args below meth c D A H0 Q nL cells slots tys ws pc lv st := by
  subst h1
  subst h2
  exact kk
theorem cs_ic {n : Int} (hE : cs_E nL cc own p s m args c A H0) (hd : decode cc pc = .ok (.iconst n, 1)) (kk : cs_w p l e R s m args below meth c D A H0 Q nL cells slots tys ws (pc + 1) lv (.int (Int32.ofInt n) :: st)) : cs_w p l e R s m args below meth c D A H0 Q nL cells slots tys ws pc lv st := by
  intro H locs ls hK hP hD hS hl
  exact lv_iconst hE.1.1 hE.1.2.1 hd rfl (kk H locs ls hK hP hD hS hl)
theorem cs_bp {n : Int} (hE : cs_E nL cc own p s m args c A H0) (hd : decode cc pc = .ok (.bipush n, 2)) (hv : (Int8.ofInt n).toInt32 = Int32.ofInt n) (kk : cs_w p l e R s m args below meth c D A H0 Q nL cells slots tys ws (pc + 2) lv (.int (Int32.ofInt n) :: st)) : cs_w p l e R s m args below meth c D A H0 Q nL cells slots tys ws pc lv st := by
  intro H locs ls hK hP hD hS hl
  exact lv_bipush hE.1.1 hE.1.2.1 hd hv (kk H locs ls hK hP hD hS hl)
theorem cs_sp {n : Int} (hE : cs_E nL cc own p s m args c A H0) (hd : decode cc pc = .ok (.sipush n, 3)) (hv : (Int16.ofInt n).toInt32 = Int32.ofInt n) (kk : cs_w p l e R s m args below meth c D A H0 Q nL cells slots tys ws (pc + 3) lv (.int (Int32.ofInt n) :: st)) : cs_w p l e R s m args below meth c D A H0 Q nL cells slots tys ws pc lv st := by
  intro H locs ls hK hP hD hS hl
  exact lv_sipush hE.1.1 hE.1.2.1 hd hv (kk H locs ls hK hP hD hS hl)
theorem cs_lc {i : Nat} {n : Int} (hE : cs_E nL cc own p s m args c A H0) (hw : Jvm.Cond.constant own i (Int32.ofInt n) ∈ es_gt) (hd : decode cc pc = .ok (.ldc i, 2)) (kk : cs_w p l e R s m args below meth c D A H0 Q nL cells slots tys ws (pc + 2) lv (.int (Int32.ofInt n) :: st)) : cs_w p l e R s m args below meth c D A H0 Q nL cells slots tys ws pc lv st := by
  intro H locs ls hK hP hD hS hl
  exact lv_ldc hE.1.1 hE.1.2.1 hE.1.2.2.2 (hE.2.1 _ hw) hd (kk H locs ls hK hP hD hS hl)
theorem cs_dp {x : Nat} (hE : cs_E nL cc own p s m args c A H0) (hd : decode cc pc = .ok (.dup, 1)) (kk : cs_w p l e R s m args below meth c D A H0 Q nL cells slots tys ws (pc + 1) lv (.ref x :: .ref x :: st)) : cs_w p l e R s m args below meth c D A H0 Q nL cells slots tys ws pc lv (.ref x :: st) := by
  intro H locs ls hK hP hD hS hl
  exact lv_dup hE.1.1 hE.1.2.1 hd rfl (kk H locs ls hK hP hD hS hl)
theorem cs_oi {x i : Nat} (hE : cs_E nL cc own p s m args c A H0) (h1 : Jvm.Cond.methodLink own i Lib.objectInit ∈ es_gt) (h2 : Jvm.Cond.instanceMethod Lib.objectInit ∈ es_gt) (h3 : Jvm.Cond.code Lib.objectInit ⟨#[0xb1]⟩ 1 none ∈ es_gt) (hd : decode cc pc = .ok (.invokespecial i, 3)) (hf : 1 ≤ R.frames) (hl : 12 ≤ R.locals) (kk : cs_w p l e R s m args below meth c D A H0 Q nL cells slots tys ws (pc + 3) lv []) : cs_w p l e R s m args below meth c D A H0 Q nL cells slots tys ws pc lv [.ref x] := by
  intro H locs ls hK hP hD hS hls
  refine W.objInit hE.1.1 hE.1.2.1 hE.1.2.2.2 (hE.2.1 _ h1) (hE.2.1 _ h2) (hE.2.1 _ h3) rfl (by rw [hE.1.2.2.1]; exact hls.1) rfl hd hf hl ?_
  exact W.eq (g2 := F0 m (pc + 3) ls []) rfl (kk H locs ls hK hP hD hS hls)
theorem cs_na {atype : ArrayType} {ty : FieldType} {n : Int} {a0 : vp_A} (N' : Nat) (hE : cs_E nL cc own p s m args c A H0) (hw : Jvm.Cond.arrayClass (newarray.typeOf atype) ∈ es_gt) (hty : newarray.typeOf atype = ty) (ha : ∀ cA : ClassId, vp_cell cA a0 = arrV cA N' (fun _ => defaultValue ty)) (hn : ¬ Int32.ofInt n < 0) (hN : (Int32.ofInt n).toNatClampNeg = N') (hbytes : N' * componentBytes ty ≤ 536870912) (hcells : cells + 1 ≤ R.cells) (hslots : slots + N' ≤ R.slots) (hd : decode cc pc = .ok (.newarray atype, 2))
    (kk : ∀ (q : Nat) (cA : ClassId), cs_w p l e R s m args below meth c D A H0 Q nL (cells + 1) (slots + N') (tys ++ [(cA, ty)]) (ws ++ [(q, .inl (cA, a0))]) (pc + 2) lv (.ref q :: st)) : cs_w p l e R s m args below meth c D A H0 Q nL cells slots tys ws pc lv (.int (Int32.ofInt n) :: st) := by
  intro H locs ls hK hP hD hS hls
  exact va_newa hE.1.1 hE.1.2.1 (hE.2.1 _ hw) hty hK hP hD hS hE.2.2.2.2 ha hn hN hbytes hcells hslots hd (fun q cA H1 k1 k2 k3 k4 => kk q cA H1 locs ls k1 k2 k3 k4 hls)
theorem cs_pf {C : String} {T : u_T} {N ci i a : Nat} {fs : List Value} {v : Value} {ty : FieldType} (k : Nat) (fs' : List Value) (hE : cs_E nL cc own p s m args c A H0) (hin : meth.name = "<init>") (hc : es_cl[ci]? = some (C, T, N)) (hk : k < N) (hw : Jvm.Cond.fieldLink own i (T k).1 (T k).2.1 (T k).2.2.1 ∈ es_gt) (hfin : (T k).2.2.2 = true) (hdecl : (T k).1 = own) (hd0 : parseFieldDescriptor (T k).2.2.1 = some ty) (hnw : narrow ty v = v) (hfit : fits ty v = true) (hl : k < fs.length) (hfs : fs.set k v = fs') (hd : decode cc pc = .ok (.putfield i, 3))
    (kk : cs_w p l e R s m args below meth c D A H0 Q nL cells slots tys ((a, .inr (ci, fs')) :: tl) (pc + 3) lv st) : cs_w p l e R s m args below meth c D A H0 Q nL cells slots tys ((a, .inr (ci, fs)) :: tl) pc lv (v :: .ref a :: st) := by
  intro H locs ls hK hP hD hS hls
  subst hfs
  obtain ⟨o1, o2, o3⟩ := es_cl_ok ci _ hc
  exact va_putF hE.1.1 hE.1.2.1 hE.2.1 (am_uws hc) (es_ty T) o2 o3 hE.1.2.2.2 hK hP hD hS 0 rfl hc k hk (hE.2.1 _ hw) (fun _ h => h) hfin hin hdecl hd0 hnw hfit hl hd (fun H1 locs1 k1 k2 k3 => kk H1 locs1 ls hK k1 k2 k3 hls)
theorem cs_pn {C : String} {T : u_T} {N ci i a : Nat} {fs : List Value} {v : Value} {ty : FieldType} (k : Nat) (fs' : List Value) (hE : cs_E nL cc own p s m args c A H0) (hc : es_cl[ci]? = some (C, T, N)) (hk : k < N) (hw : Jvm.Cond.fieldLink own i (T k).1 (T k).2.1 (T k).2.2.1 ∈ es_gt) (hfin : (T k).2.2.2 = false) (hd0 : parseFieldDescriptor (T k).2.2.1 = some ty) (hnw : narrow ty v = v) (hfit : fits ty v = true) (hl : k < fs.length) (hfs : fs.set k v = fs') (hd : decode cc pc = .ok (.putfield i, 3))
    (kk : cs_w p l e R s m args below meth c D A H0 Q nL cells slots tys ((a, .inr (ci, fs')) :: tl) (pc + 3) lv st) : cs_w p l e R s m args below meth c D A H0 Q nL cells slots tys ((a, .inr (ci, fs)) :: tl) pc lv (v :: .ref a :: st) := by
  intro H locs ls hK hP hD hS hls
  subst hfs
  obtain ⟨o1, o2, o3⟩ := es_cl_ok ci _ hc
  exact va_put hE.1.1 hE.1.2.1 hE.2.1 (am_uws hc) (es_ty T) o2 o3 hE.1.2.2.2 hK hP hD hS 0 rfl hc k hk (hE.2.1 _ hw) (fun _ h => h) hfin hd0 hnw hfit hl hd (fun H1 locs1 k1 k2 k3 => kk H1 locs1 ls hK k1 k2 k3 hls)
theorem cs_gf {C : String} {T : u_T} {N ci i a : Nat} {fs : List Value} {v : Value} (k : Nat) (hE : cs_E nL cc own p s m args c A H0) (hc : es_cl[ci]? = some (C, T, N)) (hk : k < N) (hw : Jvm.Cond.fieldLink own i (T k).1 (T k).2.1 (T k).2.2.1 ∈ es_gt) (hv : fs[k]? = some v) (hd : decode cc pc = .ok (.getfield i, 3))
    (kk : cs_w p l e R s m args below meth c D A H0 Q nL cells slots tys ((a, .inr (ci, fs)) :: tl) (pc + 3) lv (v :: st)) : cs_w p l e R s m args below meth c D A H0 Q nL cells slots tys ((a, .inr (ci, fs)) :: tl) pc lv (.ref a :: st) := by
  intro H locs ls hK hP hD hS hls
  exact va_get hE.1.1 hE.1.2.1 hE.2.1 (am_uws hc) hE.1.2.2.2 hK hP 0 rfl hc k hk (hE.2.1 _ hw) (fun _ h => h) hv hd (kk H locs ls hK hP hD hS hls)
theorem cs_ia {a n : Nat} {cA : ClassId} {f : Nat → Int32} {i x : Int} (q0 t0 j : Nat) (hE : cs_E nL cc own p s m args c A H0) (ha : ws[q0]? = some (a, .inl (cA, n, .inl f))) (ht : tys[t0]? = some (cA, .int)) (hin : vp_in (Int32.ofInt i) n) (hj : (Int32.ofInt i).toNatClampNeg = j) (hd : decode cc pc = .ok (.iastore, 1))
    (kk : cs_w p l e R s m args below meth c D A H0 Q nL cells slots tys (ws.set q0 (a, .inl (cA, n, .inl (upd f j (Int32.ofInt x))))) (pc + 1) lv st) : cs_w p l e R s m args below meth c D A H0 Q nL cells slots tys ws pc lv (.int (Int32.ofInt x) :: .int (Int32.ofInt i) :: .ref a :: st) := by
  intro H locs ls hK hP hD hS hls
  subst hj
  exact va_iast hE.1.1 hE.1.2.1 hK hP hD hS q0 t0 ha ht hin hd (fun H1 locs1 k1 k2 k3 => kk H1 locs1 ls hK k1 k2 k3 hls)
theorem cs_nw {C : String} {T : u_T} {N ci i : Nat} (fs : List Value) (hE : cs_E nL cc own p s m args c A H0) (hc : es_cl[ci]? = some (C, T, N)) (h1 : Jvm.Cond.classLink own i C ∈ es_gt) (h2 : Jvm.Cond.instantiable C N ∈ es_gt) (h3 : Jvm.Cond.initialized C ∈ es_gt) (hfs : ∀ j, j < N → defaultValue (es_ty T j) = vp_V fs j) (hcells : cells + 1 ≤ R.cells) (hslots : slots + N ≤ R.slots) (hd : decode cc pc = .ok (.new i, 3))
    (kk : ∀ q : Nat, cs_w p l e R s m args below meth c D A H0 Q nL (cells + 1) (slots + N) tys (ws ++ [(q, .inr (ci, fs))]) (pc + 3) lv (.ref q :: st)) : cs_w p l e R s m args below meth c D A H0 Q nL cells slots tys ws pc lv st := by
  intro H locs ls hK hP hD hS hls
  obtain ⟨o1, o2, o3⟩ := es_cl_ok ci _ hc
  exact va_new hE.1.1 hE.1.2.1 hE.2.1 (am_uws hc) (es_ty T) o2 hE.1.2.2.2 (hE.2.1 _ h1) (hE.2.1 _ h2) (hE.2.1 _ h3) hK hP hD hS hE.2.2.2.2 hc hfs hcells hslots hd (fun q H1 k1 k2 k3 => kk q H1 locs ls hK k1 k2 k3 hls)
theorem cs_as {x : Nat} {k : Fin 4} {lv' : List (Nat × Value)} (hE : cs_E nL cc own p s m args c A H0) (hd : decode cc pc = .ok (.astore_n k, 1)) (hn : (k : Nat) < nL) (hl : ((k : Nat), Value.ref x) :: lv.filter (fun q => !(q.1 == (k : Nat)) && !(q.1 + 1 == (k : Nat) && q.2.category == 2)) = lv') (kk : cs_w p l e R s m args below meth c D A H0 Q nL cells slots tys ws (pc + 1) lv' st) : cs_w p l e R s m args below meth c D A H0 Q nL cells slots tys ws pc lv (.ref x :: st) := by
  intro H locs ls hK hP hD hS hls
  exact lv_astore_n hE.1.1 hE.1.2.1 hd rfl hls hn hl (fun ls' h' => kk H locs ls' hK hP hD hS h')
theorem cs_mn {X : va_W} {n k : Int} {i : Nat} {cy : ClassId} (N' K' : Nat) (hE : cs_E nL cc own p s m args c A H0) (hcl : Jvm.Cond.classLink own i ("[" ++ (FieldType.array .int).toString) ∈ es_gt) (harr : Jvm.Cond.arrayClass .int ∈ es_gt) (t0 : Nat) (hcy : tys[t0]? = some (cy, .int)) (hn : ¬ Int32.ofInt n < 0) (hk : ¬ Int32.ofInt k < 0) (hN : (Int32.ofInt n).toNatClampNeg = N') (hM : (Int32.ofInt k).toNatClampNeg = K') (hb1 : N' * 4 ≤ 536870912) (hb2 : K' * componentBytes .int ≤ 536870912) (hb3 : K' ≤ 536870912) (hcells : cells + (1 + N') ≤ R.cells) (hslots : slots + (N' + N' * K') ≤ R.slots) (hz : ∀ c : ClassId, Jvm.Free.Multi.innerC c K' (defaultValue .int) = vp_cell c (K', .inl (fun _ => 0))) (hd : decode cc pc = .ok (.multianewarray i 2, 4))
    (kk : ∀ (q : Nat) (r : Nat → Nat) (cA : ClassId), cs_w p l e R s m args below meth c D A H0 Q nL (cells + 1 + N') (slots + N' + N' * K') (tys ++ [(cA, .array .int)]) ((X ++ [(q, .inl (cA, N', .inr (.inr (.inr (.inr (fun i => ((List.range N').map r)[i]?))))))]) ++ ((List.range N').map r).map (fun a => ((a, .inl (cy, K', .inl (fun _ => 0))) : Nat × va_E))) (pc + 4) lv (.ref q :: st)) : cs_w p l e R s m args below meth c D A H0 Q nL cells slots tys X pc lv (.int (Int32.ofInt k) :: .int (Int32.ofInt n) :: st) := by
  intro H locs ls hK hP hD hS hls
  have hra : s.vm.findClass (FieldType.array .int).toString = some cy := (hK.2 t0 _ hcy).2
  refine va_mna (X := X) (L := []) (f := fun _ => .inl (cy, K', .inl (fun _ => 0))) (z := (K', .inl (fun _ => 0))) hE.1.1 hE.1.2.1 hE.1.2.2.2 (hE.2.1 _ hcl) hE.2.2.2.1 (hE.2.1 _ harr) hra hK (by unfold va_pl; rw [List.map_nil, List.append_nil]; exact hP) (by unfold va_pl; rw [List.map_nil, List.append_nil]; exact hD) hS hE.2.2.2.2 hn hk hN hM hb1 hb2 hb3 rfl rfl hcells hslots hz hd (fun q r cA H1 k1 k2 k3 k4 k5 k6 => ?_)
  rw [← vr_rows (L := []) (fun a _ h => by cases h)] at k4 k5
  unfold va_pl at k4 k5
  rw [List.map_nil, List.nil_append] at k4 k5
  have er : (fun i => if i < N' then some (r i) else none) = (fun i => ((List.range N').map r)[i]?) := by
    funext i
    rw [List.getElem?_map]
    by_cases g : i < N'
    · rw [if_pos g, List.getElem?_range g]
      rfl
    · rw [if_neg g, List.getElem?_eq_none (by rw [List.length_range]; omega)]
      rfl
  rw [er] at k4 k5
  exact kk q r cA H1 locs ls k3 k4 k5 k6 hls
theorem cs_join {wr w1 : va_W} {x : Nat × va_E} {H H1 : Heap} (hP : va_P D es_cl (wr ++ [x]) H) (hD : va_D A (wr ++ [x])) (hk : ∀ q : Nat, q < H.size → ¬ va_A [x] H.size q → H1[q]? = H[q]?) (hF : ∀ q, va_A [x] H.size q → A q) (hP1 : va_P D es_cl w1 H1) (hD1 : va_D (va_A [x] H.size) w1) : va_P D es_cl (wr ++ w1) H1 ∧ va_D A (wr ++ w1) := by
  have hx : (wr ++ [x])[wr.length]? = some x := by simp
  have hwr : ∀ (k : Nat) (q : Nat × va_E), wr[k]? = some q → (wr ++ [x])[k]? = some q := by
    intro k q h
    have hlt : k < wr.length := (List.getElem?_eq_some_iff.mp h).1
    rw [List.getElem?_append_left hlt]
    exact h
  have hap : ∀ (k : Nat) (q : Nat × va_E), wr[k]? = some q → q.1 < H.size ∧ ¬ va_A [x] H.size q.1 := by
    intro k q h
    have hlt : k < wr.length := (List.getElem?_eq_some_iff.mp h).1
    have hb : q.1 < H.size := (hP k q (hwr k q h)).lt
    refine ⟨hb, fun z => ?_⟩
    rcases z with ⟨j, e, z⟩ | z
    · have hj : j < 1 := (List.getElem?_eq_some_iff.mp z).1
      rw [show j = 0 by omega] at z
      have ez : x = (q.1, e) := Option.some.inj z
      have := hD.1 k wr.length q x (hwr k q h) hx (by rw [ez])
      omega
    · omega
  refine ⟨?_, ?_, ?_⟩
  · intro k q h
    by_cases hl : k < wr.length
    · rw [List.getElem?_append_left hl] at h
      have h1 := hap k q h
      have hPk : va_P D es_cl wr H := fun k q h => hP k q (hwr k q h)
      exact (hPk.kept (fun k x hx => hk x.1 (hap k x hx).1 (hap k x hx).2)) k q h
    · rw [List.getElem?_append_right (by omega)] at h
      exact hP1 _ q h
  · intro i j a b hi hj hab
    by_cases h1 : i < wr.length <;> by_cases h2 : j < wr.length
    · rw [List.getElem?_append_left h1] at hi
      rw [List.getElem?_append_left h2] at hj
      exact hD.1 i j a b (hwr i a hi) (hwr j b hj) hab
    · rw [List.getElem?_append_left h1] at hi
      rw [List.getElem?_append_right (by omega)] at hj
      exact absurd (hab ▸ hD1.2 _ b hj) (hap i a hi).2
    · rw [List.getElem?_append_right (by omega)] at hi
      rw [List.getElem?_append_left h2] at hj
      exact absurd (hab ▸ hD1.2 _ a hi) (hap j b hj).2
    · rw [List.getElem?_append_right (by omega)] at hi
      rw [List.getElem?_append_right (by omega)] at hj
      have := hD1.1 _ _ a b hi hj hab
      omega
  · intro k q h
    by_cases hl : k < wr.length
    · rw [List.getElem?_append_left hl] at h
      exact hD.2 k q (hwr k q h)
    · rw [List.getElem?_append_right (by omega)] at h
      exact hF _ (hD1.2 _ q h)
theorem cs_free {wr : va_W} {x : Nat × va_E} {H : Heap} {locs : List Loc} (hA : ∀ q, H0.size ≤ q → A q) (hD : va_D A (wr ++ [x])) (hS : va_S A H0 H locs) : ∀ q, va_A [x] H.size q → A q := by
  intro q hq
  rcases hq with ⟨j, e, z⟩ | z
  · have hj : j < 1 := (List.getElem?_eq_some_iff.mp z).1
    rw [show j = 0 by omega] at z
    have ez : x = (q, e) := Option.some.inj z
    exact hD.2 wr.length (q, e) (by rw [← ez]; simp)
  · exact hA q (Nat.le_trans hS.1 z)
theorem cs_last {wr : va_W} {x : Nat × va_E} {H : Heap} (hP : va_P D es_cl (wr ++ [x]) H) : va_P D es_cl [x] H := by
  intro k q h
  have hj : k < 1 := (List.getElem?_eq_some_iff.mp h).1
  rw [show k = 0 by omega] at h
  refine hP wr.length q ?_
  rw [← h]
  simp
theorem cs_lastD {wr : va_W} {x : Nat × va_E} : va_D (fun _ => True) [x] := by
  refine ⟨fun i j a b hi hj _ => ?_, fun _ _ _ => trivial⟩
  have h1 : i < 1 := (List.getElem?_eq_some_iff.mp hi).1
  have h2 : j < 1 := (List.getElem?_eq_some_iff.mp hj).1
  omega
theorem cs_hws {y : MethodName} {bs : ByteArray} {mL : Nat} (hts : ∀ w ∈ es_gt, w.before args s = true) (hc : Jvm.Cond.code y bs mL none ∈ es_gt) : ∀ w ∈ (Jvm.Cond.code y bs mL none :: es_gt), ∀ (a' : Array Value) (U : State), s.WarmedH U.vm → w.before a' U = true := by
  intro w hw a' U hW
  rcases List.mem_cons.mp hw with rfl | hw
  · exact word_at hW (es_gt_good _ hc) (hts _ hc)
  · exact word_at hW (es_gt_good _ hw) (hts _ hw)
theorem cs_pre {h0 : Nat} {e0 : va_E} {As : List Value} {tys0 : List (ClassId × FieldType)} {sz : Nat} : FrameBlind (cs_P D h0 e0 As tys0 sz) := by
  intro a U g mk q
  obtain ⟨q0, q1, qP, qK, qN, qA, qD⟩ := q
  exact ⟨q0, q1, qP, va_K.moved (u := U) (U := U.calling g mk a) (Vm.Alike.refl U.vm) qK, es_N.same (u := U) (U := U.calling g mk a) rfl qN, es_AO.moved (u := U) (U := U.calling g mk a) (Vm.Alike.refl U.vm) qA, qD⟩
theorem cs_cI {y : MethodName} {bs : ByteArray} {mL : Nat} {rm : Room} {h0 i n : Nat} {e0 : va_E} {As : List Value} {tys0 : List (ClassId × FieldType)} {w1 : (Nat → Nat) → (Nat → ClassId) → va_W} {t1 : (Nat → ClassId) → List (ClassId × FieldType)} {wr : va_W} (hE : cs_E nL cc own p s m args c A H0) (hM : cs_C l D y bs mL rm h0 e0 As tys0 w1 t1) (hcode : Jvm.Cond.code y bs mL none ∈ es_gt) (hlk : Jvm.Cond.methodLink own i y ∈ es_gt) (hini : Jvm.Cond.initialized y.cls ∈ es_gt) (hins : Jvm.Cond.instanceMethod y ∈ es_gt) (hy1 : y.name = "<init>") (hnm : am_nmh y.cls = true) (hnp : am_np y.desc = some n) (hlen : As.length = n) (hR : rm.frames + 1 ≤ R.frames ∧ 8 + (mL + 11) + rm.locals ≤ R.locals) (hsub : ∀ q ∈ tys0, q ∈ tys) (hrm : (st.map fun v => v.category).sum ≤ 8) (hd : decode cc pc = .ok (.invokespecial i, 3)) (hcs : cells + rm.cells ≤ R.cells ∧ slots + rm.slots ≤ R.slots)
    (kk : ∀ (as : Nat → Nat) (cs : Nat → ClassId), cs_w p l e R s m args below meth c D A H0 Q nL (cells + rm.cells) (slots + rm.slots) (tys ++ t1 cs) (wr ++ w1 as cs) (pc + 3) lv st) : cs_w p l e R s m args below meth c D A H0 Q nL cells slots tys (wr ++ [(h0, e0)]) pc lv (As.reverse ++ .ref h0 :: st) := by
  intro H locs ls hK hP hD hS hls
  obtain ⟨⟨hx, hb, hml, hown⟩, hts, hN, hO, hA⟩ := hE
  have hF := cs_free hA hD hS
  have hK0 : va_K D es_cl tys0 s := ⟨hK.1, fun k q h => by
    obtain ⟨j, hj⟩ := List.mem_iff_getElem?.mp (hsub q (List.mem_of_getElem? h))
    exact hK.2 j q hj⟩
  have run := va_runI (As := As) (rest := st) (b := h0) (g := F0 m pc ls (As.reverse ++ .ref h0 :: st)) (n := n) (below := below) (meth := meth) (e := e) (locs := locs) (cells := cells) (slots := slots) (mc := rm.cells) (ms := rm.slots) ⟨hx, hb, hml, hown, hts⟩ (hM H.size)
    (⟨⟨rfl, rfl, hR.1, hR.2, cs_hws hts hcode, List.mem_cons_self, hts _ hcode, hts _ hini, of_decide_eq_true hnm, fun sig h => by
      have h2 := hnp
      unfold am_np at h2
      rw [h] at h2
      exact (Option.some.inj h2).symm, hts _ hlk⟩, hy1, hts _ hins⟩ : CallB R s args own i y bs mL none (.code y bs mL none :: es_gt) rm rm.cells rm.slots n ∧ y.name = "<init>" ∧ (Jvm.Cond.instanceMethod y).before args s = true)
    ⟨cs_pre, fun U hU hW => ⟨rfl, by rw [hU], by rw [hU]; exact cs_last hP, va_K.moved hW.alike hK0, es_N.warm hW hN, es_AO.moved hW.alike hO, cs_lastD (wr := wr)⟩⟩
    rfl hlen hls.1 rfl (lv_room hrm) hd hcs
  refine va_callv run hS (fun q _ h => hF q h) hF (fun u t H1 locs1 ht hvm _ hB hz1 hk1 hS1 => ?_)
  obtain ⟨hP1, hK1, hD1⟩ := hB
  rw [ht] at hP1
  obtain ⟨hP2, hD2⟩ := cs_join hP hD hk1 hF hP1 hD1
  refine kk u.1 u.2 H1 locs1 ls ?_ hP2 hD2 hS1 hls
  exact hK.app (va_K.moved hvm.symm hK1)
theorem cs_cN {y : MethodName} {bs : ByteArray} {mL : Nat} {rm : Room} {h0 i n : Nat} {e0 : va_E} {As : List Value} {tys0 : List (ClassId × FieldType)} {w1 : (Nat → Nat) → (Nat → ClassId) → va_W} {t1 : (Nat → ClassId) → List (ClassId × FieldType)} {wr : va_W} {host : String} (hE : cs_E nL cc own p s m args c A H0) (hM : cs_C l D y bs mL rm h0 e0 As tys0 w1 t1) (hcode : Jvm.Cond.code y bs mL none ∈ es_gt) (hlk : Jvm.Cond.methodLinkNest own i y host ∈ lw_tbl) (hini : Jvm.Cond.initialized y.cls ∈ es_gt) (hins : Jvm.Cond.instanceMethod y ∈ es_gt) (hy1 : y.name = "<init>") (hnm : am_nmh y.cls = true) (hnp : am_np y.desc = some n) (hlen : As.length = n) (hR : rm.frames + 1 ≤ R.frames ∧ 8 + (mL + 11) + rm.locals ≤ R.locals) (hsub : ∀ q ∈ tys0, q ∈ tys) (hrm : (st.map fun v => v.category).sum ≤ 8) (hd : decode cc pc = .ok (.invokespecial i, 3)) (hcs : cells + rm.cells ≤ R.cells ∧ slots + rm.slots ≤ R.slots)
    (kk : ∀ (as : Nat → Nat) (cs : Nat → ClassId), cs_w p l e R s m args below meth c D A H0 Q nL (cells + rm.cells) (slots + rm.slots) (tys ++ t1 cs) (wr ++ w1 as cs) (pc + 3) lv st) : cs_w p l e R s m args below meth c D A H0 Q nL cells slots tys (wr ++ [(h0, e0)]) pc lv (As.reverse ++ .ref h0 :: st) := by
  intro H locs ls hK hP hD hS hls
  obtain ⟨⟨hx, hb, hml, hown⟩, hts, hN, hO, hA⟩ := hE
  have hF := cs_free hA hD hS
  have hK0 : va_K D es_cl tys0 s := ⟨hK.1, fun k q h => by
    obtain ⟨j, hj⟩ := List.mem_iff_getElem?.mp (hsub q (List.mem_of_getElem? h))
    exact hK.2 j q hj⟩
  have run := va_runIN (As := As) (rest := st) (b := h0) (g := F0 m pc ls (As.reverse ++ .ref h0 :: st)) (n := n) (below := below) (meth := meth) (e := e) (locs := locs) (cells := cells) (slots := slots) (mc := rm.cells) (ms := rm.slots) ⟨hx, hb, hml, hown, hts⟩ (hM H.size)
    (⟨⟨⟨rfl, rfl, hR.1, hR.2, cs_hws hts hcode, List.mem_cons_self⟩, hts _ hcode, hts _ hini, of_decide_eq_true hnm, fun sig h => by
      have h2 := hnp
      unfold am_np at h2
      rw [h] at h2
      exact (Option.some.inj h2).symm, va_Nw.use rfl (hN _ hlk rfl)⟩, hy1, hts _ hins⟩ : va_CN R s args own i y host bs mL none (.code y bs mL none :: es_gt) rm rm.cells rm.slots n ∧ y.name = "<init>" ∧ (Jvm.Cond.instanceMethod y).before args s = true)
    ⟨cs_pre, fun U hU hW => ⟨rfl, by rw [hU], by rw [hU]; exact cs_last hP, va_K.moved hW.alike hK0, es_N.warm hW hN, es_AO.moved hW.alike hO, cs_lastD (wr := wr)⟩⟩
    rfl hlen hls.1 rfl (lv_room hrm) hd hcs
  refine va_callv run hS (fun q _ h => hF q h) hF (fun u t H1 locs1 ht hvm _ hB hz1 hk1 hS1 => ?_)
  obtain ⟨hP1, hK1, hD1⟩ := hB
  rw [ht] at hP1
  obtain ⟨hP2, hD2⟩ := cs_join hP hD hk1 hF hP1 hD1
  refine kk u.1 u.2 H1 locs1 ls ?_ hP2 hD2 hS1 hls
  exact hK.app (va_K.moved hvm.symm hK1)
theorem cs_rt {h0 sz : Nat} {e0 : va_E} {w1 : (Nat → Nat) → (Nat → ClassId) → va_W} {t1 : (Nat → ClassId) → List (ClassId × FieldType)} (as : Nat → Nat) (cs : Nat → ClassId) (hE : cs_E nL cc own p s m args c (va_A [(h0, e0)] s.heap.size) s.heap) (hr : meth.sig.returnType = none) (hlocks : meth.locks = false) (hd : decode cc pc = .ok (.return_, 1)) (hsz : s.heap.size = sz) (hw : w1 as cs = ws) (ht : t1 cs = tys) : cs_w p l e R s m args below meth c D (va_A [(h0, e0)] s.heap.size) s.heap (MQ below (cs_Q D h0 e0 w1 t1 sz) args s cells slots (va_A [(h0, e0)] sz)) nL cells slots tys ws pc lv [] := by
  intro H locs ls hK hP hD hS hls
  subst hsz
  exact W.vret hE.1.1 hE.1.2.1 hr (fun t ht2 hW => ⟨⟨(as, cs), rfl, trivial, by rw [ht2]; show va_P D es_cl (w1 as cs) H; rw [hw]; exact hP, by show va_K D es_cl (t1 cs) t; rw [ht]; exact va_K.moved hW.alike hK, by show va_D (va_A [(h0, e0)] s.heap.size) (w1 as cs); rw [hw]; exact hD⟩, hS.F ht2⟩) hS.2.2 hd hlocks
end CSM
theorem cs_enter {l : Launch} {D : va_G} {y : MethodName} {bs : ByteArray} {mL : Nat} {rm : Room} {h0 : Nat} {e0 : va_E} {As : List Value} {tys0 : List (ClassId × FieldType)} {w1 : (Nat → Nat) → (Nat → ClassId) → va_W} {t1 : (Nat → ClassId) → List (ClassId × FieldType)} (hp : plainName y.cls = true) (hi : y.name = "<init>") (hz : (lg_sl (.ref h0 :: As)).length ≤ mL)
    (h : ∀ (p : Program) (e : Env) (s : State) (m : MethodId) (args : Array Value) (below : List Frame) (meth : Method) (c : Code) (sz : Nat), s.heap.size = sz → cs_E mL bs y.cls p s m args c (va_A [(h0, e0)] s.heap.size) s.heap → meth.name = "<init>" → meth.sig.returnType = none → meth.locks = false → cs_w p l e rm s m args below meth c D (va_A [(h0, e0)] s.heap.size) s.heap (MQ below (cs_Q D h0 e0 w1 t1 sz) args s rm.cells rm.slots (va_A [(h0, e0)] sz)) mL 0 0 tys0 [(h0, e0)] 0 (lv_args 0 (.ref h0 :: As)) []) : cs_C l D y bs mL rm h0 e0 As tys0 w1 t1 := by
  intro sz
  refine Met.ofW (cc := bs) (maxL := mL) (ret := none) hp rfl ?_
  intro p e s m args below meth c s₁ B hml hv
  obtain ⟨rfl, hsz, hP, hK, hN, hO, hD⟩ := hv
  have hts := atoms_spec (ws := Jvm.Cond.code y bs mL none :: es_gt) B.pre
  have hl := lv_entry (.ref h0 :: As) (n := mL) hz
  rw [lg_entry_eq]
  have hin : meth.name = "<init>" := by rw [(name_of_methodNamed B.named B.method).1]; exact hi
  have hE : cs_E mL bs y.cls p s m (Value.ref h0 :: As).toArray c (va_A [(h0, e0)] s.heap.size) s.heap := ⟨⟨B.exec, B.bytes, hml, findClass_of_methodNamed B.named⟩, fun w hw => hts w (List.mem_cons_of_mem _ hw), hN, hO, fun q h => Or.inr h⟩
  exact h p e s m _ below meth c sz hsz hE hin B.returns B.notSynchronized s.heap [] _ hK hP hD.self va_S.rf hl
