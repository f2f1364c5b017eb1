def am_np (dsc : String) : Option Nat := (parseMethodDescriptor dsc).map (fun d => d.parameters.length)
def am_nmh (c : String) : Bool := decide (c ≠ "java/lang/invoke/MethodHandle" ∧ c ≠ "java/lang/invoke/VarHandle")
def am_lkV (own : String) (n : Nat) (C : String) (x : MethodName) (k : Nat) : Prop := Jvm.Cond.methodLink own n x ∈ es_gt ∧ Jvm.Cond.instanceMethod x ∈ es_gt ∧ Jvm.Cond.selects C x x ∈ es_gt ∧ Jvm.Cond.initialized x.cls ∈ es_gt ∧ am_nmh x.cls = true ∧ am_np x.desc = some k
def am_lkS (own : String) (n : Nat) (x : MethodName) (k : Nat) : Prop := Jvm.Cond.methodLink own n x ∈ es_gt ∧ Jvm.Cond.static x ∈ es_gt ∧ Jvm.Cond.initialized x.cls ∈ es_gt ∧ am_nmh x.cls = true ∧ am_np x.desc = some k
def am_lkN (own : String) (n : Nat) (x : MethodName) (host : String) (k : Nat) : Prop := Jvm.Cond.methodLinkNest own n x host ∈ lw_tbl ∧ Jvm.Cond.static x ∈ es_gt ∧ Jvm.Cond.initialized x.cls ∈ es_gt ∧ am_nmh x.cls = true ∧ am_np x.desc = some k
def am_lkU (own : String) (n : Nat) (C owner : String) (x y : MethodName) (k : Nat) : Prop := Jvm.Cond.methodLink own n x ∈ es_gt ∧ Jvm.Cond.sameMethod x.cls owner x.name x.desc ∈ es_gt ∧ Jvm.Cond.declares ⟨owner, x.name, x.desc⟩ ∈ lw_tbl ∧ Jvm.Cond.selects C x y ∈ es_gt ∧ Jvm.Cond.instanceMethod y ∈ es_gt ∧ Jvm.Cond.initialized y.cls ∈ es_gt ∧ am_nmh owner = true ∧ am_np x.desc = some k
def am_cn (b : Nat) : Option String := match am_nth ES b with
  | some (.inl o) => match am_nth es_cl o.1 with
    | some q => some q.1
    | none => none
  | _ => none
theorem am_cn_sp {b : Nat} {C : String} (h : am_cn b = some C) : ∃ (o : Nat × List (Bool ⊕ Nat)) (q : vw_C), am_nth ES b = some (.inl o) ∧ es_cl[o.1]? = some q ∧ q.1 = C := by
  unfold am_cn at h
  split at h
  · rename_i o ho
    split at h
    · rename_i q hq
      cases h
      exact ⟨o, q, ho, by rw [← am_nth_eq]; exact hq, rfl⟩
    · cases h
  · cases h
def am_cut : Nat → List am_v → List am_v → Option (List am_v × List am_v)
  | 0, acc, st => some (acc, st)
  | _ + 1, _, [] => none
  | k + 1, acc, v :: st => am_cut k (v :: acc) st
theorem am_cut_sp : ∀ {k : Nat} {acc st as rest : List am_v}, am_cut k acc st = some (as, rest) → as.reverse ++ rest = acc.reverse ++ st ∧ as.length = acc.length + k
  | 0, acc, st, as, rest, h => by
    unfold am_cut at h
    cases h
    exact ⟨rfl, rfl⟩
  | k + 1, acc, [], as, rest, h => by
    unfold am_cut at h
    cases h
  | k + 1, acc, v :: st, as, rest, h => by
    unfold am_cut at h
    obtain ⟨h1, h2⟩ := am_cut_sp h
    refine ⟨?_, ?_⟩
    · rw [h1, List.reverse_cons, List.append_assoc]; rfl
    · rw [h2, List.length_cons]; omega
theorem am_sz_cat (ad : Nat → Nat) : ∀ (as : List am_v), ((as.map (am_c ad)).map fun v => v.category).sum = am_sz as
  | [] => rfl
  | v :: vs => by
    have ih := am_sz_cat ad vs
    rw [List.map_cons, List.map_cons, List.sum_cons, ih]
    rcases v with x | x | x <;> simp [am_sz, am_wide, am_c, Value.category] <;> omega
theorem am_Pc_blind {D : va_G} {ad : Nat → Nat} {ca : Nat → ClassId} {tys : List (ClassId × FieldType)} {as : List am_v} {I : am_I} {sz : Nat} : FrameBlind (am_Pc D ad ca tys as I sz) := by
  intro a U g mk q
  obtain ⟨q0, q1, qP, qK, qN, qD⟩ := q
  exact ⟨q0, q1, qP, va_K.moved (u := U) (U := U.calling g mk a) (Vm.Alike.refl U.vm) qK, es_N.same (u := U) (U := U.calling g mk a) rfl qN, qD⟩
theorem am_hws {args : Array Value} {s : State} {y' : am_Y} (hts : ∀ w ∈ es_gt, w.before args s = true) (hy : am_yok y') : (∀ w ∈ am_ws y', ∀ (a' : Array Value) (U : State), s.WarmedH U.vm → w.before a' U = true) ∧ (Jvm.Cond.code y'.1 y'.2.1 y'.2.2.1 y'.2.2.2.1).before args s = true ∧ y'.2.2.1 ≤ 18 := by
  have hc : Jvm.Cond.code y'.1 y'.2.1 y'.2.2.1 y'.2.2.2.1 ∈ es_gt := hy.2.2.2
  refine ⟨fun w hw a' U hW => ?_, hts _ hc, hy.2.2.1⟩
  rcases List.mem_cons.mp hw with rfl | hw
  · exact word_at hW (es_gt_good _ hc) (hts _ hc)
  · exact word_at hW (es_gt_good _ hw) (hts _ hw)
section AMC
variable {p : Program} {l : Launch} {e : Env} {R : Room} {s : State} {m : MethodId} {args : Array Value} {below : List Frame} {meth : Method} {c : Code} {cells slots : Nat} {Q : State → Prop} {D : va_G} {ad : Nat → Nat} {ca : Nat → ClassId} {tys : List (ClassId × FieldType)} {A : Nat → Prop} {H0 : Heap} {y y' : am_Y} {d : Nat} {pc nx tg n k : Nat} {ax : Int} {lv : List (Nat × am_v)} {st as rest : List am_v} {I : am_I} {Po' : Option am_v → am_I → Prop} {H : Heap} {locs : List Loc} {ls : Array Slot}
theorem am_post {a : Array Value} {st0 : List Value} {rs : List Value} {sz : Nat} {free : Addr → Prop} {ws : va_W} (hr : va_Run p l e R s m args below meth c H locs cells slots 0 0 (F0 m pc ls st0) rs (am_Qc D ad ca tys Po' ws sz a) free) (hS : va_S A H0 H locs) (hA : ∀ q, q < H.size → va_A ws sz q → A q) (hf : ∀ q, free q → A q) (hw : ∀ q, va_A ws sz q → A q)
    (kk : ∀ (r : Option am_v) (I' : am_I) (H1 : Heap) (locs1 : List Loc), Po' r I' → va_P D es_cl (am_W ad ca I') H1 → va_D A (am_W ad ca I') → va_S A H0 H1 locs1 → W p l e R s m args below meth c H1 locs1 cells slots Q (F0 m (pc + 3) ls ((r.map (am_c ad)).toList ++ rs))) : W p l e R s m args below meth c H locs cells slots Q (F0 m pc ls st0) := by
  intro T hT X
  obtain ⟨v, st₀, t, T', L, h0, X', hL, e1, e2, ⟨⟨r, I', hv, hp, hb1, hb2, hb3⟩, hz, hk⟩, st⟩ := hr T hT X
  cases hv
  rw [h0] at hz hk
  obtain ⟨t2, a1, b1⟩ := kk r I' T'.heap (locs ++ L) hp (by rw [e1]; exact hb1) (hb3.weaken (fun _ q _ h => hw q.1 h))
    ⟨Nat.le_trans hS.1 (by rw [e1]; exact hz), fun q h1 h2 => by rw [e1, hk q (Nat.lt_of_lt_of_le h1 hS.1) (fun z => h2 (hA q (Nat.lt_of_lt_of_le h1 hS.1) z))]; exact hS.2.1 q h1 h2, fun q hq => by
      rcases List.mem_append.mp hq with h | h
      · exact hS.2.2 q h
      · exact hf _ (hL q h)⟩ T' rfl X'
  exact ⟨t2, st t2 a1, b1⟩
theorem am_frees (hA : ∀ q, H0.size ≤ q → A q) (hD : va_D A (am_W ad ca I)) (hS : va_S A H0 H locs) : ∀ q, va_A (am_W ad ca I) H.size q → A q := by
  intro q hq
  rcases hq with ⟨k, e, h⟩ | h
  · exact hD.2 k (q, e) h
  · exact hA q (Nat.le_trans hS.1 h)
theorem am_toL1 (r : Option am_v) (rs : List am_v) : (r.map (am_c ad)).toList ++ rs.map (am_c ad) = (r.toList ++ rs).map (am_c ad) := by
  cases r <;> simp
theorem am_stk {b : Nat} (h : am_cut (k + 1) [] st = some (.inr (.inr b) :: as, rest)) : st.map (am_c ad) = (as.map (am_c ad)).reverse ++ .ref (ad b) :: rest.map (am_c ad) ∧ as.length = k := by
  obtain ⟨h1, h2⟩ := am_cut_sp h
  refine ⟨?_, by simpa using h2⟩
  have h1 : st = (.inr (.inr b) :: as).reverse ++ rest := by rw [h1]; rfl
  rw [h1]
  simp [am_c]
theorem am_stkS (h : am_cut k [] st = some (as, rest)) : st.map (am_c ad) = (as.map (am_c ad)).reverse ++ rest.map (am_c ad) ∧ as.length = k := by
  obtain ⟨h1, h2⟩ := am_cut_sp h
  refine ⟨?_, by simpa using h2⟩
  have h1 : st = as.reverse ++ rest := by rw [h1]; rfl
  rw [h1]
  simp
theorem am_cV_w {b : Nat} {C : String} (hB : am_B y (d + 1) p R s m args c D ca tys A H0 cells slots) (hat : am_at y.2.2.2.2.1 pc = some (.invokevirtual n, nx, ax, tg)) (hlk : am_lkV y.1.cls n C y'.1 k) (hy : am_yok y') (hcut : am_cut (k + 1) [] st = some (.inr (.inr b) :: as, rest)) (hrm : Nat.ble (am_sz rest) 8 = true) (hcn : am_cn b = some C) (hc : am_C d y' (.inr (.inr b) :: as) I Po')
    (kk : ∀ r I', Po' r I' → am_w p l e R s m args below meth c D ad ca A H0 cells slots Q y nx lv (r.toList ++ rest) I') : am_w p l e R s m args below meth c D ad ca A H0 cells slots Q y pc lv st I := by
  obtain ⟨⟨hx, hb, hml, hown⟩, hts, hN, hK, hT, hA, hR, hC, hk⟩ := hB
  obtain ⟨hd, hn, -⟩ := am_v1_sp rfl (am_chk_1 hk (am_at_mem hat))
  obtain ⟨o, q0, ho, hq0, rfl⟩ := am_cn_sp hcn
  obtain ⟨hws, hcode, hml'⟩ := am_hws hts hy
  obtain ⟨hst, hlen⟩ := am_stk (ad := ad) hcut
  obtain ⟨w1, w2, w3, w4, w5, w6⟩ := hlk
  intro H locs ls hP hD hS hl
  rw [hst]
  have run := va_runV (As := as.map (am_c ad)) (rest := rest.map (am_c ad)) (b := ad b) (g := F0 m pc ls ((as.map (am_c ad)).reverse ++ .ref (ad b) :: rest.map (am_c ad))) (n := k) (below := below) (meth := meth) (e := e) (locs := locs) (cells := cells) (slots := slots) ⟨hx, hb, hml, hown, hts⟩ (hc l D ad ca tys H.size hT)
    (⟨⟨rfl, rfl, by show d + 1 ≤ R.frames; exact hR.1, by show 8 + (y'.2.2.1 + 11) + 37 * d ≤ R.locals; omega, hws, List.mem_cons_self, hcode, hts _ w4, of_decide_eq_true w5, fun sig h => by
      have h2 := w6
      unfold am_np at h2
      rw [h] at h2
      exact (Option.some.inj h2).symm, hts _ w1⟩, hts _ w2, hts _ w3⟩ : CallW R s args y.1.cls q0.1 n y'.1 y'.2.1 y'.2.2.1 y'.2.2.2.1 (am_ws y') (am_rm d) 0 0 k)
    ⟨am_Pc_blind, va_recv hK hP hq0 (am_W_at I ho), fun U hU hW => ⟨rfl, by rw [hU], by rw [hU]; exact hP, va_K.moved hW.alike hK, es_N.warm hW hN, hD.weaken (fun _ _ _ _ => trivial)⟩⟩
    rfl (by rw [List.length_map]; exact hlen) hl.1 rfl (lv_room (by rw [am_sz_cat]; exact Nat.le_of_ble_eq_true hrm)) hd ⟨hC.1, hC.2⟩
  have hF := am_frees hA hD hS
  refine am_post run hS (fun q _ h => hF q h) hF hF (fun r I' H1 locs1 hp hP1 hD1 hS1 => ?_)
  rw [am_toL1]
  have e3 : nx = pc + 3 := hn
  subst e3
  exact kk r I' hp H1 locs1 ls hP1 hD1 hS1 hl
theorem am_cU_w {b : Nat} {C owner : String} {x : MethodName} (hB : am_B y (d + 1) p R s m args c D ca tys A H0 cells slots) (hat : am_at y.2.2.2.2.1 pc = some (.invokevirtual n, nx, ax, tg)) (hlk : am_lkU y.1.cls n C owner x y'.1 k) (hy : am_yok y') (hcut : am_cut (k + 1) [] st = some (.inr (.inr b) :: as, rest)) (hrm : Nat.ble (am_sz rest) 8 = true) (hcn : am_cn b = some C) (hc : am_C d y' (.inr (.inr b) :: as) I Po')
    (kk : ∀ r I', Po' r I' → am_w p l e R s m args below meth c D ad ca A H0 cells slots Q y nx lv (r.toList ++ rest) I') : am_w p l e R s m args below meth c D ad ca A H0 cells slots Q y pc lv st I := by
  obtain ⟨⟨hx, hb, hml, hown⟩, hts, hN, hK, hT, hA, hR, hC, hk⟩ := hB
  obtain ⟨hd, hn, -⟩ := am_v1_sp rfl (am_chk_1 hk (am_at_mem hat))
  obtain ⟨o, q0, ho, hq0, rfl⟩ := am_cn_sp hcn
  obtain ⟨hws, hcode, hml'⟩ := am_hws hts hy
  obtain ⟨hst, hlen⟩ := am_stk (ad := ad) hcut
  obtain ⟨w1, w2, w3, w4, w5, w6, w7, w8⟩ := hlk
  intro H locs ls hP hD hS hl
  rw [hst]
  have run := va_runU (As := as.map (am_c ad)) (rest := rest.map (am_c ad)) (b := ad b) (g := F0 m pc ls ((as.map (am_c ad)).reverse ++ .ref (ad b) :: rest.map (am_c ad))) (n := k) (below := below) (meth := meth) (e := e) (locs := locs) (cells := cells) (slots := slots) ⟨hx, hb, hml, hown, hts⟩ (hc l D ad ca tys H.size hT)
    (⟨⟨rfl, rfl, by show d + 1 ≤ R.frames; exact hR.1, by show 8 + (y'.2.2.1 + 11) + 37 * d ≤ R.locals; omega, hws, List.mem_cons_self⟩, hcode, hts _ w6, of_decide_eq_true w7, fun sig h => by
      have h2 := w8
      unfold am_np at h2
      rw [h] at h2
      exact (Option.some.inj h2).symm, hts _ w1, hts _ w2, va_Decl.abs (hN _ w3 rfl), hts _ w4, hts _ w5⟩ : va_CU R s args y.1.cls q0.1 owner n x y'.1 y'.2.1 y'.2.2.1 y'.2.2.2.1 (am_ws y') (am_rm d) 0 0 k)
    ⟨am_Pc_blind, va_recv hK hP hq0 (am_W_at I ho), fun U hU hW => ⟨rfl, by rw [hU], by rw [hU]; exact hP, va_K.moved hW.alike hK, es_N.warm hW hN, hD.weaken (fun _ _ _ _ => trivial)⟩⟩
    rfl (by rw [List.length_map]; exact hlen) hl.1 rfl (lv_room (by rw [am_sz_cat]; exact Nat.le_of_ble_eq_true hrm)) hd ⟨hC.1, hC.2⟩
  have hF := am_frees hA hD hS
  refine am_post run hS (fun q _ h => hF q h) hF hF (fun r I' H1 locs1 hp hP1 hD1 hS1 => ?_)
  rw [am_toL1]
  have e3 : nx = pc + 3 := hn
  subst e3
  exact kk r I' hp H1 locs1 ls hP1 hD1 hS1 hl
theorem am_cS_w (hB : am_B y (d + 1) p R s m args c D ca tys A H0 cells slots) (hat : am_at y.2.2.2.2.1 pc = some (.invokestatic n, nx, ax, tg)) (hlk : am_lkS y.1.cls n y'.1 k) (hy : am_yok y') (hcut : am_cut k [] st = some (as, rest)) (hrm : Nat.ble (am_sz rest) 8 = true) (hc : am_C d y' as I Po')
    (kk : ∀ r I', Po' r I' → am_w p l e R s m args below meth c D ad ca A H0 cells slots Q y nx lv (r.toList ++ rest) I') : am_w p l e R s m args below meth c D ad ca A H0 cells slots Q y pc lv st I := by
  obtain ⟨⟨hx, hb, hml, hown⟩, hts, hN, hK, hT, hA, hR, hC, hk⟩ := hB
  obtain ⟨hd, hn, -⟩ := am_v1_sp rfl (am_chk_1 hk (am_at_mem hat))
  obtain ⟨hws, hcode, hml'⟩ := am_hws hts hy
  obtain ⟨hst, hlen⟩ := am_stkS (ad := ad) hcut
  obtain ⟨w1, w2, w3, w5, w6⟩ := hlk
  intro H locs ls hP hD hS hl
  rw [hst]
  have run := va_runS (As := as.map (am_c ad)) (rest := rest.map (am_c ad)) (g := F0 m pc ls ((as.map (am_c ad)).reverse ++ rest.map (am_c ad))) (n := k) (below := below) (meth := meth) (e := e) (locs := locs) (cells := cells) (slots := slots) ⟨hx, hb, hml, hown, hts⟩ (hc l D ad ca tys H.size hT)
    (⟨⟨rfl, rfl, by show d + 1 ≤ R.frames; exact hR.1, by show 8 + (y'.2.2.1 + 11) + 37 * d ≤ R.locals; omega, hws, List.mem_cons_self, hcode, hts _ w3, of_decide_eq_true w5, fun sig h => by
      have h2 := w6
      unfold am_np at h2
      rw [h] at h2
      exact (Option.some.inj h2).symm, hts _ w1⟩, hts _ w2⟩ : CallB R s args y.1.cls n y'.1 y'.2.1 y'.2.2.1 y'.2.2.2.1 (am_ws y') (am_rm d) 0 0 k ∧ (Jvm.Cond.static y'.1).before args s = true)
    ⟨am_Pc_blind, fun U hU hW => ⟨rfl, by rw [hU], by rw [hU]; exact hP, va_K.moved hW.alike hK, es_N.warm hW hN, hD.weaken (fun _ _ _ _ => trivial)⟩⟩
    rfl (by rw [List.length_map]; exact hlen) hl.1 rfl (lv_room (by rw [am_sz_cat]; exact Nat.le_of_ble_eq_true hrm)) hd ⟨hC.1, hC.2⟩
  have hF := am_frees hA hD hS
  refine am_post run hS (fun q _ h => hF q h) hF hF (fun r I' H1 locs1 hp hP1 hD1 hS1 => ?_)
  rw [am_toL1]
  have e3 : nx = pc + 3 := hn
  subst e3
  exact kk r I' hp H1 locs1 ls hP1 hD1 hS1 hl
theorem am_cN_w {host : String} (hB : am_B y (d + 1) p R s m args c D ca tys A H0 cells slots) (hat : am_at y.2.2.2.2.1 pc = some (.invokestatic n, nx, ax, tg)) (hlk : am_lkN y.1.cls n y'.1 host k) (hy : am_yok y') (hcut : am_cut k [] st = some (as, rest)) (hrm : Nat.ble (am_sz rest) 8 = true) (hc : am_C d y' as I Po')
    (kk : ∀ r I', Po' r I' → am_w p l e R s m args below meth c D ad ca A H0 cells slots Q y nx lv (r.toList ++ rest) I') : am_w p l e R s m args below meth c D ad ca A H0 cells slots Q y pc lv st I := by
  obtain ⟨⟨hx, hb, hml, hown⟩, hts, hN, hK, hT, hA, hR, hC, hk⟩ := hB
  obtain ⟨hd, hn, -⟩ := am_v1_sp rfl (am_chk_1 hk (am_at_mem hat))
  obtain ⟨hws, hcode, hml'⟩ := am_hws hts hy
  obtain ⟨hst, hlen⟩ := am_stkS (ad := ad) hcut
  obtain ⟨w1, w2, w3, w5, w6⟩ := hlk
  intro H locs ls hP hD hS hl
  rw [hst]
  have run := va_runSN (As := as.map (am_c ad)) (rest := rest.map (am_c ad)) (g := F0 m pc ls ((as.map (am_c ad)).reverse ++ rest.map (am_c ad))) (n := k) (below := below) (meth := meth) (e := e) (locs := locs) (cells := cells) (slots := slots) ⟨hx, hb, hml, hown, hts⟩ (hc l D ad ca tys H.size hT)
    (⟨⟨⟨rfl, rfl, by show d + 1 ≤ R.frames; exact hR.1, by show 8 + (y'.2.2.1 + 11) + 37 * d ≤ R.locals; omega, hws, List.mem_cons_self⟩, hcode, hts _ w3, of_decide_eq_true w5, fun sig h => by
      have h2 := w6
      unfold am_np at h2
      rw [h] at h2
      exact (Option.some.inj h2).symm, va_Nw.use rfl (hN _ w1 rfl)⟩, hts _ w2, trivial⟩ : va_CN R s args y.1.cls n y'.1 host y'.2.1 y'.2.2.1 y'.2.2.2.1 (am_ws y') (am_rm d) 0 0 k ∧ (Jvm.Cond.static y'.1).before args s = true ∧ True)
    ⟨am_Pc_blind, fun U hU hW => ⟨rfl, by rw [hU], by rw [hU]; exact hP, va_K.moved hW.alike hK, es_N.warm hW hN, hD.weaken (fun _ _ _ _ => trivial)⟩⟩
    rfl (by rw [List.length_map]; exact hlen) hl.1 rfl (lv_room (by rw [am_sz_cat]; exact Nat.le_of_ble_eq_true hrm)) hd ⟨hC.1, hC.2⟩
  have hF := am_frees hA hD hS
  refine am_post run hS (fun q _ h => hF q h) hF hF (fun r I' H1 locs1 hp hP1 hD1 hS1 => ?_)
  rw [am_toL1]
  have e3 : nx = pc + 3 := hn
  subst e3
  exact kk r I' hp H1 locs1 ls hP1 hD1 hS1 hl
theorem am_sw_w {dflt lo hi : Int} {offs : Array Int} {x : Int} {r : List am_v} {ts : List Nat} {dt : Nat} (hB : am_B y d p R s m args c D ca tys A H0 cells slots) (hat : am_at y.2.2.2.2.1 pc = some (.tableswitch dflt lo hi offs, nx, ax, tg)) (hts : offs.toList = ts.map (fun (t : Nat) => (t : Int) - (pc : Int))) (hdt : dflt = (dt : Int) - (pc : Int)) (hlen : (ts.length : Int) = hi - lo + 1) (hx : -2147483648 ≤ x ∧ x < 2147483648)
    (kk : ∀ (j t : Nat), ts[j]? = some t → x = lo + (j : Int) → am_w p l e R s m args below meth c D ad ca A H0 cells slots Q y t lv r I) (kd : (x < lo ∨ hi < x) → am_w p l e R s m args below meth c D ad ca A H0 cells slots Q y dt lv r I) : am_w p l e R s m args below meth c D ad ca A H0 cells slots Q y pc lv (.inl x :: r) I := by
  obtain ⟨⟨hxx, hb, hml, hown⟩, -, hN, hK, hT, hA, hR, hC, hk⟩ := hB
  have hv := am_chk_1 hk (am_at_mem hat)
  have hd : decode y.2.1 pc = .ok (.tableswitch dflt lo hi offs, nx - pc) := by
    unfold am_v1 at hv
    exact of_decide_eq_true hv
  intro H locs ls hP hD hS hl
  show W p l e R s m args below meth c H locs cells slots Q (F0 m pc ls (.int (Int32.ofInt x) :: r.map (am_c ad)))
  by_cases h : x < lo ∨ hi < x
  · exact lv_tableOut hxx hb hd (by rw [am_toI hx]; exact h) (by rw [hdt]; omega) (kd h H locs ls hP hD hS hl)
  · have h1 : ¬ x < lo := fun q => h (Or.inl q)
    have h2 : ¬ hi < x := fun q => h (Or.inr q)
    have hj : (x - lo).toNat < ts.length := by omega
    have hg : ts[(x - lo).toNat]? = some ts[(x - lo).toNat] := List.getElem?_eq_getElem hj
    refine lv_tableIn (off := (ts[(x - lo).toNat] : Int) - (pc : Int)) (tgt := ts[(x - lo).toNat]) hxx hb hd (by rw [am_toI hx]; exact h1) (by rw [am_toI hx]; exact h2) ?_ (by omega) (kk _ _ hg (by omega) H locs ls hP hD hS hl)
    rw [am_toI hx, ← Array.getElem?_toList, hts, List.getElem?_map, hg]
    rfl
end AMC
section AMD
variable {y y' : am_Y} {d : Nat} {pc nx tg n k : Nat} {ax : Int} {lv : List (Nat × am_v)} {st as rest : List am_v} {I : am_I} {Po Po' : Option am_v → am_I → Prop}
theorem am_cV {b : Nat} {C : String} (hat : am_at y.2.2.2.2.1 pc = some (.invokevirtual n, nx, ax, tg)) (hlk : am_lkV y.1.cls n C y'.1 k) (hy : am_yok y') (hcut : am_cut (k + 1) [] st = some (.inr (.inr b) :: as, rest)) (hrm : Nat.ble (am_sz rest) 8 = true) (hcn : am_cn b = some C) (hc : am_C d y' (.inr (.inr b) :: as) I Po')
    (kk : ∀ r I', Po' r I' → am_V (d + 1) y Po nx lv (r.toList ++ rest) I') : am_V (d + 1) y Po pc lv st I :=
  fun I0 p l e R s m args below meth c D ad ca tys A H0 Q hE => am_cV_w hE.1 hat hlk hy hcut hrm hcn hc (fun r I' h => kk r I' h I0 p l e R s m args below meth c D ad ca tys A H0 Q hE)
theorem am_cU {b : Nat} {C owner : String} {x : MethodName} (hat : am_at y.2.2.2.2.1 pc = some (.invokevirtual n, nx, ax, tg)) (hlk : am_lkU y.1.cls n C owner x y'.1 k) (hy : am_yok y') (hcut : am_cut (k + 1) [] st = some (.inr (.inr b) :: as, rest)) (hrm : Nat.ble (am_sz rest) 8 = true) (hcn : am_cn b = some C) (hc : am_C d y' (.inr (.inr b) :: as) I Po')
    (kk : ∀ r I', Po' r I' → am_V (d + 1) y Po nx lv (r.toList ++ rest) I') : am_V (d + 1) y Po pc lv st I :=
  fun I0 p l e R s m args below meth c D ad ca tys A H0 Q hE => am_cU_w hE.1 hat hlk hy hcut hrm hcn hc (fun r I' h => kk r I' h I0 p l e R s m args below meth c D ad ca tys A H0 Q hE)
theorem am_cS (hat : am_at y.2.2.2.2.1 pc = some (.invokestatic n, nx, ax, tg)) (hlk : am_lkS y.1.cls n y'.1 k) (hy : am_yok y') (hcut : am_cut k [] st = some (as, rest)) (hrm : Nat.ble (am_sz rest) 8 = true) (hc : am_C d y' as I Po')
    (kk : ∀ r I', Po' r I' → am_V (d + 1) y Po nx lv (r.toList ++ rest) I') : am_V (d + 1) y Po pc lv st I :=
  fun I0 p l e R s m args below meth c D ad ca tys A H0 Q hE => am_cS_w hE.1 hat hlk hy hcut hrm hc (fun r I' h => kk r I' h I0 p l e R s m args below meth c D ad ca tys A H0 Q hE)
theorem am_cN {host : String} (hat : am_at y.2.2.2.2.1 pc = some (.invokestatic n, nx, ax, tg)) (hlk : am_lkN y.1.cls n y'.1 host k) (hy : am_yok y') (hcut : am_cut k [] st = some (as, rest)) (hrm : Nat.ble (am_sz rest) 8 = true) (hc : am_C d y' as I Po')
    (kk : ∀ r I', Po' r I' → am_V (d + 1) y Po nx lv (r.toList ++ rest) I') : am_V (d + 1) y Po pc lv st I :=
  fun I0 p l e R s m args below meth c D ad ca tys A H0 Q hE => am_cN_w hE.1 hat hlk hy hcut hrm hc (fun r I' h => kk r I' h I0 p l e R s m args below meth c D ad ca tys A H0 Q hE)
theorem am_sw {dflt lo hi : Int} {offs : Array Int} {x : Int} {r : List am_v} (ts : List Nat) (dt : Nat) (hat : am_at y.2.2.2.2.1 pc = some (.tableswitch dflt lo hi offs, nx, ax, tg)) (hts : offs.toList = ts.map (fun (t : Nat) => (t : Int) - (pc : Int))) (hdt : dflt = (dt : Int) - (pc : Int)) (hlen : (ts.length : Int) = hi - lo + 1) (hx : -2147483648 ≤ x ∧ x < 2147483648)
    (kk : ∀ (j t : Nat), ts[j]? = some t → x = lo + (j : Int) → am_V d y Po t lv r I) (kd : (x < lo ∨ hi < x) → am_V d y Po dt lv r I) : am_V d y Po pc lv (.inl x :: r) I :=
  fun I0 p l e R s m args below meth c D ad ca tys A H0 Q hE => am_sw_w hE.1 hat hts hdt hlen hx (fun j t h1 h2 => kk j t h1 h2 I0 p l e R s m args below meth c D ad ca tys A H0 Q hE) (fun h => kd h I0 p l e R s m args below meth c D ad ca tys A H0 Q hE)
theorem am_C_mono {Po2 : Option am_v → am_I → Prop} (h : am_C d y as I Po) (hm : ∀ r I', Po r I' → Po2 r I') : am_C d y as I Po2 := by
  intro l D ad ca tys sz hT
  have h1 := h l D ad ca tys sz hT
  intro p e ha hc hk s m args below hf hap hpre hkk
  obtain ⟨kk, o, a1, a2, a3, ⟨⟨⟨r, I', q1, q2, q3⟩, q4⟩, q5⟩⟩ := h1 p e ha hc hk s m args below hf hap hpre hkk
  exact ⟨kk, o, a1, a2, a3, ⟨⟨⟨r, I', q1, hm r I' q2, q3⟩, q4⟩, q5⟩⟩
end AMD
