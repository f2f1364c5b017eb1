def am_cndK {α : Type} (o : ClassFile.Cond) (x y : Int) (k : Prop → α) : α := match o with
  | .eq => k (x = y)
  | .ne => k (¬ x = y)
  | .lt => k (x < y)
  | .ge => k (y ≤ x)
  | .gt => k (y < x)
  | .le => k (x ≤ y)
theorem am_cndK_eq {α : Type} (o : ClassFile.Cond) (x y : Int) (k : Prop → α) : am_cndK o x y k = k (am_cnd o x y) := by cases o <;> rfl
abbrev am_BR : Type := Option (Prop × Prop × Nat × Nat × List am_v)
def am_brf (y : am_Y) (pc : Nat) (st : List am_v) : am_BR := match am_at y.2.2.2.2.1 pc with
  | some (.ifCond o _, nx, _, tg) => match st with
    | .inl x :: r => am_cndK o x 0 (fun c => some (-2147483648 ≤ x ∧ x < 2147483648, c, tg, nx, r))
    | _ => none
  | some (.if_icmp o _, nx, _, tg) => match st with
    | .inl z :: .inl x :: r => am_cndK o x z (fun c => some ((-2147483648 ≤ x ∧ x < 2147483648) ∧ (-2147483648 ≤ z ∧ z < 2147483648), c, tg, nx, r))
    | _ => none
  | some (.lcmp, nx, _, _) => match st with
    | .inr (.inl z) :: .inr (.inl x) :: r => match am_at y.2.2.2.2.1 nx with
      | some (.ifCond o _, nx2, _, tg) => am_cndK o x z (fun c => some ((-9223372036854775808 ≤ x ∧ x < 9223372036854775808) ∧ (-9223372036854775808 ≤ z ∧ z < 9223372036854775808), c, tg, nx2, r))
      | _ => none
    | _ => none
  | _ => none
theorem am_cmp_lt {x z : Int} (hx : -9223372036854775808 ≤ x ∧ x < 9223372036854775808) (hz : -9223372036854775808 ≤ z ∧ z < 9223372036854775808) : lg_cmp (Int64.ofInt x) (Int64.ofInt z) = Int32.ofInt (if z < x then 1 else if x = z then 0 else -1) := by
  unfold lg_cmp
  have e1 : (Int64.ofInt x > Int64.ofInt z) ↔ z < x := am_lt64 hz hx
  have e2 : (Int64.ofInt x = Int64.ofInt z) ↔ x = z := am_eq64 hx hz
  by_cases h1 : z < x
  · rw [if_pos (e1.mpr h1), if_pos h1]; decide +kernel
  · rw [if_neg (fun q => h1 (e1.mp q)), if_neg h1]
    by_cases h2 : x = z
    · rw [if_pos (e2.mpr h2), if_pos h2]; decide +kernel
    · rw [if_neg (fun q => h2 (e2.mp q)), if_neg h2]; decide +kernel
section AMB
variable {p : Program} {l : Launch} {e : Env} {R : Room} {s : State} {m : MethodId} {args : Array Value} {below : List Frame} {meth : Method} {c : Code} {cells slots : Nat} {Q : State → Prop} {D : va_G} {ad : Nat → Nat} {ca : Nat → ClassId} {tys : List (ClassId × FieldType)} {A : Nat → Prop} {H0 : Heap} {y : am_Y} {d : Nat} {pc nx tg : Nat} {lv : List (Nat × am_v)} {st r : List am_v} {I : am_I} {P C : Prop}
theorem am_if_ok {o : ClassFile.Cond} {off : Int} {x : Int} {H : Heap} {locs : List Loc} {ls : Array Slot} {rest : List Value} (hx : p.tables.exec = Jvm.exec) (hb : c.code = y.2.1) (hd : decode y.2.1 pc = .ok (.ifCond o off, 3)) (ht : (pc : Int) + off = (tg : Int)) (h : -2147483648 ≤ x ∧ x < 2147483648)
    (kt : am_cnd o x 0 → W p l e R s m args below meth c H locs cells slots Q (F0 m tg ls rest)) (kf : ¬ am_cnd o x 0 → W p l e R s m args below meth c H locs cells slots Q (F0 m (pc + 3) ls rest)) : W p l e R s m args below meth c H locs cells slots Q (F0 m pc ls (.int (Int32.ofInt x) :: rest)) := by
  have e0 : (0 : Int32) = Int32.ofInt 0 := by decide +kernel
  have h0 : -2147483648 ≤ (0 : Int) ∧ (0 : Int) < 2147483648 := by omega
  have q1 : (Int32.ofInt x = 0) ↔ x = 0 := by rw [e0]; exact am_eq32 h h0
  have q2 : (Int32.ofInt x < 0) ↔ x < 0 := by rw [e0]; exact am_lt32 h h0
  have q3 : (0 ≤ Int32.ofInt x) ↔ 0 ≤ x := by rw [e0]; exact am_le32 h0 h
  have q4 : (0 < Int32.ofInt x) ↔ 0 < x := by rw [e0]; exact am_lt32 h0 h
  have q5 : (Int32.ofInt x ≤ 0) ↔ x ≤ 0 := by rw [e0]; exact am_le32 h h0
  cases o with
  | eq => exact lv_if_eq hx hb hd ht (fun z => kt (q1.mp z)) (fun z => kf (fun w => z (q1.mpr w)))
  | ne => exact lv_if_ne hx hb hd ht (fun z => kt (fun w => z (q1.mpr w))) (fun z => kf (fun w => w (q1.mp z)))
  | lt => exact lv_if_lt hx hb hd ht (fun z => kt (q2.mp z)) (fun z => kf (fun w => z (q2.mpr w)))
  | ge => exact lv_if_ge hx hb hd ht (fun z => kt (q3.mp z)) (fun z => kf (fun w => z (q3.mpr w)))
  | gt => exact lv_if_gt hx hb hd ht (fun z => kt (q4.mp z)) (fun z => kf (fun w => z (q4.mpr w)))
  | le => exact lv_if_le hx hb hd ht (fun z => kt (q5.mp z)) (fun z => kf (fun w => z (q5.mpr w)))
theorem am_icmp_ok {o : ClassFile.Cond} {off : Int} {x z : Int} {H : Heap} {locs : List Loc} {ls : Array Slot} {rest : List Value} (hx : p.tables.exec = Jvm.exec) (hb : c.code = y.2.1) (hd : decode y.2.1 pc = .ok (.if_icmp o off, 3)) (ht : (pc : Int) + off = (tg : Int)) (h : -2147483648 ≤ x ∧ x < 2147483648) (h0 : -2147483648 ≤ z ∧ z < 2147483648)
    (kt : am_cnd o x z → W p l e R s m args below meth c H locs cells slots Q (F0 m tg ls rest)) (kf : ¬ am_cnd o x z → W p l e R s m args below meth c H locs cells slots Q (F0 m (pc + 3) ls rest)) : W p l e R s m args below meth c H locs cells slots Q (F0 m pc ls (.int (Int32.ofInt z) :: .int (Int32.ofInt x) :: rest)) := by
  have q1 : (Int32.ofInt x = Int32.ofInt z) ↔ x = z := am_eq32 h h0
  have q2 : (Int32.ofInt x < Int32.ofInt z) ↔ x < z := am_lt32 h h0
  have q3 : (Int32.ofInt z ≤ Int32.ofInt x) ↔ z ≤ x := am_le32 h0 h
  have q4 : (Int32.ofInt z < Int32.ofInt x) ↔ z < x := am_lt32 h0 h
  have q5 : (Int32.ofInt x ≤ Int32.ofInt z) ↔ x ≤ z := am_le32 h h0
  cases o with
  | eq => exact lv_icmp_eq hx hb hd ht (fun z => kt (q1.mp z)) (fun z => kf (fun w => z (q1.mpr w)))
  | ne => exact lv_icmp_ne hx hb hd ht (fun z => kt (fun w => z (q1.mpr w))) (fun z => kf (fun w => w (q1.mp z)))
  | lt => exact lv_icmp_lt hx hb hd ht (fun z => kt (q2.mp z)) (fun z => kf (fun w => z (q2.mpr w)))
  | ge => exact lv_icmp_ge hx hb hd ht (fun z => kt (q3.mp z)) (fun z => kf (fun w => z (q3.mpr w)))
  | gt => exact lv_icmp_gt hx hb hd ht (fun z => kt (q4.mp z)) (fun z => kf (fun w => z (q4.mpr w)))
  | le => exact lv_icmp_le hx hb hd ht (fun z => kt (q5.mp z)) (fun z => kf (fun w => z (q5.mpr w)))
theorem am_sg {o : ClassFile.Cond} {x z : Int} : am_cnd o (if z < x then 1 else if x = z then 0 else -1) 0 ↔ am_cnd o x z := by
  by_cases h1 : z < x
  · rw [if_pos h1]; cases o <;> simp only [am_cnd] <;> omega
  · rw [if_neg h1]
    by_cases h2 : x = z
    · rw [if_pos h2]; subst h2; cases o <;> simp [am_cnd]
    · rw [if_neg h2]; cases o <;> simp only [am_cnd] <;> omega
theorem am_br_w (hB : am_B y d p R s m args c D ca tys A H0 cells slots) (h : am_brf y pc st = some (P, C, tg, nx, r)) (hp : P) (kt : C → am_w p l e R s m args below meth c D ad ca A H0 cells slots Q y tg lv r I) (kf : ¬ C → am_w p l e R s m args below meth c D ad ca A H0 cells slots Q y nx lv r I) : am_w p l e R s m args below meth c D ad ca A H0 cells slots Q y pc lv st I := by
  obtain ⟨⟨hx, hb, hml, hown⟩, hts, hN, hK, hT, hA, hR, hC, hk⟩ := hB
  unfold am_brf at h
  split at h
  · rename_i o off nx1 ax1 tg1 hat
    obtain ⟨hd, hn, hw⟩ := am_v1_sp rfl (am_chk_1 hk (am_at_mem hat))
    simp only [am_vx, decide_eq_true_eq] at hw
    split at h
    · rename_i x r1
      rw [am_cndK_eq] at h
      cases h
      subst hn
      intro H locs ls hP hD hS hl
      exact am_if_ok hx hb hd hw hp (fun z => kt z H locs ls hP hD hS hl) (fun z => kf z H locs ls hP hD hS hl)
    · cases h
  · rename_i o off nx1 ax1 tg1 hat
    obtain ⟨hd, hn, hw⟩ := am_v1_sp rfl (am_chk_1 hk (am_at_mem hat))
    simp only [am_vx, decide_eq_true_eq] at hw
    split at h
    · rename_i z x r1
      rw [am_cndK_eq] at h
      cases h
      subst hn
      intro H locs ls hP hD hS hl
      exact am_icmp_ok hx hb hd hw hp.1 hp.2 (fun z => kt z H locs ls hP hD hS hl) (fun z => kf z H locs ls hP hD hS hl)
    · cases h
  · rename_i nx1 ax1 tg1 hat
    obtain ⟨hd, hn, hw⟩ := am_v1_sp rfl (am_chk_1 hk (am_at_mem hat))
    split at h
    · rename_i z x r1
      split at h
      · rename_i o off nx2 ax2 tg2 hat2
        obtain ⟨hd2, hn2, hw2⟩ := am_v1_sp rfl (am_chk_1 hk (am_at_mem hat2))
        simp only [am_vx, decide_eq_true_eq] at hw2
        rw [am_cndK_eq] at h
        cases h
        subst hn2
        intro H locs ls hP hD hS hl
        refine W.lcmp hx hb hd ?_
        rw [am_cmp_lt hp.1 hp.2]
        have e1 : nx1 = pc + 1 := hn
        rw [← e1]
        refine am_if_ok hx hb hd2 hw2 ?_ (fun z => kt (am_sg.mp z) H locs ls hP hD hS hl) (fun z => kf (fun w => z (am_sg.mpr w)) H locs ls hP hD hS hl)
        split
        · omega
        · split <;> omega
      · cases h
    · cases h
  · cases h
end AMB
def am_Qc (D : va_G) (ad : Nat → Nat) (ca : Nat → ClassId) (tys : List (ClassId × FieldType)) (Po : Option am_v → am_I → Prop) (ws : va_W) (sz : Nat) : Array Value → State → Outcome → State → Prop := fun _ st oc t => (∃ (r : Option am_v) (I' : am_I), oc = .returned (r.map (am_c ad)) ∧ Po r I' ∧ va_P D es_cl (am_W ad ca I') t.heap ∧ va_K D es_cl tys t ∧ va_D (va_A ws sz) (am_W ad ca I')) ∧ va_F (va_A ws sz) st t
def am_ws (y : am_Y) : List Jvm.Cond := .code y.1 y.2.1 y.2.2.1 y.2.2.2.1 :: es_gt
def am_rm (d : Nat) : Room := { frames := d, cells := 0, slots := 0, locals := 37 * d }
def am_Pc (D : va_G) (ad : Nat → Nat) (ca : Nat → ClassId) (tys : List (ClassId × FieldType)) (as : List am_v) (I : am_I) (sz : Nat) : Array Value → State → Prop := va_Pc (as.map (am_c ad)) (fun U => U.heap.size = sz ∧ va_P D es_cl (am_W ad ca I) U.heap ∧ va_K D es_cl tys U ∧ es_N U ∧ va_D (fun _ => True) (am_W ad ca I))
def am_C (d : Nat) (y : am_Y) (as : List am_v) (I : am_I) (Po : Option am_v → am_I → Prop) : Prop := ∀ (l : Launch) (D : va_G) (ad : Nat → Nat) (ca : Nat → ClassId) (tys : List (ClassId × FieldType)) (sz : Nat), am_T ca tys → Met l y.1 (am_ws y) (am_rm d) (am_Pc D ad ca tys as I sz) (am_Qc D ad ca tys Po (am_W ad ca I) sz) 0 0 (va_A (am_W ad ca I) sz)
def am_EM (d : Nat) (y : am_Y) (Po : Option am_v → am_I → Prop) (I0 : am_I) (p : Program) (R : Room) (s : State) (m : MethodId) (args : Array Value) (below : List Frame) (meth : Method) (c : Code) (D : va_G) (ad : Nat → Nat) (ca : Nat → ClassId) (tys : List (ClassId × FieldType)) (A : Nat → Prop) (H0 : Heap) (Q : State → Prop) : Prop :=
  am_B y d p R s m args c D ca tys A H0 0 0 ∧ H0 = s.heap ∧ A = va_A (am_W ad ca I0) s.heap.size ∧ meth.sig.returnType = y.2.2.2.1 ∧ meth.locks = false ∧ Q = MQ below (am_Qc D ad ca tys Po (am_W ad ca I0) s.heap.size) args s 0 0 (va_A (am_W ad ca I0) s.heap.size)
def am_V (d : Nat) (y : am_Y) (Po : Option am_v → am_I → Prop) (pc : Nat) (lv : List (Nat × am_v)) (st : List am_v) (I : am_I) : Prop :=
  ∀ (I0 : am_I) (p : Program) (l : Launch) (e : Env) (R : Room) (s : State) (m : MethodId) (args : Array Value) (below : List Frame) (meth : Method) (c : Code) (D : va_G) (ad : Nat → Nat) (ca : Nat → ClassId) (tys : List (ClassId × FieldType)) (A : Nat → Prop) (H0 : Heap) (Q : State → Prop), am_EM d y Po I0 p R s m args below meth c D ad ca tys A H0 Q → am_w p l e R s m args below meth c D ad ca A H0 0 0 Q y pc lv st I
theorem am_go {d : Nat} {y : am_Y} {Po : Option am_v → am_I → Prop} {pc pc' : Nat} {lv lv' : List (Nat × am_v)} {st st' : List am_v} {I I' : am_I} {P : Option Prop} (n : Nat) (ss : List Nat) (h : am_run n ss y pc lv st I = some (P, pc', lv', st', I')) (hp : am_p P) (k : am_V d y Po pc' lv' st' I') : am_V d y Po pc lv st I := by
  intro I0 p l e R s m args below meth c D ad ca tys A H0 Q hE
  exact am_run_ok hE.1 ss n pc lv st I P h hp (k I0 p l e R s m args below meth c D ad ca tys A H0 Q hE)
theorem am_br {d : Nat} {y : am_Y} {Po : Option am_v → am_I → Prop} {pc tg nx : Nat} {lv : List (Nat × am_v)} {st r : List am_v} {I : am_I} {P C : Prop} (h : am_brf y pc st = some (P, C, tg, nx, r)) (hp : P) (kt : C → am_V d y Po tg lv r I) (kf : ¬ C → am_V d y Po nx lv r I) : am_V d y Po pc lv st I := by
  intro I0 p l e R s m args below meth c D ad ca tys A H0 Q hE
  exact am_br_w hE.1 h hp (fun z => kt z I0 p l e R s m args below meth c D ad ca tys A H0 Q hE) (fun z => kf z I0 p l e R s m args below meth c D ad ca tys A H0 Q hE)
theorem am_weak {d : Nat} {y : am_Y} {Po : Option am_v → am_I → Prop} {pc : Nat} {lv lv' : List (Nat × am_v)} {st : List am_v} {I : am_I} (h : ∀ q ∈ lv', q ∈ lv) (k : am_V d y Po pc lv' st I) : am_V d y Po pc lv st I := by
  intro I0 p l e R s m args below meth c D ad ca tys A H0 Q hE H locs ls hP hD hS hl
  refine k I0 p l e R s m args below meth c D ad ca tys A H0 Q hE H locs ls hP hD hS ⟨hl.1, hl.2.1, fun q hq => hl.2.2 q ?_⟩
  obtain ⟨z, hz, rfl⟩ := List.mem_map.mp hq
  exact List.mem_map.mpr ⟨z, h z hz, rfl⟩
def am_rtf (y : am_Y) (pc : Nat) (st : List am_v) : Option (Option Prop × Option am_v) := match am_at y.2.2.2.2.1 pc with
  | some (.ireturn, _, _, _) => match st with
    | [.inl x] => match y.2.2.2.1 with
      | some .int => some (none, some (.inl x))
      | some .boolean => some (some (x = 0 ∨ x = 1), some (.inl x))
      | _ => none
    | _ => none
  | some (.lreturn, _, _, _) => match st with
    | [.inr (.inl x)] => match y.2.2.2.1 with
      | some .long => some (none, some (.inr (.inl x)))
      | _ => none
    | _ => none
  | some (.return_, _, _, _) => match st with
    | [] => match y.2.2.2.1 with
      | none => some (none, none)
      | _ => none
    | _ => none
  | _ => none
theorem am_rt {d : Nat} {y : am_Y} {Po : Option am_v → am_I → Prop} {pc : Nat} {lv : List (Nat × am_v)} {st : List am_v} {I : am_I} {P : Option Prop} {r : Option am_v} (h : am_rtf y pc st = some (P, r)) (hp : am_p P) (k : Po r I) : am_V d y Po pc lv st I := by
  intro I0 p l e R s m args below meth c D ad ca tys A H0 Q hE H locs ls hP hD hS hl
  obtain ⟨⟨⟨hx, hb, hml, hown⟩, hts, hN, hK, hT, hA, hR, hC, hk⟩, rfl, rfl, hr, hlocks, rfl⟩ := hE
  have fin : ∀ t : State, t.heap = H → s.WarmedH t.vm → am_Qc D ad ca tys Po (am_W ad ca I0) s.heap.size args s (.returned (r.map (am_c ad))) t := fun t ht hW => ⟨⟨r, I, rfl, k, by rw [ht]; exact hP, va_K.moved hW.alike hK, hD⟩, hS.F ht⟩
  unfold am_rtf at h
  split at h
  · rename_i nx1 ax1 tg1 hat
    obtain ⟨hd, hn, hw⟩ := am_v1_sp rfl (am_chk_1 hk (am_at_mem hat))
    split at h
    · rename_i x
      split at h
      · rename_i hy
        cases h
        rw [hy] at hr
        exact W.iret hx hb hr fin hS.2.2 hd hlocks
      · rename_i hy
        cases h
        rw [hy] at hr
        exact W.zret hx hb hr (by rcases (show x = 0 ∨ x = 1 from hp) with rfl | rfl <;> decide +kernel) fin hS.2.2 hd hlocks
      · cases h
    · cases h
  · rename_i nx1 ax1 tg1 hat
    obtain ⟨hd, hn, hw⟩ := am_v1_sp rfl (am_chk_1 hk (am_at_mem hat))
    split at h
    · rename_i x
      split at h
      · rename_i hy
        cases h
        rw [hy] at hr
        exact W.lret hx hb hr fin hS.2.2 hd hlocks
      · cases h
    · cases h
  · rename_i nx1 ax1 tg1 hat
    obtain ⟨hd, hn, hw⟩ := am_v1_sp rfl (am_chk_1 hk (am_at_mem hat))
    split at h
    · split at h
      · rename_i hy
        cases h
        rw [hy] at hr
        exact W.vret hx hb hr fin hS.2.2 hd hlocks
      · cases h
    · cases h
  · cases h
def am_args : Nat → List am_v → List (Nat × am_v)
  | _, [] => []
  | i, v :: vs => match am_wide v with
    | true => (i, v) :: am_args (i + 2) vs
    | false => (i, v) :: am_args (i + 1) vs
theorem am_args_eq (ad : Nat → Nat) : ∀ (as : List am_v) (i : Nat), am_cl ad (am_args i as) = lv_args i (as.map (am_c ad))
  | [], i => rfl
  | v :: vs, i => by
    simp only [am_args, List.map_cons, lv_args, am_wide_cat]
    cases hw : am_wide v with
    | true => simp only [if_true]; rw [← am_args_eq ad vs (i + 2)]; rfl
    | false =>
      have e : ¬ ((if false = true then 2 else 1) = 2) := by decide
      simp only [e, if_false]
      rw [← am_args_eq ad vs (i + 1)]; rfl
def am_sz : List am_v → Nat
  | [] => 0
  | v :: vs => match am_wide v with
    | true => am_sz vs + 2
    | false => am_sz vs + 1
theorem am_sz_eq (ad : Nat → Nat) : ∀ (as : List am_v), (lg_sl (as.map (am_c ad))).length = am_sz as
  | [] => rfl
  | v :: vs => by
    have ih := am_sz_eq ad vs
    unfold lg_sl at ih ⊢
    rw [List.map_cons, List.flatMap_cons, List.length_append, ih]
    rcases v with x | x | x <;> simp [am_sz, am_wide, am_c, Value.category] <;> omega
def am_yok (y : am_Y) : Prop := am_chk y ∧ plainName y.1.cls = true ∧ y.2.2.1 ≤ 18 ∧ Jvm.Cond.code y.1 y.2.1 y.2.2.1 y.2.2.2.1 ∈ es_gt
theorem am_enter {d : Nat} {y : am_Y} {as : List am_v} {I : am_I} {Po : Option am_v → am_I → Prop} (hy : am_yok y) (hz : Nat.ble (am_sz as) y.2.2.1 = true) (h : am_V d y Po 0 (am_args 0 as) [] I) : am_C d y as I Po := by
  intro l D ad ca tys sz hT
  refine Met.ofW (cc := y.2.1) (maxL := y.2.2.1) (ret := y.2.2.2.1) hy.2.1 rfl ?_
  intro p e s m args below meth c s₁ B hml hv
  obtain ⟨rfl, hsz, hP, hK, hN, hD⟩ := hv
  subst hsz
  have hts := atoms_spec (ws := am_ws y) B.pre
  have hl := lv_entry (as.map (am_c ad)) (n := y.2.2.1) (by rw [am_sz_eq]; exact Nat.le_of_ble_eq_true hz)
  rw [lg_entry_eq]
  refine h I p l e _ s m _ below meth c D ad ca tys (va_A (am_W ad ca I) s.heap.size) s.heap _ ⟨⟨⟨B.exec, B.bytes, hml, findClass_of_methodNamed B.named⟩, fun w hw => hts w (List.mem_cons_of_mem _ hw), hN, hK, hT, fun q h => Or.inr h, ⟨Nat.le_refl _, Nat.le_refl _⟩, ⟨Nat.zero_le _, Nat.zero_le _⟩, hy.1⟩, rfl, rfl, B.returns, B.notSynchronized, rfl⟩ s.heap [] _ hP hD.self va_S.rf ?_
  rw [am_args_eq]
  exact hl
