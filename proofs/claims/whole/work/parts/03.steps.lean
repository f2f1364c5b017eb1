def am_len (ins : Instr) : Nat := match ins with
  | .bipush _ => 2
  | .sipush _ => 3
  | .ldc _ => 2
  | .ldc_w _ => 3
  | .ldc2_w _ => 3
  | .iload _ => 2
  | .lload _ => 2
  | .aload _ => 2
  | .istore _ => 2
  | .lstore _ => 2
  | .astore _ => 2
  | .iinc _ _ => 3
  | .goto _ => 3
  | .getfield _ => 3
  | .putfield _ => 3
  | .invokevirtual _ => 3
  | .invokestatic _ => 3
  | .invokespecial _ => 3
  | .new _ => 3
  | .if_icmp _ _ => 3
  | .ifCond _ _ => 3
  | _ => 1
def am_wd (i : Nat) (w : Jvm.Cond) : Bool := match am_nth es_tbl i with
  | some v => decide (v = w) && goodWord w
  | none => false
theorem am_wd_in (i : Nat) {w : Jvm.Cond} (h : am_wd i w = true) : w ∈ es_gt := by
  unfold am_wd at h
  split at h
  · rename_i v hv
    simp only [Bool.and_eq_true, decide_eq_true_eq] at h
    rw [am_nth_eq] at hv
    obtain ⟨rfl, hg⟩ := h
    exact es_gt_in (List.mem_of_getElem? hv) hg
  · cases h
def am_vx (own : String) (mL : Nat) (e : am_e) : Bool := match e.2.1 with
  | .iconst n => decide (Int32.ofInt n = Int32.ofInt e.2.2.2.1)
  | .bipush n => decide ((Int8.ofInt n).toInt32 = Int32.ofInt e.2.2.2.1)
  | .sipush n => decide ((Int16.ofInt n).toInt32 = Int32.ofInt e.2.2.2.1)
  | .ldc i => am_wd e.2.2.2.2 (.constant own i (Int32.ofInt e.2.2.2.1))
  | .ldc_w i => am_wd e.2.2.2.2 (.constant own i (Int32.ofInt e.2.2.2.1))
  | .ldc2_w i => am_wd e.2.2.2.2 (.constantLong own i (Int64.ofInt e.2.2.2.1))
  | .lconst n => decide (Int64.ofNat (n : Nat) = Int64.ofInt e.2.2.2.1)
  | .iload i => decide (i = e.2.2.2.2)
  | .lload i => decide (i = e.2.2.2.2)
  | .aload i => decide (i = e.2.2.2.2)
  | .iload_n i => decide ((i : Nat) = e.2.2.2.2)
  | .lload_n i => decide ((i : Nat) = e.2.2.2.2)
  | .aload_n i => decide ((i : Nat) = e.2.2.2.2)
  | .istore i => decide (i = e.2.2.2.2 ∧ i < mL)
  | .istore_n i => decide ((i : Nat) = e.2.2.2.2 ∧ (i : Nat) < mL)
  | .lstore i => decide (i = e.2.2.2.2 ∧ i + 1 < mL)
  | .lstore_n i => decide ((i : Nat) = e.2.2.2.2 ∧ (i : Nat) + 1 < mL)
  | .iinc i n => decide ((i = e.2.2.2.2 ∧ i < mL) ∧ Int32.ofInt n = Int32.ofInt e.2.2.2.1)
  | .goto o => decide ((e.1 : Int) + o = (e.2.2.2.2 : Int))
  | .if_icmp _ o => decide ((e.1 : Int) + o = (e.2.2.2.2 : Int))
  | .ifCond _ o => decide ((e.1 : Int) + o = (e.2.2.2.2 : Int))
  | _ => true
def am_isT (ins : Instr) : Bool := match ins with
  | .tableswitch _ _ _ _ => true
  | _ => false
def am_v1 (own : String) (bs : ByteArray) (mL : Nat) (e : am_e) : Bool := match am_isT e.2.1 with
  | true => decide (decode bs e.1 = .ok (e.2.1, e.2.2.1 - e.1))
  | false => decide (decode bs e.1 = .ok (e.2.1, am_len e.2.1)) && (decide (e.2.2.1 = e.1 + am_len e.2.1) && am_vx own mL e)
def am_fok (own : String) (q : Nat × Nat × Nat) : Prop := ∃ r : vw_C, es_cl[q.2.1]? = some r ∧ q.2.2 < r.2.2 ∧ ∃ ref : String, Jvm.Cond.fieldLink own q.1 ref (r.2.1 q.2.2).2.1 (r.2.1 q.2.2).2.2.1 ∈ es_gt ∧ (ref = (r.2.1 q.2.2).1 ∨ Jvm.Cond.sameField ref (r.2.1 q.2.2).1 (r.2.1 q.2.2).2.1 (r.2.1 q.2.2).2.2.1 ∈ es_gt)
def am_chk (y : am_Y) : Prop := y.2.2.2.2.1.all (am_v1 y.1.cls y.2.1 y.2.2.1) = true ∧ ∀ q ∈ y.2.2.2.2.2, am_fok y.1.cls q
def es_sh1 (x : am_sh) : Bool := match x with
  | .inl o => match es_cl[o.1]? with
    | none => false
    | some r => decide (o.2.length = r.2.2) && (List.range r.2.2).all (fun j => match o.2[j]? with
      | some (.inl b) => decide ((r.2.1 j).2.2.1 = if b then "Z" else "I") && decide ((r.2.1 j).2.2.2 = false)
      | _ => true)
  | .inr a => decide (0 ≤ a.2.1 ∧ a.2.1 < 2147483648)
theorem es_shok : ES.all es_sh1 = true := by decide +kernel
theorem es_sh_arr {k : Nat} {a : FieldType × Int × List Nat} (h : am_nth ES k = some (.inr a)) : 0 ≤ a.2.1 ∧ a.2.1 < 2147483648 := by
  rw [am_nth_eq] at h
  have h1 := List.all_eq_true.mp es_shok _ (List.mem_of_getElem? h)
  exact of_decide_eq_true h1
theorem es_sh_fld {k : Nat} {o : Nat × List (Bool ⊕ Nat)} (h : am_nth ES k = some (.inl o)) : ∃ r : vw_C, es_cl[o.1]? = some r ∧ o.2.length = r.2.2 ∧ ∀ (j : Nat) (b : Bool), o.2[j]? = some (.inl b) → (r.2.1 j).2.2.1 = (if b then "Z" else "I") ∧ (r.2.1 j).2.2.2 = false := by
  rw [am_nth_eq] at h
  have h1 := List.all_eq_true.mp es_shok _ (List.mem_of_getElem? h)
  unfold es_sh1 at h1
  dsimp only at h1
  cases hc : es_cl[o.1]? with
  | none => rw [hc] at h1; cases h1
  | some r =>
    rw [hc] at h1
    simp only [Bool.and_eq_true, decide_eq_true_eq] at h1
    refine ⟨r, rfl, h1.1, fun j b hj => ?_⟩
    have hl : j < r.2.2 := by rw [← h1.1]; exact (List.getElem?_eq_some_iff.mp hj).1
    have h2 := List.all_eq_true.mp h1.2 j (List.mem_range.mpr hl)
    rw [hj] at h2
    simpa using h2
def am_T (ca : Nat → ClassId) (tys : List (ClassId × FieldType)) : Prop := ∀ (k : Nat) (a : FieldType × Int × List Nat), am_nth ES k = some (.inr a) → ∃ t0 : Nat, tys[t0]? = some (ca k, a.1)
def am_B (y : am_Y) (d : Nat) (p : Program) (R : Room) (s : State) (m : MethodId) (args : Array Value) (c : Code) (D : va_G) (ca : Nat → ClassId) (tys : List (ClassId × FieldType)) (A : Nat → Prop) (H0 : Heap) (cells slots : Nat) : Prop :=
  (p.tables.exec = Jvm.exec ∧ c.code = y.2.1 ∧ c.maxLocals = y.2.2.1 ∧ s.vm.findClass y.1.cls = some m.cls) ∧ (∀ w ∈ es_gt, w.before args s = true) ∧ es_N s ∧ va_K D es_cl tys s ∧ am_T ca tys ∧ (∀ q, H0.size ≤ q → A q) ∧ (d ≤ R.frames ∧ 37 * d ≤ R.locals) ∧ (cells ≤ R.cells ∧ slots ≤ R.slots) ∧ am_chk y
def am_w (p : Program) (l : Launch) (e : Env) (R : Room) (s : State) (m : MethodId) (args : Array Value) (below : List Frame) (meth : Method) (c : Code) (D : va_G) (ad : Nat → Nat) (ca : Nat → ClassId) (A : Nat → Prop) (H0 : Heap) (cells slots : Nat) (Q : State → Prop) (y : am_Y) (pc : Nat) (lv : List (Nat × am_v)) (st : List am_v) (I : am_I) : Prop :=
  ∀ (H : Heap) (locs : List Loc) (ls : Array Slot), va_P D es_cl (am_W ad ca I) H → va_D A (am_W ad ca I) → va_S A H0 H locs → lv_has ls y.2.2.1 (am_cl ad lv) → W p l e R s m args below meth c H locs cells slots Q (F0 m pc ls (st.map (am_c ad)))
theorem am_v1_sp {own : String} {bs : ByteArray} {mL pc nx tg : Nat} {ins : Instr} {ax : Int} (ht : am_isT ins = false) (h : am_v1 own bs mL (pc, ins, nx, ax, tg) = true) : decode bs pc = .ok (ins, am_len ins) ∧ nx = pc + am_len ins ∧ am_vx own mL (pc, ins, nx, ax, tg) = true := by
  unfold am_v1 at h
  dsimp only at h
  rw [ht] at h
  simpa using h
theorem am_chk_1 {y : am_Y} (h : am_chk y) {e : am_e} (he : e ∈ y.2.2.2.2.1) : am_v1 y.1.cls y.2.1 y.2.2.1 e = true := List.all_eq_true.mp h.1 e he
theorem am_chk_f {y : am_Y} (h : am_chk y) {q : Nat × Nat × Nat} (he : q ∈ y.2.2.2.2.2) : am_fok y.1.cls q := h.2 q he
theorem am_min32 : Int32.minValue.toInt = -2147483648 := by decide +kernel
theorem am_max32 : Int32.maxValue.toInt = 2147483647 := by decide +kernel
theorem am_min64 : Int64.minValue.toInt = -9223372036854775808 := by decide +kernel
theorem am_max64 : Int64.maxValue.toInt = 9223372036854775807 := by decide +kernel
theorem am_toI {x : Int} (h : -2147483648 ≤ x ∧ x < 2147483648) : (Int32.ofInt x).toInt = x := Int32.toInt_ofInt_of_le (by omega) (by omega)
theorem am_toL {x : Int} (h : -9223372036854775808 ≤ x ∧ x < 9223372036854775808) : (Int64.ofInt x).toInt = x := Int64.toInt_ofInt_of_le (by omega) (by omega)
theorem am_eq32 {x y : Int} (hx : -2147483648 ≤ x ∧ x < 2147483648) (hy : -2147483648 ≤ y ∧ y < 2147483648) : Int32.ofInt x = Int32.ofInt y ↔ x = y := by
  rw [← Int32.toInt_inj, am_toI hx, am_toI hy]
theorem am_lt32 {x y : Int} (hx : -2147483648 ≤ x ∧ x < 2147483648) (hy : -2147483648 ≤ y ∧ y < 2147483648) : Int32.ofInt x < Int32.ofInt y ↔ x < y := by
  rw [Int32.lt_iff_toInt_lt, am_toI hx, am_toI hy]
theorem am_le32 {x y : Int} (hx : -2147483648 ≤ x ∧ x < 2147483648) (hy : -2147483648 ≤ y ∧ y < 2147483648) : Int32.ofInt x ≤ Int32.ofInt y ↔ x ≤ y := by
  rw [Int32.le_iff_toInt_le, am_toI hx, am_toI hy]
theorem am_eq64 {x y : Int} (hx : -9223372036854775808 ≤ x ∧ x < 9223372036854775808) (hy : -9223372036854775808 ≤ y ∧ y < 9223372036854775808) : Int64.ofInt x = Int64.ofInt y ↔ x = y := by
  rw [← Int64.toInt_inj, am_toL hx, am_toL hy]
theorem am_lt64 {x y : Int} (hx : -9223372036854775808 ≤ x ∧ x < 9223372036854775808) (hy : -9223372036854775808 ≤ y ∧ y < 9223372036854775808) : Int64.ofInt x < Int64.ofInt y ↔ x < y := by
  rw [Int64.lt_iff_toInt_lt, am_toL hx, am_toL hy]
theorem am_idx {i n : Int} (h : 0 ≤ i ∧ i < n) (hn : n < 2147483648) : vp_in (Int32.ofInt i) n.toNat ∧ (Int32.ofInt i).toNatClampNeg = i.toNat := by
  have e1 := am_toI (x := i) (by omega)
  refine ⟨vp_in_iff.mpr (by rw [e1]; omega), ?_⟩
  show (Int32.ofInt i).toInt.toNat = i.toNat
  rw [e1]
theorem am_ofdiv {x y : Int} (hx : 0 ≤ x ∧ x < 2147483648) (hy : 0 < y ∧ y < 2147483648) : Int32.ofInt x / Int32.ofInt y = Int32.ofInt (x / y) := by
  rw [← Int32.ofInt_tdiv (by rw [am_min32]; omega) (by rw [am_max32]; omega) (by rw [am_min32]; omega) (by rw [am_max32]; omega), Int.tdiv_eq_ediv_of_nonneg hx.1]
theorem am_ofrem {x y : Int} (hx : 0 ≤ x ∧ x < 2147483648) (hy : 0 < y ∧ y < 2147483648) : Int32.ofInt x - Int32.ofInt x / Int32.ofInt y * Int32.ofInt y = Int32.ofInt (x % y) := by
  rw [am_ofdiv hx hy, ← Int32.ofInt_mul, ← Int32.ofInt_sub]
  congr 1
  have := Int.emod_add_mul_ediv x y
  rw [Int.mul_comm (x / y) y]
  omega
theorem am_nz {y : Int} (hy : 0 < y ∧ y < 2147483648) : ¬ Int32.ofInt y = 0 := by
  intro h
  have e := am_toI (x := y) (by omega)
  rw [h] at e
  have e0 : (0 : Int32).toInt = 0 := by decide +kernel
  rw [e0] at e
  omega
section AMS
variable {p : Program} {l : Launch} {e : Env} {R : Room} {s : State} {m : MethodId} {args : Array Value} {below : List Frame} {meth : Method} {c : Code} {cells slots : Nat} {Q : State → Prop} {D : va_G} {ad : Nat → Nat} {ca : Nat → ClassId} {tys : List (ClassId × FieldType)} {A : Nat → Prop} {H0 : Heap} {y : am_Y} {d : Nat} {pc nx tg pc' : Nat} {ax : Int} {lv lv' : List (Nat × am_v)} {st st' : List am_v} {I I' : am_I} {P : Option Prop}
theorem am_o_iconst {n : Int} (hB : am_B y d p R s m args c D ca tys A H0 cells slots) (hv : am_v1 y.1.cls y.2.1 y.2.2.1 (pc, .iconst n, nx, ax, tg) = true) (h : am_ex y.2.2.2.2.2 (.iconst n) nx ax tg lv st I = some (P, pc', lv', st', I')) (hp : am_p P) (k : am_w p l e R s m args below meth c D ad ca A H0 cells slots Q y pc' lv' st' I') : am_w p l e R s m args below meth c D ad ca A H0 cells slots Q y pc lv st I := by
  obtain ⟨hd, hn, hw⟩ := am_v1_sp rfl hv
  obtain ⟨⟨hx, hb, hml, hown⟩, hts, hN, hK, hT, hA, hR, hC, hk⟩ := hB
  try simp only [am_vx, decide_eq_true_eq] at hw
  subst hn
  simp only [am_ex] at h
  cases h
  intro H locs ls hP hD hS hl
  exact lv_iconst hx hb hd hw (k H locs ls hP hD hS hl)
theorem am_o_bipush {n : Int} (hB : am_B y d p R s m args c D ca tys A H0 cells slots) (hv : am_v1 y.1.cls y.2.1 y.2.2.1 (pc, .bipush n, nx, ax, tg) = true) (h : am_ex y.2.2.2.2.2 (.bipush n) nx ax tg lv st I = some (P, pc', lv', st', I')) (hp : am_p P) (k : am_w p l e R s m args below meth c D ad ca A H0 cells slots Q y pc' lv' st' I') : am_w p l e R s m args below meth c D ad ca A H0 cells slots Q y pc lv st I := by
  obtain ⟨hd, hn, hw⟩ := am_v1_sp rfl hv
  obtain ⟨⟨hx, hb, hml, hown⟩, hts, hN, hK, hT, hA, hR, hC, hk⟩ := hB
  try simp only [am_vx, decide_eq_true_eq] at hw
  subst hn
  simp only [am_ex] at h
  cases h
  intro H locs ls hP hD hS hl
  exact lv_bipush hx hb hd hw (k H locs ls hP hD hS hl)
theorem am_o_sipush {n : Int} (hB : am_B y d p R s m args c D ca tys A H0 cells slots) (hv : am_v1 y.1.cls y.2.1 y.2.2.1 (pc, .sipush n, nx, ax, tg) = true) (h : am_ex y.2.2.2.2.2 (.sipush n) nx ax tg lv st I = some (P, pc', lv', st', I')) (hp : am_p P) (k : am_w p l e R s m args below meth c D ad ca A H0 cells slots Q y pc' lv' st' I') : am_w p l e R s m args below meth c D ad ca A H0 cells slots Q y pc lv st I := by
  obtain ⟨hd, hn, hw⟩ := am_v1_sp rfl hv
  obtain ⟨⟨hx, hb, hml, hown⟩, hts, hN, hK, hT, hA, hR, hC, hk⟩ := hB
  try simp only [am_vx, decide_eq_true_eq] at hw
  subst hn
  simp only [am_ex] at h
  cases h
  intro H locs ls hP hD hS hl
  exact lv_sipush hx hb hd hw (k H locs ls hP hD hS hl)
theorem am_o_lconst {n : Fin 2} (hB : am_B y d p R s m args c D ca tys A H0 cells slots) (hv : am_v1 y.1.cls y.2.1 y.2.2.1 (pc, .lconst n, nx, ax, tg) = true) (h : am_ex y.2.2.2.2.2 (.lconst n) nx ax tg lv st I = some (P, pc', lv', st', I')) (hp : am_p P) (k : am_w p l e R s m args below meth c D ad ca A H0 cells slots Q y pc' lv' st' I') : am_w p l e R s m args below meth c D ad ca A H0 cells slots Q y pc lv st I := by
  obtain ⟨hd, hn, hw⟩ := am_v1_sp rfl hv
  obtain ⟨⟨hx, hb, hml, hown⟩, hts, hN, hK, hT, hA, hR, hC, hk⟩ := hB
  try simp only [am_vx, decide_eq_true_eq] at hw
  subst hn
  simp only [am_ex] at h
  cases h
  intro H locs ls hP hD hS hl
  exact lv_lconst hx hb hd hw (k H locs ls hP hD hS hl)
theorem am_o_ldc {n : Nat} (hB : am_B y d p R s m args c D ca tys A H0 cells slots) (hv : am_v1 y.1.cls y.2.1 y.2.2.1 (pc, .ldc n, nx, ax, tg) = true) (h : am_ex y.2.2.2.2.2 (.ldc n) nx ax tg lv st I = some (P, pc', lv', st', I')) (hp : am_p P) (k : am_w p l e R s m args below meth c D ad ca A H0 cells slots Q y pc' lv' st' I') : am_w p l e R s m args below meth c D ad ca A H0 cells slots Q y pc lv st I := by
  obtain ⟨hd, hn, hw⟩ := am_v1_sp rfl hv
  obtain ⟨⟨hx, hb, hml, hown⟩, hts, hN, hK, hT, hA, hR, hC, hk⟩ := hB
  try simp only [am_vx, decide_eq_true_eq] at hw
  subst hn
  simp only [am_ex] at h
  cases h
  intro H locs ls hP hD hS hl
  exact lv_ldc hx hb hown (hts _ (am_wd_in _ hw)) hd (k H locs ls hP hD hS hl)
theorem am_o_ldc_w {n : Nat} (hB : am_B y d p R s m args c D ca tys A H0 cells slots) (hv : am_v1 y.1.cls y.2.1 y.2.2.1 (pc, .ldc_w n, nx, ax, tg) = true) (h : am_ex y.2.2.2.2.2 (.ldc_w n) nx ax tg lv st I = some (P, pc', lv', st', I')) (hp : am_p P) (k : am_w p l e R s m args below meth c D ad ca A H0 cells slots Q y pc' lv' st' I') : am_w p l e R s m args below meth c D ad ca A H0 cells slots Q y pc lv st I := by
  obtain ⟨hd, hn, hw⟩ := am_v1_sp rfl hv
  obtain ⟨⟨hx, hb, hml, hown⟩, hts, hN, hK, hT, hA, hR, hC, hk⟩ := hB
  try simp only [am_vx, decide_eq_true_eq] at hw
  subst hn
  simp only [am_ex] at h
  cases h
  intro H locs ls hP hD hS hl
  exact lv_ldcw hx hb hown (hts _ (am_wd_in _ hw)) hd (k H locs ls hP hD hS hl)
theorem am_o_ldc2 {n : Nat} (hB : am_B y d p R s m args c D ca tys A H0 cells slots) (hv : am_v1 y.1.cls y.2.1 y.2.2.1 (pc, .ldc2_w n, nx, ax, tg) = true) (h : am_ex y.2.2.2.2.2 (.ldc2_w n) nx ax tg lv st I = some (P, pc', lv', st', I')) (hp : am_p P) (k : am_w p l e R s m args below meth c D ad ca A H0 cells slots Q y pc' lv' st' I') : am_w p l e R s m args below meth c D ad ca A H0 cells slots Q y pc lv st I := by
  obtain ⟨hd, hn, hw⟩ := am_v1_sp rfl hv
  obtain ⟨⟨hx, hb, hml, hown⟩, hts, hN, hK, hT, hA, hR, hC, hk⟩ := hB
  try simp only [am_vx, decide_eq_true_eq] at hw
  subst hn
  simp only [am_ex] at h
  cases h
  intro H locs ls hP hD hS hl
  exact lv_ldc2 hx hb hown (hts _ (am_wd_in _ hw)) hd (k H locs ls hP hD hS hl)
theorem am_o_iload {n : Nat} (hB : am_B y d p R s m args c D ca tys A H0 cells slots) (hv : am_v1 y.1.cls y.2.1 y.2.2.1 (pc, .iload n, nx, ax, tg) = true) (h : am_ex y.2.2.2.2.2 (.iload n) nx ax tg lv st I = some (P, pc', lv', st', I')) (hp : am_p P) (k : am_w p l e R s m args below meth c D ad ca A H0 cells slots Q y pc' lv' st' I') : am_w p l e R s m args below meth c D ad ca A H0 cells slots Q y pc lv st I := by
  obtain ⟨hd, hn, hw⟩ := am_v1_sp rfl hv
  obtain ⟨⟨hx, hb, hml, hown⟩, hts, hN, hK, hT, hA, hR, hC, hk⟩ := hB
  try simp only [am_vx, decide_eq_true_eq] at hw
  subst hn
  simp only [am_ex, am_ldi] at h
  split at h
  · rename_i x hx2
    cases h
    subst hw
    intro H locs ls hP hD hS hl
    exact lv_iload hx hb hd (am_lv_get hl hx2) (k H locs ls hP hD hS hl)
  · cases h
theorem am_o_iload_n {n : Fin 4} (hB : am_B y d p R s m args c D ca tys A H0 cells slots) (hv : am_v1 y.1.cls y.2.1 y.2.2.1 (pc, .iload_n n, nx, ax, tg) = true) (h : am_ex y.2.2.2.2.2 (.iload_n n) nx ax tg lv st I = some (P, pc', lv', st', I')) (hp : am_p P) (k : am_w p l e R s m args below meth c D ad ca A H0 cells slots Q y pc' lv' st' I') : am_w p l e R s m args below meth c D ad ca A H0 cells slots Q y pc lv st I := by
  obtain ⟨hd, hn, hw⟩ := am_v1_sp rfl hv
  obtain ⟨⟨hx, hb, hml, hown⟩, hts, hN, hK, hT, hA, hR, hC, hk⟩ := hB
  try simp only [am_vx, decide_eq_true_eq] at hw
  subst hn
  simp only [am_ex, am_ldi] at h
  split at h
  · rename_i x hx2
    cases h
    intro H locs ls hP hD hS hl
    exact lv_iload_n hx hb hd hw (am_lv_get hl hx2) (k H locs ls hP hD hS hl)
  · cases h
theorem am_o_lload {n : Nat} (hB : am_B y d p R s m args c D ca tys A H0 cells slots) (hv : am_v1 y.1.cls y.2.1 y.2.2.1 (pc, .lload n, nx, ax, tg) = true) (h : am_ex y.2.2.2.2.2 (.lload n) nx ax tg lv st I = some (P, pc', lv', st', I')) (hp : am_p P) (k : am_w p l e R s m args below meth c D ad ca A H0 cells slots Q y pc' lv' st' I') : am_w p l e R s m args below meth c D ad ca A H0 cells slots Q y pc lv st I := by
  obtain ⟨hd, hn, hw⟩ := am_v1_sp rfl hv
  obtain ⟨⟨hx, hb, hml, hown⟩, hts, hN, hK, hT, hA, hR, hC, hk⟩ := hB
  try simp only [am_vx, decide_eq_true_eq] at hw
  subst hn
  simp only [am_ex, am_ldl] at h
  split at h
  · rename_i x hx2
    cases h
    subst hw
    intro H locs ls hP hD hS hl
    exact lv_lload hx hb hd (am_lv_get hl hx2) (k H locs ls hP hD hS hl)
  · cases h
theorem am_o_lload_n {n : Fin 4} (hB : am_B y d p R s m args c D ca tys A H0 cells slots) (hv : am_v1 y.1.cls y.2.1 y.2.2.1 (pc, .lload_n n, nx, ax, tg) = true) (h : am_ex y.2.2.2.2.2 (.lload_n n) nx ax tg lv st I = some (P, pc', lv', st', I')) (hp : am_p P) (k : am_w p l e R s m args below meth c D ad ca A H0 cells slots Q y pc' lv' st' I') : am_w p l e R s m args below meth c D ad ca A H0 cells slots Q y pc lv st I := by
  obtain ⟨hd, hn, hw⟩ := am_v1_sp rfl hv
  obtain ⟨⟨hx, hb, hml, hown⟩, hts, hN, hK, hT, hA, hR, hC, hk⟩ := hB
  try simp only [am_vx, decide_eq_true_eq] at hw
  subst hn
  simp only [am_ex, am_ldl] at h
  split at h
  · rename_i x hx2
    cases h
    intro H locs ls hP hD hS hl
    exact lv_lload_n hx hb hd hw (am_lv_get hl hx2) (k H locs ls hP hD hS hl)
  · cases h
theorem am_o_aload {n : Nat} (hB : am_B y d p R s m args c D ca tys A H0 cells slots) (hv : am_v1 y.1.cls y.2.1 y.2.2.1 (pc, .aload n, nx, ax, tg) = true) (h : am_ex y.2.2.2.2.2 (.aload n) nx ax tg lv st I = some (P, pc', lv', st', I')) (hp : am_p P) (k : am_w p l e R s m args below meth c D ad ca A H0 cells slots Q y pc' lv' st' I') : am_w p l e R s m args below meth c D ad ca A H0 cells slots Q y pc lv st I := by
  obtain ⟨hd, hn, hw⟩ := am_v1_sp rfl hv
  obtain ⟨⟨hx, hb, hml, hown⟩, hts, hN, hK, hT, hA, hR, hC, hk⟩ := hB
  try simp only [am_vx, decide_eq_true_eq] at hw
  subst hn
  simp only [am_ex, am_lda] at h
  split at h
  · rename_i x hx2
    cases h
    subst hw
    intro H locs ls hP hD hS hl
    exact lv_aload hx hb hd (am_lv_get hl hx2) (k H locs ls hP hD hS hl)
  · cases h
theorem am_o_aload_n {n : Fin 4} (hB : am_B y d p R s m args c D ca tys A H0 cells slots) (hv : am_v1 y.1.cls y.2.1 y.2.2.1 (pc, .aload_n n, nx, ax, tg) = true) (h : am_ex y.2.2.2.2.2 (.aload_n n) nx ax tg lv st I = some (P, pc', lv', st', I')) (hp : am_p P) (k : am_w p l e R s m args below meth c D ad ca A H0 cells slots Q y pc' lv' st' I') : am_w p l e R s m args below meth c D ad ca A H0 cells slots Q y pc lv st I := by
  obtain ⟨hd, hn, hw⟩ := am_v1_sp rfl hv
  obtain ⟨⟨hx, hb, hml, hown⟩, hts, hN, hK, hT, hA, hR, hC, hk⟩ := hB
  try simp only [am_vx, decide_eq_true_eq] at hw
  subst hn
  simp only [am_ex, am_lda] at h
  split at h
  · rename_i x hx2
    cases h
    intro H locs ls hP hD hS hl
    exact lv_aload_n hx hb hd hw (am_lv_get hl hx2) (k H locs ls hP hD hS hl)
  · cases h
theorem am_o_istore {n : Nat} (hB : am_B y d p R s m args c D ca tys A H0 cells slots) (hv : am_v1 y.1.cls y.2.1 y.2.2.1 (pc, .istore n, nx, ax, tg) = true) (h : am_ex y.2.2.2.2.2 (.istore n) nx ax tg lv st I = some (P, pc', lv', st', I')) (hp : am_p P) (k : am_w p l e R s m args below meth c D ad ca A H0 cells slots Q y pc' lv' st' I') : am_w p l e R s m args below meth c D ad ca A H0 cells slots Q y pc lv st I := by
  obtain ⟨hd, hn, hw⟩ := am_v1_sp rfl hv
  obtain ⟨⟨hx, hb, hml, hown⟩, hts, hN, hK, hT, hA, hR, hC, hk⟩ := hB
  try simp only [am_vx, decide_eq_true_eq] at hw
  subst hn
  obtain ⟨hw1, hw2⟩ := hw
  simp only [am_ex, am_i1] at h
  split at h
  · rename_i x r
    obtain ⟨l2, e2, m2⟩ := am_set_eq lv tg _ (fun l' => (some (none, _, l', r, I) : am_R))
    rw [e2] at h
    cases h
    intro H locs ls hP hD hS hl
    refine lv_istore (lv' := _) hx hb hd hl hw2 rfl (fun ls1 hl1 => k H locs ls1 hP hD hS (am_lv_set1 rfl m2 (by rw [← hw1]; exact hl1)))
  · cases h
theorem am_o_istore_n {n : Fin 4} (hB : am_B y d p R s m args c D ca tys A H0 cells slots) (hv : am_v1 y.1.cls y.2.1 y.2.2.1 (pc, .istore_n n, nx, ax, tg) = true) (h : am_ex y.2.2.2.2.2 (.istore_n n) nx ax tg lv st I = some (P, pc', lv', st', I')) (hp : am_p P) (k : am_w p l e R s m args below meth c D ad ca A H0 cells slots Q y pc' lv' st' I') : am_w p l e R s m args below meth c D ad ca A H0 cells slots Q y pc lv st I := by
  obtain ⟨hd, hn, hw⟩ := am_v1_sp rfl hv
  obtain ⟨⟨hx, hb, hml, hown⟩, hts, hN, hK, hT, hA, hR, hC, hk⟩ := hB
  try simp only [am_vx, decide_eq_true_eq] at hw
  subst hn
  obtain ⟨hw1, hw2⟩ := hw
  simp only [am_ex, am_i1] at h
  split at h
  · rename_i x r
    obtain ⟨l2, e2, m2⟩ := am_set_eq lv tg _ (fun l' => (some (none, _, l', r, I) : am_R))
    rw [e2] at h
    cases h
    intro H locs ls hP hD hS hl
    refine lv_istore_n (lv' := _) hx hb hd hw1 hl (by rw [← hw1]; exact hw2) rfl (fun ls1 hl1 => k H locs ls1 hP hD hS (am_lv_set1 rfl m2 hl1))
  · cases h
theorem am_o_lstore {n : Nat} (hB : am_B y d p R s m args c D ca tys A H0 cells slots) (hv : am_v1 y.1.cls y.2.1 y.2.2.1 (pc, .lstore n, nx, ax, tg) = true) (h : am_ex y.2.2.2.2.2 (.lstore n) nx ax tg lv st I = some (P, pc', lv', st', I')) (hp : am_p P) (k : am_w p l e R s m args below meth c D ad ca A H0 cells slots Q y pc' lv' st' I') : am_w p l e R s m args below meth c D ad ca A H0 cells slots Q y pc lv st I := by
  obtain ⟨hd, hn, hw⟩ := am_v1_sp rfl hv
  obtain ⟨⟨hx, hb, hml, hown⟩, hts, hN, hK, hT, hA, hR, hC, hk⟩ := hB
  try simp only [am_vx, decide_eq_true_eq] at hw
  subst hn
  obtain ⟨hw1, hw2⟩ := hw
  simp only [am_ex, am_l1] at h
  split at h
  · rename_i x r
    obtain ⟨l2, e2, m2⟩ := am_set_eq lv tg _ (fun l' => (some (none, _, l', r, I) : am_R))
    rw [e2] at h
    cases h
    intro H locs ls hP hD hS hl
    refine lv_lstore (lv' := _) hx hb hd hl hw2 rfl (fun ls1 hl1 => k H locs ls1 hP hD hS (am_lv_set2 rfl m2 (by rw [← hw1]; exact hl1)))
  · cases h
theorem am_o_lstore_n {n : Fin 4} (hB : am_B y d p R s m args c D ca tys A H0 cells slots) (hv : am_v1 y.1.cls y.2.1 y.2.2.1 (pc, .lstore_n n, nx, ax, tg) = true) (h : am_ex y.2.2.2.2.2 (.lstore_n n) nx ax tg lv st I = some (P, pc', lv', st', I')) (hp : am_p P) (k : am_w p l e R s m args below meth c D ad ca A H0 cells slots Q y pc' lv' st' I') : am_w p l e R s m args below meth c D ad ca A H0 cells slots Q y pc lv st I := by
  obtain ⟨hd, hn, hw⟩ := am_v1_sp rfl hv
  obtain ⟨⟨hx, hb, hml, hown⟩, hts, hN, hK, hT, hA, hR, hC, hk⟩ := hB
  try simp only [am_vx, decide_eq_true_eq] at hw
  subst hn
  obtain ⟨hw1, hw2⟩ := hw
  simp only [am_ex, am_l1] at h
  split at h
  · rename_i x r
    obtain ⟨l2, e2, m2⟩ := am_set_eq lv tg _ (fun l' => (some (none, _, l', r, I) : am_R))
    rw [e2] at h
    cases h
    intro H locs ls hP hD hS hl
    refine lv_lstore_n (lv' := _) hx hb hd hw1 hl (by rw [← hw1]; exact hw2) rfl (fun ls1 hl1 => k H locs ls1 hP hD hS (am_lv_set2 rfl m2 hl1))
  · cases h
theorem am_o_iinc {n : Nat} {j : Int} (hB : am_B y d p R s m args c D ca tys A H0 cells slots) (hv : am_v1 y.1.cls y.2.1 y.2.2.1 (pc, .iinc n j, nx, ax, tg) = true) (h : am_ex y.2.2.2.2.2 (.iinc n j) nx ax tg lv st I = some (P, pc', lv', st', I')) (hp : am_p P) (k : am_w p l e R s m args below meth c D ad ca A H0 cells slots Q y pc' lv' st' I') : am_w p l e R s m args below meth c D ad ca A H0 cells slots Q y pc lv st I := by
  obtain ⟨hd, hn, hw⟩ := am_v1_sp rfl hv
  obtain ⟨⟨hx, hb, hml, hown⟩, hts, hN, hK, hT, hA, hR, hC, hk⟩ := hB
  try simp only [am_vx, decide_eq_true_eq] at hw
  subst hn
  obtain ⟨⟨hw1, hw2⟩, hw3⟩ := hw
  subst hw1
  simp only [am_ex, am_ldi] at h
  split at h
  · rename_i x hx2
    obtain ⟨l2, e2, m2⟩ := am_set_eq lv n (.inl (x + ax)) (fun l' => (some (none, _, l', st, I) : am_R))
    rw [e2] at h
    cases h
    intro H locs ls hP hD hS hl
    obtain ⟨q, hq⟩ := List.getElem?_of_mem (List.mem_map.mpr ⟨(n, _), am_lk_mem hx2, rfl⟩ : (n, am_c ad (.inl x)) ∈ am_cl ad lv)
    exact lv_iinc (v := Int32.ofInt (x + ax)) (lv' := _) hx hb hd hl hq (by rw [hw3, Int32.ofInt_add]) hw2 rfl (fun ls1 hl1 => k H locs ls1 hP hD hS (am_lv_set1 rfl m2 hl1))
  · cases h
theorem am_o_iadd (hB : am_B y d p R s m args c D ca tys A H0 cells slots) (hv : am_v1 y.1.cls y.2.1 y.2.2.1 (pc, .iadd, nx, ax, tg) = true) (h : am_ex y.2.2.2.2.2 (.iadd) nx ax tg lv st I = some (P, pc', lv', st', I')) (hp : am_p P) (k : am_w p l e R s m args below meth c D ad ca A H0 cells slots Q y pc' lv' st' I') : am_w p l e R s m args below meth c D ad ca A H0 cells slots Q y pc lv st I := by
  obtain ⟨hd, hn, hw⟩ := am_v1_sp rfl hv
  obtain ⟨⟨hx, hb, hml, hown⟩, hts, hN, hK, hT, hA, hR, hC, hk⟩ := hB
  try simp only [am_vx, decide_eq_true_eq] at hw
  subst hn
  simp only [am_ex, am_ii] at h
  split at h
  · rename_i a b r
    cases h
    intro H locs ls hP hD hS hl
    refine lv_iadd hx hb hd ?_
    rw [← Int32.ofInt_add]; exact k H locs ls hP hD hS hl
  · cases h
theorem am_o_isub (hB : am_B y d p R s m args c D ca tys A H0 cells slots) (hv : am_v1 y.1.cls y.2.1 y.2.2.1 (pc, .isub, nx, ax, tg) = true) (h : am_ex y.2.2.2.2.2 (.isub) nx ax tg lv st I = some (P, pc', lv', st', I')) (hp : am_p P) (k : am_w p l e R s m args below meth c D ad ca A H0 cells slots Q y pc' lv' st' I') : am_w p l e R s m args below meth c D ad ca A H0 cells slots Q y pc lv st I := by
  obtain ⟨hd, hn, hw⟩ := am_v1_sp rfl hv
  obtain ⟨⟨hx, hb, hml, hown⟩, hts, hN, hK, hT, hA, hR, hC, hk⟩ := hB
  try simp only [am_vx, decide_eq_true_eq] at hw
  subst hn
  simp only [am_ex, am_ii] at h
  split at h
  · rename_i a b r
    cases h
    intro H locs ls hP hD hS hl
    refine lv_isub hx hb hd ?_
    rw [← Int32.ofInt_sub]; exact k H locs ls hP hD hS hl
  · cases h
theorem am_o_imul (hB : am_B y d p R s m args c D ca tys A H0 cells slots) (hv : am_v1 y.1.cls y.2.1 y.2.2.1 (pc, .imul, nx, ax, tg) = true) (h : am_ex y.2.2.2.2.2 (.imul) nx ax tg lv st I = some (P, pc', lv', st', I')) (hp : am_p P) (k : am_w p l e R s m args below meth c D ad ca A H0 cells slots Q y pc' lv' st' I') : am_w p l e R s m args below meth c D ad ca A H0 cells slots Q y pc lv st I := by
  obtain ⟨hd, hn, hw⟩ := am_v1_sp rfl hv
  obtain ⟨⟨hx, hb, hml, hown⟩, hts, hN, hK, hT, hA, hR, hC, hk⟩ := hB
  try simp only [am_vx, decide_eq_true_eq] at hw
  subst hn
  simp only [am_ex, am_ii] at h
  split at h
  · rename_i a b r
    cases h
    intro H locs ls hP hD hS hl
    refine lv_imul hx hb hd ?_
    rw [← Int32.ofInt_mul]; exact k H locs ls hP hD hS hl
  · cases h
theorem am_o_iand (hB : am_B y d p R s m args c D ca tys A H0 cells slots) (hv : am_v1 y.1.cls y.2.1 y.2.2.1 (pc, .iand, nx, ax, tg) = true) (h : am_ex y.2.2.2.2.2 (.iand) nx ax tg lv st I = some (P, pc', lv', st', I')) (hp : am_p P) (k : am_w p l e R s m args below meth c D ad ca A H0 cells slots Q y pc' lv' st' I') : am_w p l e R s m args below meth c D ad ca A H0 cells slots Q y pc lv st I := by
  obtain ⟨hd, hn, hw⟩ := am_v1_sp rfl hv
  obtain ⟨⟨hx, hb, hml, hown⟩, hts, hN, hK, hT, hA, hR, hC, hk⟩ := hB
  try simp only [am_vx, decide_eq_true_eq] at hw
  subst hn
  simp only [am_ex, am_ii] at h
  split at h
  · rename_i a b r
    cases h
    intro H locs ls hP hD hS hl
    refine lv_iand hx hb hd ?_
    have k1 := k H locs ls hP hD hS hl
    simp only [List.map_cons, am_c, am_and, am_of] at k1
    exact k1
  · cases h
theorem am_o_ior (hB : am_B y d p R s m args c D ca tys A H0 cells slots) (hv : am_v1 y.1.cls y.2.1 y.2.2.1 (pc, .ior, nx, ax, tg) = true) (h : am_ex y.2.2.2.2.2 (.ior) nx ax tg lv st I = some (P, pc', lv', st', I')) (hp : am_p P) (k : am_w p l e R s m args below meth c D ad ca A H0 cells slots Q y pc' lv' st' I') : am_w p l e R s m args below meth c D ad ca A H0 cells slots Q y pc lv st I := by
  obtain ⟨hd, hn, hw⟩ := am_v1_sp rfl hv
  obtain ⟨⟨hx, hb, hml, hown⟩, hts, hN, hK, hT, hA, hR, hC, hk⟩ := hB
  try simp only [am_vx, decide_eq_true_eq] at hw
  subst hn
  simp only [am_ex, am_ii] at h
  split at h
  · rename_i a b r
    cases h
    intro H locs ls hP hD hS hl
    refine lv_ior hx hb hd ?_
    have k1 := k H locs ls hP hD hS hl
    simp only [List.map_cons, am_c, am_or, am_of] at k1
    exact k1
  · cases h
theorem am_o_ishl (hB : am_B y d p R s m args c D ca tys A H0 cells slots) (hv : am_v1 y.1.cls y.2.1 y.2.2.1 (pc, .ishl, nx, ax, tg) = true) (h : am_ex y.2.2.2.2.2 (.ishl) nx ax tg lv st I = some (P, pc', lv', st', I')) (hp : am_p P) (k : am_w p l e R s m args below meth c D ad ca A H0 cells slots Q y pc' lv' st' I') : am_w p l e R s m args below meth c D ad ca A H0 cells slots Q y pc lv st I := by
  obtain ⟨hd, hn, hw⟩ := am_v1_sp rfl hv
  obtain ⟨⟨hx, hb, hml, hown⟩, hts, hN, hK, hT, hA, hR, hC, hk⟩ := hB
  try simp only [am_vx, decide_eq_true_eq] at hw
  subst hn
  simp only [am_ex, am_ii] at h
  split at h
  · rename_i a b r
    cases h
    intro H locs ls hP hD hS hl
    refine lv_ishl hx hb hd ?_
    have k1 := k H locs ls hP hD hS hl
    simp only [List.map_cons, am_c, am_shl, am_of] at k1
    exact k1
  · cases h
theorem am_o_ishr (hB : am_B y d p R s m args c D ca tys A H0 cells slots) (hv : am_v1 y.1.cls y.2.1 y.2.2.1 (pc, .ishr, nx, ax, tg) = true) (h : am_ex y.2.2.2.2.2 (.ishr) nx ax tg lv st I = some (P, pc', lv', st', I')) (hp : am_p P) (k : am_w p l e R s m args below meth c D ad ca A H0 cells slots Q y pc' lv' st' I') : am_w p l e R s m args below meth c D ad ca A H0 cells slots Q y pc lv st I := by
  obtain ⟨hd, hn, hw⟩ := am_v1_sp rfl hv
  obtain ⟨⟨hx, hb, hml, hown⟩, hts, hN, hK, hT, hA, hR, hC, hk⟩ := hB
  try simp only [am_vx, decide_eq_true_eq] at hw
  subst hn
  simp only [am_ex, am_ii] at h
  split at h
  · rename_i a b r
    cases h
    intro H locs ls hP hD hS hl
    refine lv_ishr hx hb hd ?_
    have k1 := k H locs ls hP hD hS hl
    simp only [List.map_cons, am_c, am_shr, am_of] at k1
    exact k1
  · cases h
theorem am_o_iushr (hB : am_B y d p R s m args c D ca tys A H0 cells slots) (hv : am_v1 y.1.cls y.2.1 y.2.2.1 (pc, .iushr, nx, ax, tg) = true) (h : am_ex y.2.2.2.2.2 (.iushr) nx ax tg lv st I = some (P, pc', lv', st', I')) (hp : am_p P) (k : am_w p l e R s m args below meth c D ad ca A H0 cells slots Q y pc' lv' st' I') : am_w p l e R s m args below meth c D ad ca A H0 cells slots Q y pc lv st I := by
  obtain ⟨hd, hn, hw⟩ := am_v1_sp rfl hv
  obtain ⟨⟨hx, hb, hml, hown⟩, hts, hN, hK, hT, hA, hR, hC, hk⟩ := hB
  try simp only [am_vx, decide_eq_true_eq] at hw
  subst hn
  simp only [am_ex, am_ii] at h
  split at h
  · rename_i a b r
    cases h
    intro H locs ls hP hD hS hl
    refine lv_iushr hx hb hd rfl ?_
    have k1 := k H locs ls hP hD hS hl
    simp only [List.map_cons, am_c, am_ushr, am_of] at k1
    exact k1
  · cases h
theorem am_o_idiv (hB : am_B y d p R s m args c D ca tys A H0 cells slots) (hv : am_v1 y.1.cls y.2.1 y.2.2.1 (pc, .idiv, nx, ax, tg) = true) (h : am_ex y.2.2.2.2.2 (.idiv) nx ax tg lv st I = some (P, pc', lv', st', I')) (hp : am_p P) (k : am_w p l e R s m args below meth c D ad ca A H0 cells slots Q y pc' lv' st' I') : am_w p l e R s m args below meth c D ad ca A H0 cells slots Q y pc lv st I := by
  obtain ⟨hd, hn, hw⟩ := am_v1_sp rfl hv
  obtain ⟨⟨hx, hb, hml, hown⟩, hts, hN, hK, hT, hA, hR, hC, hk⟩ := hB
  try simp only [am_vx, decide_eq_true_eq] at hw
  subst hn
  simp only [am_ex, am_ii] at h
  split at h
  · rename_i a b r
    cases h
    intro H locs ls hP hD hS hl
    refine lv_idiv hx hb hd (am_nz hp.2) ?_
    rw [am_ofdiv hp.1 hp.2]
    exact k H locs ls hP hD hS hl
  · cases h
theorem am_o_irem (hB : am_B y d p R s m args c D ca tys A H0 cells slots) (hv : am_v1 y.1.cls y.2.1 y.2.2.1 (pc, .irem, nx, ax, tg) = true) (h : am_ex y.2.2.2.2.2 (.irem) nx ax tg lv st I = some (P, pc', lv', st', I')) (hp : am_p P) (k : am_w p l e R s m args below meth c D ad ca A H0 cells slots Q y pc' lv' st' I') : am_w p l e R s m args below meth c D ad ca A H0 cells slots Q y pc lv st I := by
  obtain ⟨hd, hn, hw⟩ := am_v1_sp rfl hv
  obtain ⟨⟨hx, hb, hml, hown⟩, hts, hN, hK, hT, hA, hR, hC, hk⟩ := hB
  try simp only [am_vx, decide_eq_true_eq] at hw
  subst hn
  simp only [am_ex, am_ii] at h
  split at h
  · rename_i a b r
    cases h
    intro H locs ls hP hD hS hl
    refine lv_irem hx hb hd (am_nz hp.2) ?_
    rw [am_ofrem hp.1 hp.2]
    exact k H locs ls hP hD hS hl
  · cases h
theorem am_o_ineg (hB : am_B y d p R s m args c D ca tys A H0 cells slots) (hv : am_v1 y.1.cls y.2.1 y.2.2.1 (pc, .ineg, nx, ax, tg) = true) (h : am_ex y.2.2.2.2.2 (.ineg) nx ax tg lv st I = some (P, pc', lv', st', I')) (hp : am_p P) (k : am_w p l e R s m args below meth c D ad ca A H0 cells slots Q y pc' lv' st' I') : am_w p l e R s m args below meth c D ad ca A H0 cells slots Q y pc lv st I := by
  obtain ⟨hd, hn, hw⟩ := am_v1_sp rfl hv
  obtain ⟨⟨hx, hb, hml, hown⟩, hts, hN, hK, hT, hA, hR, hC, hk⟩ := hB
  try simp only [am_vx, decide_eq_true_eq] at hw
  subst hn
  simp only [am_ex, am_i1] at h
  split at h
  · rename_i a r
    cases h
    intro H locs ls hP hD hS hl
    refine lv_ineg hx hb hd ?_
    rw [← Int32.ofInt_neg]; exact k H locs ls hP hD hS hl
  · cases h
theorem am_o_ladd (hB : am_B y d p R s m args c D ca tys A H0 cells slots) (hv : am_v1 y.1.cls y.2.1 y.2.2.1 (pc, .ladd, nx, ax, tg) = true) (h : am_ex y.2.2.2.2.2 (.ladd) nx ax tg lv st I = some (P, pc', lv', st', I')) (hp : am_p P) (k : am_w p l e R s m args below meth c D ad ca A H0 cells slots Q y pc' lv' st' I') : am_w p l e R s m args below meth c D ad ca A H0 cells slots Q y pc lv st I := by
  obtain ⟨hd, hn, hw⟩ := am_v1_sp rfl hv
  obtain ⟨⟨hx, hb, hml, hown⟩, hts, hN, hK, hT, hA, hR, hC, hk⟩ := hB
  try simp only [am_vx, decide_eq_true_eq] at hw
  subst hn
  simp only [am_ex, am_ll] at h
  split at h
  · rename_i a b r
    cases h
    intro H locs ls hP hD hS hl
    refine lv_ladd hx hb hd ?_
    rw [← Int64.ofInt_add]; exact k H locs ls hP hD hS hl
  · cases h
theorem am_o_lsub (hB : am_B y d p R s m args c D ca tys A H0 cells slots) (hv : am_v1 y.1.cls y.2.1 y.2.2.1 (pc, .lsub, nx, ax, tg) = true) (h : am_ex y.2.2.2.2.2 (.lsub) nx ax tg lv st I = some (P, pc', lv', st', I')) (hp : am_p P) (k : am_w p l e R s m args below meth c D ad ca A H0 cells slots Q y pc' lv' st' I') : am_w p l e R s m args below meth c D ad ca A H0 cells slots Q y pc lv st I := by
  obtain ⟨hd, hn, hw⟩ := am_v1_sp rfl hv
  obtain ⟨⟨hx, hb, hml, hown⟩, hts, hN, hK, hT, hA, hR, hC, hk⟩ := hB
  try simp only [am_vx, decide_eq_true_eq] at hw
  subst hn
  simp only [am_ex, am_ll] at h
  split at h
  · rename_i a b r
    cases h
    intro H locs ls hP hD hS hl
    refine lv_lsub hx hb hd ?_
    rw [← Int64.ofInt_sub]; exact k H locs ls hP hD hS hl
  · cases h
theorem am_o_i2l (hB : am_B y d p R s m args c D ca tys A H0 cells slots) (hv : am_v1 y.1.cls y.2.1 y.2.2.1 (pc, .i2l, nx, ax, tg) = true) (h : am_ex y.2.2.2.2.2 (.i2l) nx ax tg lv st I = some (P, pc', lv', st', I')) (hp : am_p P) (k : am_w p l e R s m args below meth c D ad ca A H0 cells slots Q y pc' lv' st' I') : am_w p l e R s m args below meth c D ad ca A H0 cells slots Q y pc lv st I := by
  obtain ⟨hd, hn, hw⟩ := am_v1_sp rfl hv
  obtain ⟨⟨hx, hb, hml, hown⟩, hts, hN, hK, hT, hA, hR, hC, hk⟩ := hB
  try simp only [am_vx, decide_eq_true_eq] at hw
  subst hn
  simp only [am_ex, am_i1] at h
  split at h
  · rename_i a r
    cases h
    intro H locs ls hP hD hS hl
    have hp : -2147483648 ≤ a ∧ a < 2147483648 := hp
    exact lv_i2l hx hb hd (Int32.toInt64_ofInt (by rw [am_min32]; omega) (by rw [am_max32]; omega)) (k H locs ls hP hD hS hl)
  · cases h
theorem am_o_l2i (hB : am_B y d p R s m args c D ca tys A H0 cells slots) (hv : am_v1 y.1.cls y.2.1 y.2.2.1 (pc, .l2i, nx, ax, tg) = true) (h : am_ex y.2.2.2.2.2 (.l2i) nx ax tg lv st I = some (P, pc', lv', st', I')) (hp : am_p P) (k : am_w p l e R s m args below meth c D ad ca A H0 cells slots Q y pc' lv' st' I') : am_w p l e R s m args below meth c D ad ca A H0 cells slots Q y pc lv st I := by
  obtain ⟨hd, hn, hw⟩ := am_v1_sp rfl hv
  obtain ⟨⟨hx, hb, hml, hown⟩, hts, hN, hK, hT, hA, hR, hC, hk⟩ := hB
  try simp only [am_vx, decide_eq_true_eq] at hw
  subst hn
  simp only [am_ex, am_l1] at h
  split at h
  · rename_i a r
    cases h
    intro H locs ls hP hD hS hl
    exact lv_l2i hx hb hd Int64.toInt32_ofInt (k H locs ls hP hD hS hl)
  · cases h
theorem am_o_dup (hB : am_B y d p R s m args c D ca tys A H0 cells slots) (hv : am_v1 y.1.cls y.2.1 y.2.2.1 (pc, .dup, nx, ax, tg) = true) (h : am_ex y.2.2.2.2.2 (.dup) nx ax tg lv st I = some (P, pc', lv', st', I')) (hp : am_p P) (k : am_w p l e R s m args below meth c D ad ca A H0 cells slots Q y pc' lv' st' I') : am_w p l e R s m args below meth c D ad ca A H0 cells slots Q y pc lv st I := by
  obtain ⟨hd, hn, hw⟩ := am_v1_sp rfl hv
  obtain ⟨⟨hx, hb, hml, hown⟩, hts, hN, hK, hT, hA, hR, hC, hk⟩ := hB
  try simp only [am_vx, decide_eq_true_eq] at hw
  subst hn
  simp only [am_ex] at h
  split at h
  · cases h
    intro H locs ls hP hD hS hl
    exact lv_dup hx hb hd rfl (k H locs ls hP hD hS hl)
  · cases h
    intro H locs ls hP hD hS hl
    exact lv_dup hx hb hd rfl (k H locs ls hP hD hS hl)
  · cases h
theorem am_o_dup2 (hB : am_B y d p R s m args c D ca tys A H0 cells slots) (hv : am_v1 y.1.cls y.2.1 y.2.2.1 (pc, .dup2, nx, ax, tg) = true) (h : am_ex y.2.2.2.2.2 (.dup2) nx ax tg lv st I = some (P, pc', lv', st', I')) (hp : am_p P) (k : am_w p l e R s m args below meth c D ad ca A H0 cells slots Q y pc' lv' st' I') : am_w p l e R s m args below meth c D ad ca A H0 cells slots Q y pc lv st I := by
  obtain ⟨hd, hn, hw⟩ := am_v1_sp rfl hv
  obtain ⟨⟨hx, hb, hml, hown⟩, hts, hN, hK, hT, hA, hR, hC, hk⟩ := hB
  try simp only [am_vx, decide_eq_true_eq] at hw
  subst hn
  simp only [am_ex, am_ai] at h
  split at h
  · cases h
    intro H locs ls hP hD hS hl
    exact lv_dup2_11 hx hb hd rfl rfl (k H locs ls hP hD hS hl)
  · cases h
theorem am_o_goto {o : Int} (hB : am_B y d p R s m args c D ca tys A H0 cells slots) (hv : am_v1 y.1.cls y.2.1 y.2.2.1 (pc, .goto o, nx, ax, tg) = true) (h : am_ex y.2.2.2.2.2 (.goto o) nx ax tg lv st I = some (P, pc', lv', st', I')) (hp : am_p P) (k : am_w p l e R s m args below meth c D ad ca A H0 cells slots Q y pc' lv' st' I') : am_w p l e R s m args below meth c D ad ca A H0 cells slots Q y pc lv st I := by
  obtain ⟨hd, hn, hw⟩ := am_v1_sp rfl hv
  obtain ⟨⟨hx, hb, hml, hown⟩, hts, hN, hK, hT, hA, hR, hC, hk⟩ := hB
  try simp only [am_vx, decide_eq_true_eq] at hw
  subst hn
  simp only [am_ex] at h
  cases h
  intro H locs ls hP hD hS hl
  exact lv_goto hx hb hd hw (k H locs ls hP hD hS hl)
end AMS
