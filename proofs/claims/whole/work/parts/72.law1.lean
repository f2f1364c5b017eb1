def R_law : String := "EarSchoolLaw"
def lw_P (b : Addr) (xs : List Int32) (args : Array Value) (s : State) : Prop := args = #[.ref b] ∧ s.IntsAt b xs ∧ xs.length ≤ 2560 ∧ (Jvm.Cond.and given_1 narrow_1).before args s = true
def lw_Q (_ : Array Value) (s : State) (o : Outcome) (t : State) : Prop := o = .returned (some (.int 1)) ∧ Framed s o t [] 600000 7302250
def lw_Z (below : List Frame) (a : Array Value) (s : State) : State → Prop := fun t => ∃ o, t.status = .running ∧ Ended t below o ∧ lw_Q a s o t
theorem lw_ret {p : Program} {l : Launch} {e : Env} {s : State} {m : MethodId} {below : List Frame} {meth : Method} {c : Code} {b : Nat} (hx : p.tables.exec = Jvm.exec) (hb : c.code = code) (hr : meth.sig.returnType = ret) (hlocks : meth.locks = false) {pc : Nat} {H : Heap} {ls : Array Slot} (hdg : decode code pc = .ok (.ireturn, 1)) : W p l e room_1 s m #[Value.ref b] below meth c H [] 600000 7302250 (lw_Z below #[Value.ref b] s) (F0 m pc ls [.int 1]) := by
  intro T hT X
  obtain ⟨fs, hret, hrun, hended, hW, hframe⟩ := X.leave (v := some (.int 1)) (hlocks := hlocks) (fun h => by rw [hr] at h; cases h)
  have hmeth' : T.vm.method? m = some meth := X.method'
  refine ⟨T.setFrames fs, ?_, .returned (some (.int 1)), hrun, hended, rfl, ⟨_, rfl⟩, hW, hframe⟩
  jvm_step X.here [X.here.top, hx, hb, hdg, hmeth', hr, ret, narrow_b1]
  (try refine ⟨rfl, ?_⟩); (try refine ⟨rfl, ?_⟩)
  first | (intro acts; rw [hret _ acts rfl rfl rfl]) | rw [hret _ _ rfl rfl rfl]
  exact Steps.refl _
def lw_At (p : Program) (s : State) (m : MethodId) (meth : Method) (c : Code) (b L : Nat) (xs : Nat → Int32) : Prop :=
  p.tables.exec = Jvm.exec ∧ c.code = code ∧ meth.sig.returnType = ret ∧ c.maxLocals = 4 ∧ s.vm.findClass R_law = some m.cls ∧ (∀ w ∈ lw_tbl, w.before #[Value.ref b] s = true) ∧ va_X b L xs s s.heap ∧ b < s.heap.size ∧ meth.locks = false ∧ (Jvm.Cond.and given_1 narrow_1).before #[Value.ref b] s = true
def la_X (L : Nat) (xs : Nat → Int32) (p : Program) (s : State) (m : MethodId) (meth : Method) (c : Code) (b : Nat) (D : va_G) (ad : Nat → Nat) (ca : Nat → ClassId) (tys : List (ClassId × FieldType)) : Prop :=
  (p.tables.exec = Jvm.exec ∧ c.code = code ∧ c.maxLocals = 4 ∧ s.vm.findClass "EarSchoolLaw" = some m.cls) ∧ (∀ w ∈ es_gt, w.before #[Value.ref b] s = true) ∧ es_N s ∧ va_K D es_cl tys s ∧ am_T ca tys ∧ (va_X b L xs s s.heap ∧ b < s.heap.size ∧ ad 65 = b) ∧ meth.sig.returnType = ret ∧ meth.locks = false
def la_V (L : Nat) (xs : Nat → Int32) (pc : Nat) (lv : List (Nat × am_v)) (st : List am_v) (I : am_I) : Prop :=
  ∀ (p : Program) (l : Launch) (e : Env) (s : State) (m : MethodId) (below : List Frame) (meth : Method) (c : Code) (b : Nat) (D : va_G) (ad : Nat → Nat) (ca : Nat → ClassId) (tys : List (ClassId × FieldType)), la_X L xs p s m meth c b D ad ca tys →
    ∀ (H : Heap) (locs : List Loc) (ls : Array Slot), va_P D es_cl (am_W ad ca I) H → va_D (fun q => s.heap.size ≤ q) (am_W ad ca I) → va_S (fun q => s.heap.size ≤ q) s.heap H locs → lv_has ls 4 (am_cl ad lv) → W p l e room_1 s m #[Value.ref b] below meth c H locs 600000 7302250 (lw_Z below #[Value.ref b] s) (F0 m pc ls (st.map (am_c ad)))
def la_y (y : am_Y) : Prop := y.1.cls = "EarSchoolLaw" ∧ y.2.1 = code ∧ y.2.2.1 = 4 ∧ am_chk y
theorem la_B {L : Nat} {xs : Nat → Int32} {p : Program} {s : State} {m : MethodId} {meth : Method} {c : Code} {b : Nat} {D : va_G} {ad : Nat → Nat} {ca : Nat → ClassId} {tys : List (ClassId × FieldType)} {y : am_Y} (h : la_X L xs p s m meth c b D ad ca tys) (hy : la_y y) : am_B y 10 p room_1 s m #[Value.ref b] c D ca tys (fun q => s.heap.size ≤ q) s.heap 600000 7302250 := by
  obtain ⟨⟨h1, h2, h3, h4⟩, h5, h6, h7, h8, h9⟩ := h
  obtain ⟨y1, y2, y3, y4⟩ := hy
  exact ⟨⟨h1, by rw [y2]; exact h2, by rw [y3]; exact h3, by rw [y1]; exact h4⟩, h5, h6, h7, h8, fun q hq => hq, ⟨Nat.le_of_ble_eq_true rfl, Nat.le_of_ble_eq_true rfl⟩, ⟨Nat.le_of_ble_eq_true rfl, Nat.le_of_ble_eq_true rfl⟩, y4⟩
section LAM
variable {L : Nat} {xs : Nat → Int32} {y y' : am_Y} {pc nx tg n k : Nat} {ax : Int} {lv : List (Nat × am_v)} {st as rest r : List am_v} {I : am_I}
theorem la_d (hy : la_y y) {ins : Instr} (ht : am_isT ins = false) (hat : am_at y.2.2.2.2.1 pc = some (ins, nx, ax, tg)) : decode code pc = .ok (ins, am_len ins) ∧ nx = pc + am_len ins ∧ am_vx y.1.cls y.2.2.1 (pc, ins, nx, ax, tg) = true := by
  obtain ⟨y1, y2, y3, y4⟩ := hy
  have h := am_v1_sp ht (am_chk_1 y4 (am_at_mem hat))
  rw [y2] at h
  exact h
theorem la_go (hy : la_y y) {pc' : Nat} {lv' : List (Nat × am_v)} {st' : List am_v} {I' : am_I} {P : Option Prop} (n : Nat) (ss : List Nat) (h : am_run n ss y pc lv st I = some (P, pc', lv', st', I')) (hp : am_p P) (k : la_V L xs pc' lv' st' I') : la_V L xs pc lv st I := by
  intro p l e s m below meth c b D ad ca tys hX H locs ls hP hD hS hl
  have hB := la_B hX hy
  have k2 := k p l e s m below meth c b D ad ca tys hX
  obtain ⟨y1, y2, y3, y4⟩ := hy
  have k3 : am_w p l e room_1 s m #[Value.ref b] below meth c D ad ca (fun q => s.heap.size ≤ q) s.heap 600000 7302250 (lw_Z below #[Value.ref b] s) y pc' lv' st' I' := by
    unfold am_w
    rw [y3]
    exact k2
  have k4 := am_run_ok hB ss n pc lv st I P h hp k3
  unfold am_w at k4
  rw [y3] at k4
  exact k4 H locs ls hP hD hS hl
theorem la_gp (hy : la_y y) {pc' : Nat} {lv' : List (Nat × am_v)} {st' : List am_v} {I' : am_I} {P : Option Prop} (n : Nat) (ss : List Nat) (h : am_runp n ss y pc lv st I = some (P, pc', lv', st', I')) (hp : am_p P) (k : la_V L xs pc' lv' st' I') : la_V L xs pc lv st I := by
  unfold am_runp at h
  split at h
  · cases h
  · split at h
    · cases h
    · exact la_go hy n ss h hp k
theorem la_br (hy : la_y y) {P C : Prop} (h : am_brf y pc st = some (P, C, tg, nx, r)) (hp : P) (kt : C → la_V L xs tg lv r I) (kf : ¬ C → la_V L xs nx lv r I) : la_V L xs pc lv st I := by
  intro p l e s m below meth c b D ad ca tys hX
  have hB := la_B hX hy
  obtain ⟨y1, y2, y3, y4⟩ := hy
  have k4 := am_br_w (l := l) (e := e) (below := below) (meth := meth) (ad := ad) (Q := lw_Z below #[Value.ref b] s) (lv := lv) (I := I) hB h hp (fun z => by
    unfold am_w
    rw [y3]
    exact kt z p l e s m below meth c b D ad ca tys hX) (fun z => by
    unfold am_w
    rw [y3]
    exact kf z p l e s m below meth c b D ad ca tys hX)
  unfold am_w at k4
  rw [y3] at k4
  exact k4
theorem la_cV {b' : Nat} {C : String} {Po' : Option am_v → am_I → Prop} (hy : la_y y) (hat : am_at y.2.2.2.2.1 pc = some (.invokevirtual n, nx, ax, tg)) (hlk : am_lkV y.1.cls n C y'.1 k) (hy' : am_yok y') (hcut : am_cut (k + 1) [] st = some (.inr (.inr b') :: as, rest)) (hrm : Nat.ble (am_sz rest) 8 = true) (hcn : am_cn b' = some C) (hc : am_C 9 y' (.inr (.inr b') :: as) I Po')
    (kk : ∀ r I', Po' r I' → la_V L xs nx lv (r.toList ++ rest) I') : la_V L xs pc lv st I := by
  intro p l e s m below meth c b D ad ca tys hX
  have hB := la_B hX hy
  obtain ⟨y1, y2, y3, y4⟩ := hy
  have k4 := am_cV_w (l := l) (e := e) (below := below) (meth := meth) (ad := ad) (Q := lw_Z below #[Value.ref b] s) (lv := lv) (I := I) hB hat hlk hy' hcut hrm hcn hc (fun r I' z => by
    unfold am_w
    rw [y3]
    exact kk r I' z p l e s m below meth c b D ad ca tys hX)
  unfold am_w at k4
  rw [y3] at k4
  exact k4
theorem la_sw {dflt lo hi : Int} {offs : Array Int} {x : Int} (ts : List Nat) (dt : Nat) (hy : la_y y) (hat : am_at y.2.2.2.2.1 pc = some (.tableswitch dflt lo hi offs, nx, ax, tg)) (hts : offs.toList = ts.map (fun (t : Nat) => (t : Int) - (pc : Int))) (hdt : dflt = (dt : Int) - (pc : Int)) (hlen : (ts.length : Int) = hi - lo + 1) (hx : -2147483648 ≤ x ∧ x < 2147483648)
    (kk : am_swc (fun t => la_V L xs t lv r I) x lo ts) (kd : (x < lo ∨ hi < x) → la_V L xs dt lv r I) : la_V L xs pc lv (.inl x :: r) I := by
  intro p l e s m below meth c b D ad ca tys hX
  have hB := la_B hX hy
  obtain ⟨y1, y2, y3, y4⟩ := hy
  have k4 := am_sw_w (l := l) (e := e) (below := below) (meth := meth) (ad := ad) (Q := lw_Z below #[Value.ref b] s) (lv := lv) (I := I) (r := r) hB hat hts hdt hlen hx (fun j t h1 h2 => by
    unfold am_w
    rw [y3]
    exact am_swc_at kk j t h1 h2 p l e s m below meth c b D ad ca tys hX) (fun z => by
    unfold am_w
    rw [y3]
    exact kd z p l e s m below meth c b D ad ca tys hX)
  unfold am_w at k4
  rw [y3] at k4
  exact k4
theorem la_sld {i v : Int} (hy : la_y y) (hat : am_at y.2.2.2.2.1 pc = some (.iaload, nx, ax, tg)) (hL : L ≤ 2560) (hi : 0 ≤ i ∧ i < (L : Int)) (hv : (xs i.toNat).toInt = v) (k : la_V L xs nx lv (.inl v :: r) I) : la_V L xs pc lv (.inl i :: .inr (.inr 65) :: r) I := by
  intro p l e s m below meth c b D ad ca tys hX H locs ls hP hD hS hl
  obtain ⟨hd, hn, -⟩ := la_d hy rfl hat
  have k2 := k p l e s m below meth c b D ad ca tys hX H locs ls hP hD hS hl
  obtain ⟨⟨h1, h2, h3, h4⟩, h5, h6, h7, h8, ⟨h9, h10, h11⟩, h12⟩ := hX
  obtain ⟨i1, i2⟩ := am_idx hi (by omega)
  show W p l e room_1 s m #[Value.ref b] below meth c H locs 600000 7302250 (lw_Z below #[Value.ref b] s) (F0 m pc ls (.int (Int32.ofInt i) :: .ref (ad 65) :: r.map (am_c ad)))
  rw [h11]
  refine va_sld h1 h2 h9 h10 (fun z => absurd h10 (Nat.not_lt.mpr z)) hS (by rw [show L = (L : Int).toNat by omega]; exact i1) hd ?_
  rw [i2]
  have e1 : nx = pc + 1 := hn
  rw [← e1]
  have e2 : Value.int (xs i.toNat) = am_c ad (.inl v) := by
    rw [← hv]
    show Value.int (xs i.toNat) = Value.int (Int32.ofInt (xs i.toNat).toInt)
    rw [am_of]
  rw [e2]
  exact k2
theorem la_slen (hy : la_y y) (hat : am_at y.2.2.2.2.1 pc = some (.arraylength, nx, ax, tg)) (k : la_V L xs nx lv (.inl (L : Int) :: r) I) : la_V L xs pc lv (.inr (.inr 65) :: r) I := by
  intro p l e s m below meth c b D ad ca tys hX H locs ls hP hD hS hl
  obtain ⟨hd, hn, -⟩ := la_d hy rfl hat
  have k2 := k p l e s m below meth c b D ad ca tys hX H locs ls hP hD hS hl
  obtain ⟨⟨h1, h2, h3, h4⟩, h5, h6, h7, h8, ⟨h9, h10, h11⟩, h12⟩ := hX
  show W p l e room_1 s m #[Value.ref b] below meth c H locs 600000 7302250 (lw_Z below #[Value.ref b] s) (F0 m pc ls (.ref (ad 65) :: r.map (am_c ad)))
  rw [h11]
  refine va_slen h1 h2 h9 h10 (fun z => absurd h10 (Nat.not_lt.mpr z)) hS hd ?_
  have e1 : nx = pc + 1 := hn
  rw [← e1]
  have e2 : Value.int (Int32.ofNat L) = am_c ad (.inl (L : Int)) := by
    show Value.int (Int32.ofNat L) = Value.int (Int32.ofInt (L : Int))
    rw [← Int32.ofInt_eq_ofNat]
  rw [e2]
  exact k2
theorem la_eqi {x : Int} {off : Int} (hy : la_y y) (hat : am_at y.2.2.2.2.1 pc = some (.if_icmp .eq off, nx, ax, tg)) (k : la_V L xs tg lv r I) : la_V L xs pc lv (.inl x :: .inl x :: r) I := by
  intro p l e s m below meth c b D ad ca tys hX H locs ls hP hD hS hl
  obtain ⟨hd, hn, hw⟩ := la_d hy rfl hat
  have k2 := k p l e s m below meth c b D ad ca tys hX H locs ls hP hD hS hl
  obtain ⟨⟨h1, h2, h3, h4⟩, h5⟩ := hX
  simp only [am_vx, decide_eq_true_eq] at hw
  exact lv_icmp_eq h1 h2 hd hw (fun _ => k2) (fun z => absurd rfl z)
theorem la_eql {x : Int} {off : Int} {nx2 tg2 : Nat} {ax2 : Int} (hy : la_y y) (hat : am_at y.2.2.2.2.1 pc = some (.lcmp, nx, ax, tg)) (hat2 : am_at y.2.2.2.2.1 nx = some (.ifCond .eq off, nx2, ax2, tg2)) (k : la_V L xs tg2 lv r I) : la_V L xs pc lv (.inr (.inl x) :: .inr (.inl x) :: r) I := by
  intro p l e s m below meth c b D ad ca tys hX H locs ls hP hD hS hl
  obtain ⟨hd, hn, -⟩ := la_d hy rfl hat
  obtain ⟨hd2, hn2, hw2⟩ := la_d hy rfl hat2
  have k2 := k p l e s m below meth c b D ad ca tys hX H locs ls hP hD hS hl
  obtain ⟨⟨h1, h2, h3, h4⟩, h5⟩ := hX
  simp only [am_vx, decide_eq_true_eq] at hw2
  refine W.lcmp h1 h2 hd ?_
  have e1 : nx = pc + 1 := hn
  rw [← e1]
  have e2 : lg_cmp (Int64.ofInt x) (Int64.ofInt x) = 0 := by
    unfold lg_cmp
    rw [if_neg (fun z => absurd z (Int64.lt_irrefl)), if_pos rfl]
  exact lv_if_eq h1 h2 hd2 hw2 (fun _ => k2) (fun z => absurd e2 z)
theorem la_lshl {x : Int} {z : Int} (hy : la_y y) (hat : am_at y.2.2.2.2.1 pc = some (.lshl, nx, ax, tg)) (k : la_V L xs nx lv (.inr (.inl (am_lshlL x z)) :: r) I) : la_V L xs pc lv (.inl z :: .inr (.inl x) :: r) I := by
  intro p l e s m below meth c b D ad ca tys hX H locs ls hP hD hS hl
  obtain ⟨hd, hn, -⟩ := la_d hy rfl hat
  have k2 := k p l e s m below meth c b D ad ca tys hX H locs ls hP hD hS hl
  obtain ⟨⟨h1, h2, h3, h4⟩, h5⟩ := hX
  have e1 : nx = pc + 1 := hn
  rw [e1] at k2
  refine lv_lshl (v := Int64.ofInt (am_lshlL x z)) h1 h2 hd ?_ k2
  unfold am_lshlL
  rw [am_ofL]
theorem la_land {x z : Int} (hy : la_y y) (hat : am_at y.2.2.2.2.1 pc = some (.land, nx, ax, tg)) (k : la_V L xs nx lv (.inr (.inl (am_landL x z)) :: r) I) : la_V L xs pc lv (.inr (.inl z) :: .inr (.inl x) :: r) I := by
  intro p l e s m below meth c b D ad ca tys hX H locs ls hP hD hS hl
  obtain ⟨hd, hn, -⟩ := la_d hy rfl hat
  have k2 := k p l e s m below meth c b D ad ca tys hX H locs ls hP hD hS hl
  obtain ⟨⟨h1, h2, h3, h4⟩, h5⟩ := hX
  have e1 : nx = pc + 1 := hn
  have e2 : am_c ad (.inr (.inl (am_landL x z))) = .long (Int64.ofInt x &&& Int64.ofInt z) := by
    show Value.long (Int64.ofInt (am_landL x z)) = _
    unfold am_landL
    rw [am_ofL]
  rw [e1, List.map_cons, e2] at k2
  exact lv_land h1 h2 hd k2
theorem la_lor {x z : Int} (hy : la_y y) (hat : am_at y.2.2.2.2.1 pc = some (.lor, nx, ax, tg)) (k : la_V L xs nx lv (.inr (.inl (am_lorL x z)) :: r) I) : la_V L xs pc lv (.inr (.inl z) :: .inr (.inl x) :: r) I := by
  intro p l e s m below meth c b D ad ca tys hX H locs ls hP hD hS hl
  obtain ⟨hd, hn, -⟩ := la_d hy rfl hat
  have k2 := k p l e s m below meth c b D ad ca tys hX H locs ls hP hD hS hl
  obtain ⟨⟨h1, h2, h3, h4⟩, h5⟩ := hX
  have e1 : nx = pc + 1 := hn
  have e2 : am_c ad (.inr (.inl (am_lorL x z))) = .long (Int64.ofInt x ||| Int64.ofInt z) := by
    show Value.long (Int64.ofInt (am_lorL x z)) = _
    unfold am_lorL
    rw [am_ofL]
  rw [e1, List.map_cons, e2] at k2
  exact lv_lor h1 h2 hd k2
theorem la_rt (hy : la_y y) (hat : am_at y.2.2.2.2.1 pc = some (.ireturn, nx, ax, tg)) : la_V L xs pc lv [.inl 1] I := by
  intro p l e s m below meth c b D ad ca tys hX H locs ls hP hD hS hl
  obtain ⟨hd, hn, -⟩ := la_d hy rfl hat
  obtain ⟨⟨h1, h2, h3, h4⟩, h5, h6, h7, h8, h9, h10, h11⟩ := hX
  exact va_forget (fun q hq => hS.2.2 q hq) (lw_ret h1 h2 h10 h11 hd)
end LAM
theorem la_x (xs : Nat → Int32) (j : Nat) : ∃ v : Int, (xs j).toInt = v ∧ (-2147483648 ≤ v ∧ v < 2147483648) := by
  refine ⟨(xs j).toInt, rfl, ?_⟩
  have h1 := Int32.le_toInt (xs j)
  have h2 := Int32.toInt_lt (xs j)
  omega
theorem la_lr (x y : Int) : -9223372036854775808 ≤ am_lorL x y ∧ am_lorL x y < 9223372036854775808 := by
  unfold am_lorL
  have h1 := Int64.le_toInt (Int64.ofInt x ||| Int64.ofInt y)
  have h2 := Int64.toInt_lt (Int64.ofInt x ||| Int64.ofInt y)
  omega
