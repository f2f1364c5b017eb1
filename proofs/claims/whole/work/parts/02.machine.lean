abbrev am_v : Type := Int ⊕ (Int ⊕ Nat)
abbrev am_I : Type := Nat → Nat → Int
abbrev am_sh : Type := (Nat × List (Bool ⊕ Nat)) ⊕ (FieldType × Int × List Nat)
abbrev am_e : Type := Nat × Instr × Nat × Int × Nat
abbrev am_Y : Type := MethodName × ByteArray × Nat × Option FieldType × List am_e × List (Nat × Nat × Nat)
def ES : List am_sh := [
  .inl (0, [.inr 1, .inr 4, .inr 7, .inr 9, .inr 11, .inr 14, .inr 17, .inr 23, .inr 29]),
  .inl (1, [.inr 2, .inr 3, .inl false]),
  .inr (.int, 24, []),
  .inr (.int, 24, []),
  .inl (1, [.inr 5, .inr 6, .inl false]),
  .inr (.int, 24, []),
  .inr (.int, 24, []),
  .inl (2, [.inr 8, .inl false, .inl false, .inl false, .inl false, .inl false]),
  .inr (.int, 4, []),
  .inl (3, [.inr 7, .inr 10, .inl true]),
  .inr (.long, 10656, []),
  .inl (4, [.inr 7, .inr 12, .inl true, .inr 13]),
  .inr (.long, 10656, []),
  .inr (.int, 13, []),
  .inl (5, [.inr 15, .inl false, .inl false, .inl false, .inl true, .inr 16]),
  .inr (.int, 6, []),
  .inr (.long, 14425, []),
  .inl (6, [.inr 18, .inr 19, .inl false, .inl false, .inl true, .inr 20, .inr 21, .inr 22]),
  .inr (.int, 6, []),
  .inr (.int, 3, []),
  .inr (.int, 6, []),
  .inr (.int, 108, []),
  .inr (.long, 36, []),
  .inl (7, [.inr 4, .inr 1, .inr 24, .inr 25, .inr 26, .inr 27, .inr 28, .inl false, .inl false, .inl true]),
  .inr (.int, 15625, []),
  .inr (.int, 96, []),
  .inr (.int, 96, []),
  .inr (.int, 96, []),
  .inr (.int, 96, []),
  .inl (8, [.inr 30, .inr 37]),
  .inr (.array .int, 6, [31, 32, 33, 34, 35, 36]),
  .inr (.int, 13, []),
  .inr (.int, 13, []),
  .inr (.int, 13, []),
  .inr (.int, 13, []),
  .inr (.int, 13, []),
  .inr (.int, 13, []),
  .inr (.array .int, 6, [38, 39, 40, 41, 42, 43]),
  .inr (.int, 13, []),
  .inr (.int, 13, []),
  .inr (.int, 13, []),
  .inr (.int, 13, []),
  .inr (.int, 13, []),
  .inr (.int, 13, []),
  .inl (9, [.inl false, .inr 45, .inr 46, .inl false, .inr 47, .inr 48, .inl true, .inl false, .inl false, .inl false, .inl false, .inl false, .inl false, .inl false, .inl false, .inl false, .inl false, .inl false, .inr 49, .inl false, .inl false, .inr 50, .inr 51, .inl false, .inr 52, .inr 53, .inr 54, .inr 55, .inr 56, .inr 57, .inr 58, .inr 59, .inl false, .inr 60, .inr 61, .inr 62, .inr 63, .inr 64]),
  .inr (.int, 24, []),
  .inr (.int, 24, []),
  .inr (.int, 24, []),
  .inr (.int, 24, []),
  .inr (.boolean, 97, []),
  .inr (.int, 6, []),
  .inr (.int, 3, []),
  .inr (.int, 78, []),
  .inr (.int, 78, []),
  .inr (.long, 10656, []),
  .inr (.long, 14425, []),
  .inr (.int, 540, []),
  .inr (.int, 6, []),
  .inr (.long, 180, []),
  .inr (.int, 31250, []),
  .inr (.int, 100, []),
  .inr (.int, 100, []),
  .inr (.int, 100, []),
  .inr (.int, 100, []),
  .inr (.int, 100, [])]
def am_c (ad : Nat → Nat) (v : am_v) : Value := match v with
  | .inl x => .int (Int32.ofInt x)
  | .inr (.inl x) => .long (Int64.ofInt x)
  | .inr (.inr k) => .ref (ad k)
def am_fv (ad : Nat → Nat) (f : Nat → Int) : Nat → List (Bool ⊕ Nat) → List Value
  | _, [] => []
  | j, .inl _ :: l => .int (Int32.ofInt (f j)) :: am_fv ad f (j + 1) l
  | j, .inr r :: l => .ref (ad r) :: am_fv ad f (j + 1) l
def am_ar (ad : Nat → Nat) (ty : FieldType) (rs : List Nat) (f : Nat → Int) : (Nat → Int32) ⊕ (Nat → Int64) ⊕ (Nat → UInt32) ⊕ (Nat → UInt64) ⊕ (Nat → Option Nat) := match ty with
  | .long => .inr (.inl (fun i => Int64.ofInt (f i)))
  | .array _ => .inr (.inr (.inr (.inr (fun i => (rs[i]?).map ad))))
  | _ => .inl (fun i => Int32.ofInt (f i))
def am_cell (ad : Nat → Nat) (ca : Nat → ClassId) (I : am_I) (k : Nat) (x : am_sh) : Nat × va_E := match x with
  | .inl o => (ad k, .inr (o.1, am_fv ad (I k) 0 o.2))
  | .inr a => (ad k, .inl (ca k, a.2.1.toNat, am_ar ad a.1 a.2.2 (I k)))
def am_Wf (ad : Nat → Nat) (ca : Nat → ClassId) (I : am_I) : Nat → List am_sh → va_W
  | _, [] => []
  | k, x :: l => am_cell ad ca I k x :: am_Wf ad ca I (k + 1) l
def am_W (ad : Nat → Nat) (ca : Nat → ClassId) (I : am_I) : va_W := am_Wf ad ca I 0 ES
def am_up (f : Nat → Int) (j : Nat) (x : Int) : Nat → Int := fun b => if b = j then x else f b
def am_u (I : am_I) (k j : Nat) (x : Int) : am_I := fun a => if a = k then am_up (I k) j x else I a
theorem am_up_eq (f : Nat → Int) (j : Nat) (x : Int) : am_up f j x j = x := if_pos rfl
theorem am_up_ne {f : Nat → Int} {j b : Nat} {x : Int} (h : b ≠ j) : am_up f j x b = f b := if_neg h
theorem am_u_eq (I : am_I) (k j : Nat) (x : Int) : am_u I k j x k = am_up (I k) j x := if_pos rfl
theorem am_u_ne {I : am_I} {k j a : Nat} {x : Int} (h : a ≠ k) : am_u I k j x a = I a := if_neg h
def am_nth {α : Type} : List α → Nat → Option α
  | [], _ => none
  | x :: _, 0 => some x
  | _ :: l, n + 1 => am_nth l n
theorem am_nth_eq {α : Type} : ∀ (l : List α) (n : Nat), am_nth l n = l[n]?
  | [], n => by simp [am_nth]
  | x :: l, 0 => by simp [am_nth]
  | x :: l, n + 1 => by simp only [am_nth, List.getElem?_cons_succ]; exact am_nth_eq l n
theorem am_Wf_get (ad : Nat → Nat) (ca : Nat → ClassId) (I : am_I) : ∀ (l : List am_sh) (k i : Nat), (am_Wf ad ca I k l)[i]? = (l[i]?).map (am_cell ad ca I (k + i))
  | [], k, i => by simp [am_Wf]
  | x :: l, k, 0 => by simp [am_Wf]
  | x :: l, k, i + 1 => by
    simp only [am_Wf, List.getElem?_cons_succ]
    rw [am_Wf_get ad ca I l (k + 1) i, show k + 1 + i = k + (i + 1) by omega]
theorem am_W_get (ad : Nat → Nat) (ca : Nat → ClassId) (I : am_I) (i : Nat) : (am_W ad ca I)[i]? = (ES[i]?).map (am_cell ad ca I i) := by
  unfold am_W
  rw [am_Wf_get, Nat.zero_add]
theorem am_W_at {ad : Nat → Nat} {ca : Nat → ClassId} (I : am_I) {k : Nat} {x : am_sh} (h : am_nth ES k = some x) : (am_W ad ca I)[k]? = some (am_cell ad ca I k x) := by
  rw [am_W_get, ← am_nth_eq, h]; rfl
theorem am_cell_congr {ad : Nat → Nat} {ca : Nat → ClassId} {I I' : am_I} {k : Nat} (x : am_sh) (h : I' k = I k) : am_cell ad ca I' k x = am_cell ad ca I k x := by
  unfold am_cell; rw [h]
theorem am_W_put {ad : Nat → Nat} {ca : Nat → ClassId} {I I' : am_I} {k : Nat} {x : am_sh} (h : am_nth ES k = some x) (hI : ∀ a, a ≠ k → I' a = I a) : (am_W ad ca I).set k (am_cell ad ca I' k x) = am_W ad ca I' := by
  rw [am_nth_eq] at h
  apply List.ext_getElem?
  intro i
  by_cases e : i = k
  · subst e
    have hl : i < (am_W ad ca I).length := by
      have h1 : (am_W ad ca I)[i]? = some (am_cell ad ca I i x) := by rw [am_W_get, h]; rfl
      exact (List.getElem?_eq_some_iff.mp h1).1
    rw [List.getElem?_set_self hl, am_W_get, h]; rfl
  · rw [List.getElem?_set_ne (Ne.symm e), am_W_get, am_W_get]
    cases ES[i]? with
    | none => rfl
    | some y => show some _ = some _; rw [am_cell_congr y (hI i e)]
theorem am_fv_get (ad : Nat → Nat) (f : Nat → Int) : ∀ (l : List (Bool ⊕ Nat)) (j i : Nat), (am_fv ad f j l)[i]? = (l[i]?).map (fun x => match x with | .inl _ => Value.int (Int32.ofInt (f (j + i))) | .inr r => Value.ref (ad r))
  | [], j, i => by simp [am_fv]
  | .inl b :: l, j, 0 => by simp [am_fv]
  | .inr b :: l, j, 0 => by simp [am_fv]
  | .inl b :: l, j, i + 1 => by
    simp only [am_fv, List.getElem?_cons_succ]
    rw [am_fv_get ad f l (j + 1) i, show j + 1 + i = j + (i + 1) by omega]
  | .inr b :: l, j, i + 1 => by
    simp only [am_fv, List.getElem?_cons_succ]
    rw [am_fv_get ad f l (j + 1) i, show j + 1 + i = j + (i + 1) by omega]
theorem am_fv_len (ad : Nat → Nat) (f : Nat → Int) : ∀ (l : List (Bool ⊕ Nat)) (j : Nat), (am_fv ad f j l).length = l.length
  | [], j => rfl
  | .inl b :: l, j => by simp [am_fv, am_fv_len ad f l (j + 1)]
  | .inr b :: l, j => by simp [am_fv, am_fv_len ad f l (j + 1)]
theorem am_fv_set {ad : Nat → Nat} {f : Nat → Int} {l : List (Bool ⊕ Nat)} {i : Nat} {b : Bool} (x : Int) (h : l[i]? = some (.inl b)) : (am_fv ad f 0 l).set i (.int (Int32.ofInt x)) = am_fv ad (am_up f i x) 0 l := by
  apply List.ext_getElem?
  intro k
  have hl : i < (am_fv ad f 0 l).length := by rw [am_fv_len]; exact (List.getElem?_eq_some_iff.mp h).1
  by_cases e : k = i
  · subst e
    rw [List.getElem?_set_self hl, am_fv_get, h]
    simp [am_up]
  · rw [List.getElem?_set_ne (Ne.symm e), am_fv_get, am_fv_get]
    cases l[k]? with
    | none => rfl
    | some y =>
      cases y with
      | inl b => simp only [Option.map_some, Nat.zero_add]; rw [am_up_ne e]
      | inr r => rfl
def am_wide (v : am_v) : Bool := match v with
  | .inr (.inl _) => true
  | _ => false
theorem am_wide_cat (ad : Nat → Nat) (v : am_v) : (am_c ad v).category = if am_wide v then 2 else 1 := by
  rcases v with x | x | x <;> rfl
def am_cf (i : Nat) (w : Bool) (q : Nat × am_v) : Bool := match Nat.beq q.1 i with
  | true => true
  | false => match w && Nat.beq q.1 (i + 1) with
    | true => true
    | false => Nat.beq (q.1 + 1) i && am_wide q.2
def am_flt {α : Type} : List (Nat × am_v) → Nat → Bool → (List (Nat × am_v) → α) → α
  | [], _, _, k => k []
  | q :: l, i, w, k => match am_cf i w q with
    | true => am_flt l i w k
    | false => am_flt l i w (fun l' => k (q :: l'))
def am_ins {α : Type} : List (Nat × am_v) → Nat → am_v → (List (Nat × am_v) → α) → α
  | [], i, v, k => k [(i, v)]
  | q :: l, i, v, k => match Nat.ble i q.1 with
    | true => k ((i, v) :: q :: l)
    | false => am_ins l i v (fun l' => k (q :: l'))
def am_set {α : Type} (lv : List (Nat × am_v)) (i : Nat) (v : am_v) (k : List (Nat × am_v) → α) : α := am_flt lv i (am_wide v) (fun l => am_ins l i v k)
theorem am_flt_eq {α : Type} (i : Nat) (w : Bool) : ∀ (l : List (Nat × am_v)) (k : List (Nat × am_v) → α), ∃ l', am_flt l i w k = k l' ∧ ∀ q ∈ l', q ∈ l ∧ am_cf i w q = false
  | [], k => ⟨[], rfl, fun q h => by cases h⟩
  | q :: l, k => by
    unfold am_flt
    cases hc : am_cf i w q with
    | true =>
      obtain ⟨l', h1, h2⟩ := am_flt_eq i w l k
      exact ⟨l', h1, fun z hz => ⟨List.mem_cons_of_mem _ (h2 z hz).1, (h2 z hz).2⟩⟩
    | false =>
      obtain ⟨l', h1, h2⟩ := am_flt_eq i w l (fun l' => k (q :: l'))
      refine ⟨q :: l', h1, fun z hz => ?_⟩
      rcases List.mem_cons.mp hz with rfl | hz
      · exact ⟨List.mem_cons_self, hc⟩
      · exact ⟨List.mem_cons_of_mem _ (h2 z hz).1, (h2 z hz).2⟩
theorem am_ins_eq {α : Type} (i : Nat) (v : am_v) : ∀ (l : List (Nat × am_v)) (k : List (Nat × am_v) → α), ∃ l', am_ins l i v k = k l' ∧ ∀ q ∈ l', q = (i, v) ∨ q ∈ l
  | [], k => ⟨[(i, v)], rfl, fun q h => by rcases List.mem_cons.mp h with h | h; exact Or.inl h; cases h⟩
  | q :: l, k => by
    unfold am_ins
    cases hc : Nat.ble i q.1 with
    | true =>
      refine ⟨(i, v) :: q :: l, rfl, fun z hz => ?_⟩
      rcases List.mem_cons.mp hz with rfl | hz
      · exact Or.inl rfl
      · exact Or.inr hz
    | false =>
      obtain ⟨l', h1, h2⟩ := am_ins_eq i v l (fun l' => k (q :: l'))
      refine ⟨q :: l', h1, fun z hz => ?_⟩
      rcases List.mem_cons.mp hz with rfl | hz
      · exact Or.inr List.mem_cons_self
      · rcases h2 z hz with h | h
        · exact Or.inl h
        · exact Or.inr (List.mem_cons_of_mem _ h)
theorem am_set_eq {α : Type} (lv : List (Nat × am_v)) (i : Nat) (v : am_v) (k : List (Nat × am_v) → α) : ∃ l', am_set lv i v k = k l' ∧ ∀ q ∈ l', q = (i, v) ∨ (q ∈ lv ∧ am_cf i (am_wide v) q = false) := by
  obtain ⟨l1, e1, m1⟩ := am_flt_eq i (am_wide v) lv (fun l => am_ins l i v k)
  obtain ⟨l2, e2, m2⟩ := am_ins_eq i v l1 k
  refine ⟨l2, e1.trans e2, fun q hq => ?_⟩
  rcases m2 q hq with h | h
  · exact Or.inl h
  · exact Or.inr (m1 q h)
def am_lk : List (Nat × am_v) → Nat → Option am_v
  | [], _ => none
  | q :: l, i => match Nat.beq q.1 i with
    | true => some q.2
    | false => am_lk l i
theorem am_lk_mem : ∀ {l : List (Nat × am_v)} {i : Nat} {v : am_v}, am_lk l i = some v → (i, v) ∈ l
  | q :: l, i, v, h => by
    unfold am_lk at h
    cases hc : Nat.beq q.1 i with
    | true =>
      rw [hc] at h
      cases h
      have := Nat.eq_of_beq_eq_true hc
      subst this
      exact List.mem_cons_self
    | false =>
      rw [hc] at h
      exact List.mem_cons_of_mem _ (am_lk_mem h)
def am_cl (ad : Nat → Nat) (lv : List (Nat × am_v)) : List (Nat × Value) := lv.map (fun q => (q.1, am_c ad q.2))
theorem am_lv_get {ls : Array Slot} {nL : Nat} {ad : Nat → Nat} {lv : List (Nat × am_v)} {i : Nat} {v : am_v} (h : lv_has ls nL (am_cl ad lv)) (hk : am_lk lv i = some v) : ls[i]? = some (.val (am_c ad v)) :=
  h.2.2 (i, am_c ad v) (List.mem_map.mpr ⟨(i, v), am_lk_mem hk, rfl⟩)
theorem am_lv_set1 {ls : Array Slot} {nL : Nat} {ad : Nat → Nat} {lv l' : List (Nat × am_v)} {i : Nat} {v : am_v} (hw : am_wide v = false) (hm : ∀ q ∈ l', q = (i, v) ∨ (q ∈ lv ∧ am_cf i (am_wide v) q = false))
    (h : lv_has ls nL ((i, am_c ad v) :: (am_cl ad lv).filter (fun q => !(q.1 == i) && !(q.1 + 1 == i && q.2.category == 2)))) : lv_has ls nL (am_cl ad l') := by
  refine ⟨h.1, h.2.1, fun q hq => h.2.2 q ?_⟩
  obtain ⟨z, hz, rfl⟩ := List.mem_map.mp hq
  rcases hm z hz with rfl | ⟨h1, h2⟩
  · exact List.mem_cons_self
  · refine List.mem_cons_of_mem _ (List.mem_filter.mpr ⟨List.mem_map.mpr ⟨z, h1, rfl⟩, ?_⟩)
    simp only [am_cf] at h2
    cases e1 : Nat.beq z.1 i with
    | true => rw [e1] at h2; cases h2
    | false =>
      rw [e1] at h2
      rw [hw] at h2
      simp only [Bool.false_and] at h2
      have n1 : ¬ z.1 = i := fun q => by rw [q, Nat.beq_refl] at e1; cases e1
      show (!(z.1 == i) && !(z.1 + 1 == i && (am_c ad z.2).category == 2)) = true
      rw [am_wide_cat]
      by_cases e2 : z.1 + 1 = i
      · rw [e2, Nat.beq_refl, Bool.true_and] at h2
        simp [n1, h2]
      · simp [n1, e2]
theorem am_lv_set2 {ls : Array Slot} {nL : Nat} {ad : Nat → Nat} {lv l' : List (Nat × am_v)} {i : Nat} {v : am_v} (hw : am_wide v = true) (hm : ∀ q ∈ l', q = (i, v) ∨ (q ∈ lv ∧ am_cf i (am_wide v) q = false))
    (h : lv_has ls nL ((i, am_c ad v) :: (am_cl ad lv).filter (fun q => !(q.1 == i) && (!(q.1 == i + 1) && !(q.1 + 1 == i && q.2.category == 2))))) : lv_has ls nL (am_cl ad l') := by
  refine ⟨h.1, h.2.1, fun q hq => h.2.2 q ?_⟩
  obtain ⟨z, hz, rfl⟩ := List.mem_map.mp hq
  rcases hm z hz with rfl | ⟨h1, h2⟩
  · exact List.mem_cons_self
  · refine List.mem_cons_of_mem _ (List.mem_filter.mpr ⟨List.mem_map.mpr ⟨z, h1, rfl⟩, ?_⟩)
    simp only [am_cf] at h2
    cases e1 : Nat.beq z.1 i with
    | true => rw [e1] at h2; cases h2
    | false =>
      rw [e1] at h2
      rw [hw] at h2
      simp only [Bool.true_and] at h2
      cases e3 : Nat.beq z.1 (i + 1) with
      | true => rw [e3] at h2; cases h2
      | false =>
        rw [e3] at h2
        have n1 : ¬ z.1 = i := fun q => by rw [q, Nat.beq_refl] at e1; cases e1
        have n3 : ¬ z.1 = i + 1 := fun q => by rw [q, Nat.beq_refl] at e3; cases e3
        show (!(z.1 == i) && (!(z.1 == i + 1) && !(z.1 + 1 == i && (am_c ad z.2).category == 2))) = true
        rw [am_wide_cat]
        by_cases e2 : z.1 + 1 = i
        · simp only [e2, Nat.beq_refl, Bool.true_and] at h2
          simp [n1, n3, h2]
        · simp [n1, n3, e2]
def am_and (x y : Int) : Int := (Int32.ofInt x &&& Int32.ofInt y).toInt
def am_or (x y : Int) : Int := (Int32.ofInt x ||| Int32.ofInt y).toInt
def am_shl (x y : Int) : Int := (Int32.ofInt x <<< (Int32.ofInt y &&& 31)).toInt
def am_shr (x y : Int) : Int := (Int32.ofInt x >>> (Int32.ofInt y &&& 31)).toInt
def am_ushr (x y : Int) : Int := ((Int32.ofInt x).toUInt32 >>> ((Int32.ofInt y).toUInt32 &&& Int32.toUInt32 31)).toInt32.toInt
def am_landL (x y : Int) : Int := (Int64.ofInt x &&& Int64.ofInt y).toInt
def am_lorL (x y : Int) : Int := (Int64.ofInt x ||| Int64.ofInt y).toInt
def am_lshlL (x y : Int) : Int := (Int64.ofInt x <<< ((Int32.ofInt y).toInt64 &&& 63)).toInt
theorem am_of (z : Int32) : Int32.ofInt z.toInt = z := Int32.ofInt_toInt z
theorem am_ofL (z : Int64) : Int64.ofInt z.toInt = z := Int64.ofInt_toInt z
abbrev am_R : Type := Option (Option Prop × Nat × List (Nat × am_v) × List am_v × am_I)
def am_fs : List (Nat × Nat × Nat) → Nat → Nat → Option Nat
  | [], _, _ => none
  | (a, b, c) :: l, idx, ci => match Nat.beq a idx with
    | true => match Nat.beq b ci with
      | true => some c
      | false => am_fs l idx ci
    | false => am_fs l idx ci
theorem am_fs_mem : ∀ {l : List (Nat × Nat × Nat)} {idx ci j : Nat}, am_fs l idx ci = some j → (idx, ci, j) ∈ l
  | (a, b, c) :: l, idx, ci, j, h => by
    unfold am_fs at h
    cases h1 : Nat.beq a idx with
    | true =>
      rw [h1] at h
      cases h2 : Nat.beq b ci with
      | true =>
        rw [h2] at h
        cases h
        have e1 := Nat.eq_of_beq_eq_true h1
        have e2 := Nat.eq_of_beq_eq_true h2
        subst e1; subst e2
        exact List.mem_cons_self
      | false => rw [h2] at h; exact List.mem_cons_of_mem _ (am_fs_mem h)
    | false => rw [h1] at h; exact List.mem_cons_of_mem _ (am_fs_mem h)
def am_ii (st : List am_v) (k : Int → Int → List am_v → am_R) : am_R := match st with
  | .inl y :: .inl x :: r => k x y r
  | _ => none
def am_i1 (st : List am_v) (k : Int → List am_v → am_R) : am_R := match st with
  | .inl x :: r => k x r
  | _ => none
def am_l1 (st : List am_v) (k : Int → List am_v → am_R) : am_R := match st with
  | .inr (.inl x) :: r => k x r
  | _ => none
def am_ll (st : List am_v) (k : Int → Int → List am_v → am_R) : am_R := match st with
  | .inr (.inl y) :: .inr (.inl x) :: r => k x y r
  | _ => none
def am_ai (st : List am_v) (k : Nat → Int → List am_v → am_R) : am_R := match st with
  | .inl i :: .inr (.inr a) :: r => k a i r
  | _ => none
def am_ldi (lv : List (Nat × am_v)) (i : Nat) (k : Int → am_R) : am_R := match am_lk lv i with
  | some (.inl x) => k x
  | _ => none
def am_ldl (lv : List (Nat × am_v)) (i : Nat) (k : Int → am_R) : am_R := match am_lk lv i with
  | some (.inr (.inl x)) => k x
  | _ => none
def am_lda (lv : List (Nat × am_v)) (i : Nat) (k : Nat → am_R) : am_R := match am_lk lv i with
  | some (.inr (.inr x)) => k x
  | _ => none
def am_ob (a : Nat) (k : Nat → List (Bool ⊕ Nat) → am_R) : am_R := match am_nth ES a with
  | some (.inl o) => k o.1 o.2
  | _ => none
def am_arr (a : Nat) (k : FieldType → Int → List Nat → am_R) : am_R := match am_nth ES a with
  | some (.inr (ty, n, rs)) => k ty n rs
  | _ => none
def am_fsk (fl : List (Nat × Nat × Nat)) (idx ci : Nat) (k : Nat → am_R) : am_R := match am_fs fl idx ci with
  | some j => k j
  | none => none
def am_gf (fs : List (Bool ⊕ Nat)) (j : Nat) (k1 : Bool → am_R) (k2 : Nat → am_R) : am_R := match am_nth fs j with
  | some (.inl b) => k1 b
  | some (.inr r) => k2 r
  | none => none
def am_isI (ty : FieldType) (k : am_R) : am_R := match ty with
  | .int => k
  | _ => none
def am_isL (ty : FieldType) (k : am_R) : am_R := match ty with
  | .long => k
  | _ => none
def am_isZ (ty : FieldType) (k : am_R) : am_R := match ty with
  | .boolean => k
  | _ => none
def am_isA (ty : FieldType) (k : am_R) : am_R := match ty with
  | .array .int => k
  | _ => none
def am_nk (rs : List Nat) (i : Nat) (k : Nat → am_R) : am_R := match am_nth rs i with
  | some q => k q
  | none => none
def am_ex (fl : List (Nat × Nat × Nat)) (ins : Instr) (nx : Nat) (ax : Int) (tg : Nat) (lv : List (Nat × am_v)) (st : List am_v) (I : am_I) : am_R := match ins with
  | .iconst _ => some (none, nx, lv, .inl ax :: st, I)
  | .bipush _ => some (none, nx, lv, .inl ax :: st, I)
  | .sipush _ => some (none, nx, lv, .inl ax :: st, I)
  | .ldc _ => some (none, nx, lv, .inl ax :: st, I)
  | .ldc_w _ => some (none, nx, lv, .inl ax :: st, I)
  | .lconst _ => some (none, nx, lv, .inr (.inl ax) :: st, I)
  | .ldc2_w _ => some (none, nx, lv, .inr (.inl ax) :: st, I)
  | .iload _ => am_ldi lv tg (fun x => some (none, nx, lv, .inl x :: st, I))
  | .iload_n _ => am_ldi lv tg (fun x => some (none, nx, lv, .inl x :: st, I))
  | .lload _ => am_ldl lv tg (fun x => some (none, nx, lv, .inr (.inl x) :: st, I))
  | .lload_n _ => am_ldl lv tg (fun x => some (none, nx, lv, .inr (.inl x) :: st, I))
  | .aload _ => am_lda lv tg (fun x => some (none, nx, lv, .inr (.inr x) :: st, I))
  | .aload_n _ => am_lda lv tg (fun x => some (none, nx, lv, .inr (.inr x) :: st, I))
  | .istore _ => am_i1 st (fun x r => am_set lv tg (.inl x) (fun l' => some (none, nx, l', r, I)))
  | .istore_n _ => am_i1 st (fun x r => am_set lv tg (.inl x) (fun l' => some (none, nx, l', r, I)))
  | .lstore _ => am_l1 st (fun x r => am_set lv tg (.inr (.inl x)) (fun l' => some (none, nx, l', r, I)))
  | .lstore_n _ => am_l1 st (fun x r => am_set lv tg (.inr (.inl x)) (fun l' => some (none, nx, l', r, I)))
  | .iinc _ _ => am_ldi lv tg (fun x => am_set lv tg (.inl (x + ax)) (fun l' => some (none, nx, l', st, I)))
  | .iadd => am_ii st (fun x y r => some (none, nx, lv, .inl (x + y) :: r, I))
  | .isub => am_ii st (fun x y r => some (none, nx, lv, .inl (x - y) :: r, I))
  | .imul => am_ii st (fun x y r => some (none, nx, lv, .inl (x * y) :: r, I))
  | .idiv => am_ii st (fun x y r => some (some ((0 ≤ x ∧ x < 2147483648) ∧ (0 < y ∧ y < 2147483648)), nx, lv, .inl (x / y) :: r, I))
  | .irem => am_ii st (fun x y r => some (some ((0 ≤ x ∧ x < 2147483648) ∧ (0 < y ∧ y < 2147483648)), nx, lv, .inl (x % y) :: r, I))
  | .ineg => am_i1 st (fun x r => some (none, nx, lv, .inl (-x) :: r, I))
  | .iand => am_ii st (fun x y r => some (none, nx, lv, .inl (am_and x y) :: r, I))
  | .ior => am_ii st (fun x y r => some (none, nx, lv, .inl (am_or x y) :: r, I))
  | .ishl => am_ii st (fun x y r => some (none, nx, lv, .inl (am_shl x y) :: r, I))
  | .ishr => am_ii st (fun x y r => some (none, nx, lv, .inl (am_shr x y) :: r, I))
  | .iushr => am_ii st (fun x y r => some (none, nx, lv, .inl (am_ushr x y) :: r, I))
  | .ladd => am_ll st (fun x y r => some (none, nx, lv, .inr (.inl (x + y)) :: r, I))
  | .lsub => am_ll st (fun x y r => some (none, nx, lv, .inr (.inl (x - y)) :: r, I))
  | .i2l => am_i1 st (fun x r => some (some (-2147483648 ≤ x ∧ x < 2147483648), nx, lv, .inr (.inl x) :: r, I))
  | .l2i => am_l1 st (fun x r => some (none, nx, lv, .inl x :: r, I))
  | .dup => match st with
    | .inl x :: r => some (none, nx, lv, .inl x :: .inl x :: r, I)
    | .inr (.inr x) :: r => some (none, nx, lv, .inr (.inr x) :: .inr (.inr x) :: r, I)
    | _ => none
  | .dup2 => am_ai st (fun a i r => some (none, nx, lv, .inl i :: .inr (.inr a) :: .inl i :: .inr (.inr a) :: r, I))
  | .goto _ => some (none, tg, lv, st, I)
  | .getfield idx => match st with
    | .inr (.inr a) :: r => am_ob a (fun ci fs => am_fsk fl idx ci (fun j => am_gf fs j (fun _ => some (none, nx, lv, .inl (I a j) :: r, I)) (fun q => some (none, nx, lv, .inr (.inr q) :: r, I))))
    | _ => none
  | .putfield idx => match st with
    | .inl x :: .inr (.inr a) :: r => am_ob a (fun ci fs => am_fsk fl idx ci (fun j => am_gf fs j (fun b => match b with
      | false => some (none, nx, lv, r, am_u I a j x)
      | true => some (some (x = 0 ∨ x = 1), nx, lv, r, am_u I a j x)) (fun _ => none)))
    | _ => none
  | .iaload => am_ai st (fun a i r => am_arr a (fun ty n _ => am_isI ty (some (some (0 ≤ i ∧ i < n), nx, lv, .inl (I a i.toNat) :: r, I))))
  | .laload => am_ai st (fun a i r => am_arr a (fun ty n _ => am_isL ty (some (some (0 ≤ i ∧ i < n), nx, lv, .inr (.inl (I a i.toNat)) :: r, I))))
  | .baload => am_ai st (fun a i r => am_arr a (fun ty n _ => am_isZ ty (some (some (0 ≤ i ∧ i < n), nx, lv, .inl (I a i.toNat) :: r, I))))
  | .aaload => am_ai st (fun a i r => am_arr a (fun ty n rs => am_isA ty (am_nk rs i.toNat (fun q => some (some (0 ≤ i ∧ i < n), nx, lv, .inr (.inr q) :: r, I)))))
  | .iastore => match st with
    | .inl x :: .inl i :: .inr (.inr a) :: r => am_arr a (fun ty n _ => am_isI ty (some (some (0 ≤ i ∧ i < n), nx, lv, r, am_u I a i.toNat x)))
    | _ => none
  | .bastore => match st with
    | .inl x :: .inl i :: .inr (.inr a) :: r => am_arr a (fun ty n _ => am_isZ ty (some (some ((0 ≤ i ∧ i < n) ∧ (x = 0 ∨ x = 1)), nx, lv, r, am_u I a i.toNat x)))
    | _ => none
  | .lastore => match st with
    | .inr (.inl x) :: .inl i :: .inr (.inr a) :: r => am_arr a (fun ty n _ => am_isL ty (some (some (0 ≤ i ∧ i < n), nx, lv, r, am_u I a i.toNat x)))
    | _ => none
  | .arraylength => match st with
    | .inr (.inr a) :: r => am_arr a (fun _ n _ => some (none, nx, lv, .inl n :: r, I))
    | _ => none
  | _ => none
def am_at : List am_e → Nat → Option (Instr × Nat × Int × Nat)
  | [], _ => none
  | e :: l, pc => match Nat.beq e.1 pc with
    | true => some e.2
    | false => am_at l pc
theorem am_at_mem : ∀ {l : List am_e} {pc : Nat} {q : Instr × Nat × Int × Nat}, am_at l pc = some q → (pc, q) ∈ l
  | e :: l, pc, q, h => by
    unfold am_at at h
    cases h1 : Nat.beq e.1 pc with
    | true =>
      rw [h1] at h
      cases h
      have e1 := Nat.eq_of_beq_eq_true h1
      subst e1
      exact List.mem_cons_self
    | false => rw [h1] at h; exact List.mem_cons_of_mem _ (am_at_mem h)
def am_step (y : am_Y) (pc : Nat) (lv : List (Nat × am_v)) (st : List am_v) (I : am_I) : am_R := match am_at y.2.2.2.2.1 pc with
  | none => none
  | some (ins, nx, ax, tg) => am_ex y.2.2.2.2.2 ins nx ax tg lv st I
def am_mem (n : Nat) : List Nat → Bool
  | [] => false
  | a :: l => match Nat.beq a n with
    | true => true
    | false => am_mem n l
def am_run : Nat → List Nat → am_Y → Nat → List (Nat × am_v) → List am_v → am_I → am_R
  | 0, _, _, pc, lv, st, I => some (none, pc, lv, st, I)
  | n + 1, ss, y, pc, lv, st, I => match am_step y pc lv st I with
    | none => some (none, pc, lv, st, I)
    | some (P, pc', lv', st', I') => match am_mem pc' ss with
      | true => some (P, pc', lv', st', I')
      | false => match am_run n ss y pc' lv' st' I' with
        | none => none
        | some (Q, c) => match P with
          | none => some (Q, c)
          | some p => match Q with
            | none => some (some p, c)
            | some q => some (some (p ∧ q), c)
def am_p (P : Option Prop) : Prop := match P with
  | none => True
  | some p => p
def am_cnd (o : ClassFile.Cond) (x y : Int) : Prop := match o with
  | .eq => x = y
  | .ne => ¬ x = y
  | .lt => x < y
  | .ge => y ≤ x
  | .gt => y < x
  | .le => x ≤ y
