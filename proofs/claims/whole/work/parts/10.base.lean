def am_runp (n : Nat) (ss : List Nat) (y : am_Y) (pc : Nat) (lv : List (Nat × am_v)) (st : List am_v) (I : am_I) : am_R := match am_mem pc ss with
  | true => none
  | false => match am_step y pc lv st I with
    | none => none
    | some _ => am_run n ss y pc lv st I
theorem am_gp {d : Nat} {y : am_Y} {Po : Option am_v → am_I → Prop} {pc pc' : Nat} {lv lv' : List (Nat × am_v)} {st st' : List am_v} {I I' : am_I} {P : Option Prop} (n : Nat) (ss : List Nat) (h : am_runp n ss y pc lv st I = some (P, pc', lv', st', I')) (hp : am_p P) (k : am_V d y Po pc' lv' st' I') : am_V d y Po pc lv st I := by
  unfold am_runp at h
  split at h
  · cases h
  · split at h
    · cases h
    · exact am_go n ss h hp k
theorem am_bt {d : Nat} {y : am_Y} {Po : Option am_v → am_I → Prop} {pc tg nx : Nat} {lv : List (Nat × am_v)} {st r : List am_v} {I : am_I} {P C : Prop} (h : am_brf y pc st = some (P, C, tg, nx, r)) (hp : P) (hc : C) (kt : am_V d y Po tg lv r I) : am_V d y Po pc lv st I := am_br h hp (fun _ => kt) (fun z => absurd hc z)
theorem am_bf {d : Nat} {y : am_Y} {Po : Option am_v → am_I → Prop} {pc tg nx : Nat} {lv : List (Nat × am_v)} {st r : List am_v} {I : am_I} {P C : Prop} (h : am_brf y pc st = some (P, C, tg, nx, r)) (hp : P) (hc : ¬ C) (kf : am_V d y Po nx lv r I) : am_V d y Po pc lv st I := am_br h hp (fun z => absurd z hc) (fun _ => kf)
theorem am_u_at (I : am_I) (k j : Nat) (x : Int) : am_u I k j x k j = x := by rw [am_u_eq, am_up_eq]
theorem am_u_j {I : am_I} {k j i : Nat} {x : Int} (h : i ≠ j) : am_u I k j x k i = I k i := by rw [am_u_eq, am_up_ne h]
theorem am_and_rng (x y : Int) : -2147483648 ≤ am_and x y ∧ am_and x y < 2147483648 := by
  unfold am_and
  have h1 := Int32.le_toInt (Int32.ofInt x &&& Int32.ofInt y)
  have h2 := Int32.toInt_lt (Int32.ofInt x &&& Int32.ofInt y)
  omega
theorem am_or_rng (x y : Int) : -2147483648 ≤ am_or x y ∧ am_or x y < 2147483648 := by
  unfold am_or
  have h1 := Int32.le_toInt (Int32.ofInt x ||| Int32.ofInt y)
  have h2 := Int32.toInt_lt (Int32.ofInt x ||| Int32.ofInt y)
  omega
theorem am_and_1 (x : Int) : am_and x 1 = 0 ∨ am_and x 1 = 1 := by
  unfold am_and
  have h : ∀ z : Int32, (z &&& 1).toInt = 0 ∨ (z &&& 1).toInt = 1 := by
    intro z
    have e : (z &&& 1).toBitVec = z.toBitVec &&& 1#32 := rfl
    have h2 : (z &&& 1).toBitVec = 0#32 ∨ (z &&& 1).toBitVec = 1#32 := by
      rw [e]
      generalize z.toBitVec = b
      revert b
      intro b
      have : b &&& 1#32 = if b.getLsbD 0 then 1#32 else 0#32 := by
        ext i hi
        simp only [BitVec.getElem_and]
        cases i with
        | zero => cases hb : b.getLsbD 0 <;> simp [BitVec.getLsbD, ← BitVec.getLsbD_eq_getElem] at hb ⊢ <;> simp_all
        | succ i => cases b.getLsbD 0 <;> simp
      rw [this]
      split
      · exact Or.inr rfl
      · exact Or.inl rfl
    rcases h2 with h2 | h2
    · left; show (z &&& 1).toBitVec.toInt = 0; rw [h2]; rfl
    · right; show (z &&& 1).toBitVec.toInt = 1; rw [h2]; rfl
  exact h _
def am_swc (V : Nat → Prop) (x : Int) : Int → List Nat → Prop
  | _, [] => True
  | v, t :: l => (x = v → V t) ∧ am_swc V x (v + 1) l
theorem am_swc_at {V : Nat → Prop} {x : Int} : ∀ {l : List Nat} {v : Int}, am_swc V x v l → ∀ (j t : Nat), l[j]? = some t → x = v + (j : Int) → V t
  | [], v, h, j, t, hj, hx => by simp at hj
  | a :: l, v, h, 0, t, hj, hx => by
    simp at hj
    subst hj
    exact h.1 (by omega)
  | a :: l, v, h, j + 1, t, hj, hx => am_swc_at h.2 j t (by simpa using hj) (by omega)
theorem am_sw2 {d : Nat} {y : am_Y} {Po : Option am_v → am_I → Prop} {pc nx tg : Nat} {ax : Int} {lv : List (Nat × am_v)} {I : am_I} {dflt lo hi : Int} {offs : Array Int} {x : Int} {r : List am_v} (ts : List Nat) (dt : Nat) (hat : am_at y.2.2.2.2.1 pc = some (.tableswitch dflt lo hi offs, nx, ax, tg)) (hts : offs.toList = ts.map (fun (t : Nat) => (t : Int) - (pc : Int))) (hdt : dflt = (dt : Int) - (pc : Int)) (hlen : (ts.length : Int) = hi - lo + 1) (hx : -2147483648 ≤ x ∧ x < 2147483648)
    (kk : am_swc (fun t => am_V d y Po t lv r I) x lo ts) (kd : (x < lo ∨ hi < x) → am_V d y Po dt lv r I) : am_V d y Po pc lv (.inl x :: r) I := am_sw ts dt hat hts hdt hlen hx (am_swc_at kk) kd
def am_fr (I I' : am_I) (l : List Nat) : Prop := ∀ a : Nat, am_mem a l = false → I' a = I a
theorem am_fr.rf {I : am_I} {l : List Nat} : am_fr I I l := fun _ _ => rfl
theorem am_fr.u {I I' : am_I} {l : List Nat} (h : am_fr I I' l) {k : Nat} (j : Nat) (x : Int) (hk : am_mem k l = true) : am_fr I (am_u I' k j x) l := by
  intro a ha
  have hne : a ≠ k := fun e => by rw [e, hk] at ha; cases ha
  rw [am_u_ne hne]
  exact h a ha
theorem am_fr.tr {I I' I2 : am_I} {l : List Nat} (h : am_fr I I' l) (h2 : am_fr I' I2 l) : am_fr I I2 l := fun a ha => (h2 a ha).trans (h a ha)
theorem am_mem_app {a : Nat} : ∀ {l : List Nat}, am_mem a l = false → ∀ {k : Nat}, am_mem k l = true → a ≠ k := by
  intro l h k hk e
  rw [e, hk] at h
  cases h
