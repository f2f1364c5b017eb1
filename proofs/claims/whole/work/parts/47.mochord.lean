theorem c_mo_pitchOf (d : Nat) (i k v : Int) (I : am_I) (h : 0 ≤ 90 * i + 3 * k + v ∧ 90 * i + 3 * k + v < 540) : am_C d Y_mo_pitchOf [.inr (.inr 44), .inl i, .inl k, .inl v] I (fun r I' => I' = I ∧ r = some (.inl (I 56 (90 * i + 3 * k + v).toNat))) := by
  refine am_enter ok_mo_pitchOf rfl ?_
  repeat' (first
    | (refine am_gp 80 [] rfl (by first | exact True.intro | (refine And.intro ?_ ?_ <;> decide) | exact Or.inl rfl | exact Or.inr rfl | (simp (decide := true) only [am_p, am_u_at, am_u_j, am_u_ne]; omega) | (simp (decide := true) only [am_p, and_true, true_and, true_or, or_true, am_u_at, am_u_j, am_u_ne]; omega) | (simp (decide := true) [am_p, am_u_at, am_u_j, am_u_ne]; omega)) ?_)
    | (show am_V _ _ _ _ _ _ _; simp only [Int.reduceToNat])
    | (refine am_bt rfl (by first | omega | (simp (decide := true) only [am_u_at, am_u_j, am_u_ne]; omega)) (by first | omega | (simp (decide := true) only [am_u_at, am_u_j, am_u_ne]; omega)) ?_)
    | (refine am_bf rfl (by first | omega | (simp (decide := true) only [am_u_at, am_u_j, am_u_ne]; omega)) (by first | omega | (simp (decide := true) only [am_u_at, am_u_j, am_u_ne]; omega)) ?_)
    | (refine am_br rfl (by first | omega | (simp (decide := true) only [am_u_at, am_u_j, am_u_ne]; omega)) (fun h => ?_) (fun h => ?_))
    | (refine am_rt rfl (by first | exact True.intro | (refine And.intro ?_ ?_ <;> decide) | exact Or.inl rfl | exact Or.inr rfl | (show _ ∨ _; omega)) ?_))
  exact ⟨rfl, rfl⟩
def es_v3 (x : Int × Int × Int) (v : Int) : Int := if v = 0 then x.1 else if v = 1 then x.2.1 else x.2.2
def es_asc (x : Int × Int × Int) : Prop := 0 ≤ x.1 ∧ x.1 < x.2.1 ∧ x.2.1 < x.2.2 ∧ x.2.2 ≤ 200
def es_fv (most : Int) (x y : Int × Int × Int) (v u : Int) : Prop := es_ab most (es_v3 x v) (es_v3 y v) ∧ (0 < u → ¬ es_pl (es_v3 x 0) (es_v3 x v) (es_v3 y 0) (es_v3 y v)) ∧ (1 < u → ¬ es_pl (es_v3 x 1) (es_v3 x v) (es_v3 y 1) (es_v3 y v))
def es_fw2 (most : Int) (x y : Int × Int × Int) (v : Int) : Prop := (0 < v → es_fv most x y 0 0) ∧ (1 < v → es_fv most x y 1 1) ∧ (2 < v → es_fv most x y 2 2)
theorem es_fw3 {most : Int} {x y : Int × Int × Int} : es_fw2 most x y 3 ↔ es_fo most x y := by
  unfold es_fw2 es_fv es_fo
  have h0 : es_v3 x 0 = x.1 := rfl
  have h1 : es_v3 x 1 = x.2.1 := rfl
  have h2 : es_v3 x 2 = x.2.2 := rfl
  have k0 : es_v3 y 0 = y.1 := rfl
  have k1 : es_v3 y 1 = y.2.1 := rfl
  have k2 : es_v3 y 2 = y.2.2 := rfl
  rw [h0, h1, h2, k0, k1, k2]
  constructor
  · rintro ⟨a, b, c⟩
    have a' := a (by omega)
    have b' := b (by omega)
    have c' := c (by omega)
    exact ⟨a'.1, b'.1, b'.2.1 (by omega), c'.1, c'.2.1 (by omega), c'.2.2 (by omega)⟩
  · rintro ⟨a, b, c, e, f, g⟩
    refine ⟨fun _ => ⟨a, fun h => ?_, fun h => ?_⟩, fun _ => ⟨b, fun _ => c, fun h => ?_⟩, fun _ => ⟨e, fun _ => f, fun _ => g⟩⟩
    · omega
    · omega
    · omega
theorem es_v3_lt {x : Int × Int × Int} (h : es_asc x) {u v : Int} (hu : 0 ≤ u) (huv : u < v) (hv : v ≤ 2) : es_v3 x u < es_v3 x v := by
  unfold es_v3
  unfold es_asc at h
  rw [if_neg (show ¬ v = 0 by omega)]
  split
  · split
    · exact h.2.1
    · omega
  · rw [if_pos (show u = 1 by omega), if_neg (show ¬ v = 1 by omega)]
    exact h.2.2.1
theorem es_v3_rng {x : Int × Int × Int} (h : es_asc x) (v : Int) : 0 ≤ es_v3 x v ∧ es_v3 x v ≤ 200 := by
  unfold es_v3
  unfold es_asc at h
  split
  · omega
  · split
    · omega
    · omega
theorem es_fv_s {most : Int} {x y : Int × Int × Int} {v u : Int} (hu : u = 0 ∨ u = 1) : es_fv most x y v (u + 1) ↔ (es_fv most x y v u ∧ ¬ es_pl (es_v3 x u) (es_v3 x v) (es_v3 y u) (es_v3 y v)) := by
  unfold es_fv
  rcases hu with rfl | rfl
  · constructor
    · rintro ⟨a, b, c⟩
      exact ⟨⟨a, fun h => by omega, fun h => by omega⟩, b (by omega)⟩
    · rintro ⟨⟨a, b, c⟩, e⟩
      exact ⟨a, fun _ => e, fun h => by omega⟩
  · constructor
    · rintro ⟨a, b, c⟩
      exact ⟨⟨a, fun _ => b (by omega), fun h => by omega⟩, c (by omega)⟩
    · rintro ⟨⟨a, b, c⟩, e⟩
      exact ⟨a, fun _ => b (by omega), fun _ => e⟩
theorem es_fv_0 {most : Int} {x y : Int × Int × Int} {v : Int} : es_fv most x y v 0 ↔ es_ab most (es_v3 x v) (es_v3 y v) := by
  unfold es_fv
  exact ⟨fun h => h.1, fun h => ⟨h, fun z => by omega, fun z => by omega⟩⟩
theorem es_fw2_s {most : Int} {x y : Int × Int × Int} {v : Int} (hv : v = 0 ∨ v = 1 ∨ v = 2) : es_fw2 most x y (v + 1) ↔ (es_fw2 most x y v ∧ es_fv most x y v v) := by
  unfold es_fw2
  rcases hv with rfl | rfl | rfl
  · exact ⟨fun h => ⟨⟨fun z => by omega, fun z => by omega, fun z => by omega⟩, h.1 (by omega)⟩, fun h => ⟨fun _ => h.2, fun z => by omega, fun z => by omega⟩⟩
  · exact ⟨fun h => ⟨⟨fun _ => h.1 (by omega), fun z => by omega, fun z => by omega⟩, h.2.1 (by omega)⟩, fun h => ⟨fun _ => h.1.1 (by omega), fun _ => h.2, fun z => by omega⟩⟩
  · exact ⟨fun h => ⟨⟨fun _ => h.1 (by omega), fun _ => h.2.1 (by omega), fun z => by omega⟩, h.2.2 (by omega)⟩, fun h => ⟨fun _ => h.1.1 (by omega), fun _ => h.1.2.1 (by omega), fun _ => h.2⟩⟩
theorem es_fw2_0 {most : Int} {x y : Int × Int × Int} : es_fw2 most x y 0 := ⟨fun z => by omega, fun z => by omega, fun z => by omega⟩
theorem c_follows (d : Nat) (i k j : Int) (I : am_I) (x y : Int × Int × Int) (hi : 0 ≤ i ∧ i ≤ 4) (hk : 0 ≤ k ∧ k ≤ 5) (hj : 0 ≤ j ∧ j ≤ 5) (hx : ∀ v : Int, 0 ≤ v → v ≤ 2 → I 56 (90 * i + 3 * k + v).toNat = es_v3 x v) (hy : ∀ v : Int, 0 ≤ v → v ≤ 2 → I 56 (90 * (i + 1) + 3 * j + v).toNat = es_v3 y v) (ax : es_asc x) (ay : es_asc y) (hm : 0 ≤ I 44 23 ∧ I 44 23 ≤ 12) : am_C (d + 1) Y_mo_follows [.inr (.inr 44), .inl i, .inl k, .inl j] I (fun r I' => I' = I ∧ ((r = some (.inl 1) ∧ es_fo (I 44 23) x y) ∨ (r = some (.inl 0) ∧ ¬ es_fo (I 44 23) x y))) := by
  refine am_enter ok_mo_follows rfl ?_
  have loopv : ∀ (m : Nat) (v s : Int), 0 ≤ v → v ≤ 3 → 3 - v < m → ((s = 1 ∧ es_fw2 (I 44 23) x y v) ∨ (s = 0 ∧ ¬ es_fw2 (I 44 23) x y v)) → am_V (d + 1) Y_mo_follows (fun r I' => I' = I ∧ ((r = some (.inl 1) ∧ es_fo (I 44 23) x y) ∨ (r = some (.inl 0) ∧ ¬ es_fo (I 44 23) x y))) 6 [(0, .inr (.inr 44)), (1, .inl i), (2, .inl k), (3, .inl j), (4, .inl s), (5, .inl v)] [] I := by
    intro m
    induction m with
    | zero => intro v s h1 h2 h3; omega
    | succ m ih =>
      intro v s h1 h2 h3 hs
      have hs01 : s = 0 ∨ s = 1 := by
        rcases hs with c | c
        · exact Or.inr c.1
        · exact Or.inl c.1
      have rx := es_v3_rng ax v
      have ry := es_v3_rng ay v
      have ex : v ≤ 2 → I 56 (90 * i + 3 * k + v).toNat = es_v3 x v := fun h => hx v h1 h
      have ey : v ≤ 2 → I 56 (90 * (i + 1) + 3 * j + v).toNat = es_v3 y v := fun h => hy v h1 h
      have loopu : ∀ (n : Nat) (u s : Int), v ≤ 2 → 0 ≤ u → u ≤ v → v - u < n → ((s = 1 ∧ (es_fw2 (I 44 23) x y v ∧ es_fv (I 44 23) x y v u)) ∨ (s = 0 ∧ ¬ (es_fw2 (I 44 23) x y v ∧ es_fv (I 44 23) x y v u))) → am_V (d + 1) Y_mo_follows (fun r I' => I' = I ∧ ((r = some (.inl 1) ∧ es_fo (I 44 23) x y) ∨ (r = some (.inl 0) ∧ ¬ es_fo (I 44 23) x y))) 67 [(0, .inr (.inr 44)), (1, .inl i), (2, .inl k), (3, .inl j), (4, .inl s), (5, .inl v), (6, .inl (es_v3 y v - es_v3 x v)), (7, .inl u)] [] I := by
        intro n
        induction n with
        | zero => intro u s g0 g1 g2 g3; omega
        | succ n ihu =>
          intro u s g0 g1 g2 g3 gs
          have gs01 : s = 0 ∨ s = 1 := by
            rcases gs with c | c
            · exact Or.inr c.1
            · exact Or.inl c.1
          have sx := es_v3_rng ax u
          have sy := es_v3_rng ay u
          have fx : I 56 (90 * i + 3 * k + u).toNat = es_v3 x u := hx u g1 (by omega)
          have fy : I 56 (90 * (i + 1) + 3 * j + u).toNat = es_v3 y u := hy u g1 (by omega)
          have ex' := ex g0
          have ey' := ey g0
          have lx : u < v → es_v3 x u < es_v3 x v := fun h => es_v3_lt ax g1 h g0
          have ly : u < v → es_v3 y u < es_v3 y v := fun h => es_v3_lt ay g1 h g0
          have key : ∀ s' : Int, u < v → ((s = 1 ∧ ¬ es_pl (es_v3 x u) (es_v3 x v) (es_v3 y u) (es_v3 y v)) → s' = 1) → (¬ (s = 1 ∧ ¬ es_pl (es_v3 x u) (es_v3 x v) (es_v3 y u) (es_v3 y v)) → s' = 0) → am_V (d + 1) Y_mo_follows (fun r I' => I' = I ∧ ((r = some (.inl 1) ∧ es_fo (I 44 23) x y) ∨ (r = some (.inl 0) ∧ ¬ es_fo (I 44 23) x y))) 67 [(0, .inr (.inr 44)), (1, .inl i), (2, .inl k), (3, .inl j), (4, .inl s'), (5, .inl v), (6, .inl (es_v3 y v - es_v3 x v)), (7, .inl (u + 1))] [] I := by
            intro s' huv k1 k2
            refine ihu (u + 1) s' g0 (by omega) (by omega) (by omega) ?_
            have hfs := es_fv_s (most := I 44 23) (x := x) (y := y) (v := v) (u := u) (by omega)
            by_cases c : s = 1 ∧ ¬ es_pl (es_v3 x u) (es_v3 x v) (es_v3 y u) (es_v3 y v)
            · refine Or.inl ⟨k1 c, ?_⟩
              rcases gs with e | e
              · exact ⟨e.2.1, hfs.2 ⟨e.2.2, c.2⟩⟩
              · omega
            · refine Or.inr ⟨k2 c, fun z => ?_⟩
              have z2 := hfs.1 z.2
              rcases gs with e | e
              · exact c ⟨e.1, z2.2⟩
              · exact e.2 ⟨z.1, z2.1⟩
          unfold es_pl at key
          refine am_go 1 [] rfl trivial ?_
          repeat' (first
            | (refine am_gp 80 [6, 67] rfl (by first | exact True.intro | (refine And.intro ?_ ?_ <;> decide) | exact Or.inl rfl | exact Or.inr rfl | (simp (decide := true) only [am_p, am_u_at, am_u_j, am_u_ne]; omega) | (simp (decide := true) only [am_p, and_true, true_and, true_or, or_true, am_u_at, am_u_j, am_u_ne]; omega) | (simp (decide := true) [am_p, am_u_at, am_u_j, am_u_ne]; omega)) ?_)
            | (show am_V _ _ _ _ _ _ _; simp only [Int.reduceToNat])
            | (refine am_bt rfl (by first | omega | (simp (decide := true) only [am_u_at, am_u_j, am_u_ne]; omega)) (by first | omega | (simp (decide := true) only [am_u_at, am_u_j, am_u_ne]; omega)) ?_)
            | (refine am_bf rfl (by first | omega | (simp (decide := true) only [am_u_at, am_u_j, am_u_ne]; omega)) (by first | omega | (simp (decide := true) only [am_u_at, am_u_j, am_u_ne]; omega)) ?_)
            | (refine am_br rfl (by first | omega | (simp (decide := true) only [am_u_at, am_u_j, am_u_ne]; omega)) (fun h => ?_) (fun h => ?_))
            | (refine am_cV (y' := Y_mo_pitchOf) rfl lk_mo_202 ok_mo_pitchOf rfl rfl rfl (c_mo_pitchOf _ _ _ _ _ (by first | omega | (simp (decide := true) only [am_u_at, am_u_j, am_u_ne]; omega))) ?_; rintro r I ⟨rfl, rfl⟩)
            | (refine am_rt rfl (by first | exact True.intro | (refine And.intro ?_ ?_ <;> decide) | exact Or.inl rfl | exact Or.inr rfl | (show _ ∨ _; omega)) ?_))
          all_goals first
            | (refine am_wk [8, 9, 10, 11] ?_; exact key _ (by omega) (by omega) (by omega))
            | (refine am_wk [6, 7, 8, 9, 10, 11] ?_; refine ih (v + 1) s (by omega) (by omega) (by omega) ?_; have hfs := es_fw2_s (most := I 44 23) (x := x) (y := y) (v := v) (by omega); rw [show u = v by omega] at gs; rcases gs with e | e; exact Or.inl ⟨e.1, hfs.2 e.2⟩; exact Or.inr ⟨e.1, fun z => e.2 (hfs.1 z)⟩)
      have ent : ∀ s' : Int, v ≤ 2 → ((s = 1 ∧ (es_v3 y v - es_v3 x v ≤ I 44 23 ∧ es_v3 x v - es_v3 y v ≤ I 44 23)) → s' = 1) → (¬ (s = 1 ∧ (es_v3 y v - es_v3 x v ≤ I 44 23 ∧ es_v3 x v - es_v3 y v ≤ I 44 23)) → s' = 0) → am_V (d + 1) Y_mo_follows (fun r I' => I' = I ∧ ((r = some (.inl 1) ∧ es_fo (I 44 23) x y) ∨ (r = some (.inl 0) ∧ ¬ es_fo (I 44 23) x y))) 67 [(0, .inr (.inr 44)), (1, .inl i), (2, .inl k), (3, .inl j), (4, .inl s'), (5, .inl v), (6, .inl (es_v3 y v - es_v3 x v)), (7, .inl 0)] [] I := by
        intro s' hv2 k1 k2
        refine loopu 4 0 s' hv2 (by omega) (by omega) (by omega) ?_
        by_cases c : s = 1 ∧ (es_v3 y v - es_v3 x v ≤ I 44 23 ∧ es_v3 x v - es_v3 y v ≤ I 44 23)
        · refine Or.inl ⟨k1 c, ?_⟩
          rcases hs with e | e
          · exact ⟨e.2, es_fv_0.2 c.2⟩
          · omega
        · refine Or.inr ⟨k2 c, fun z => ?_⟩
          have z2 := es_fv_0.1 z.2
          rcases hs with e | e
          · exact c ⟨e.1, z2⟩
          · exact e.2 z.1
      refine am_go 1 [] rfl trivial ?_
      repeat' (first
        | (refine am_gp 80 [67] rfl (by first | exact True.intro | (refine And.intro ?_ ?_ <;> decide) | exact Or.inl rfl | exact Or.inr rfl | (simp (decide := true) only [am_p, am_u_at, am_u_j, am_u_ne]; omega) | (simp (decide := true) only [am_p, and_true, true_and, true_or, or_true, am_u_at, am_u_j, am_u_ne]; omega) | (simp (decide := true) [am_p, am_u_at, am_u_j, am_u_ne]; omega)) ?_)
        | (show am_V _ _ _ _ _ _ _; simp only [Int.reduceToNat])
        | (refine am_bt rfl (by first | omega | (simp (decide := true) only [am_u_at, am_u_j, am_u_ne]; omega)) (by first | omega | (simp (decide := true) only [am_u_at, am_u_j, am_u_ne]; omega)) ?_)
        | (refine am_bf rfl (by first | omega | (simp (decide := true) only [am_u_at, am_u_j, am_u_ne]; omega)) (by first | omega | (simp (decide := true) only [am_u_at, am_u_j, am_u_ne]; omega)) ?_)
        | (refine am_br rfl (by first | omega | (simp (decide := true) only [am_u_at, am_u_j, am_u_ne]; omega)) (fun h => ?_) (fun h => ?_))
        | (refine am_cV (y' := Y_mo_pitchOf) rfl lk_mo_202 ok_mo_pitchOf rfl rfl rfl (c_mo_pitchOf _ _ _ _ _ (by first | omega | (simp (decide := true) only [am_u_at, am_u_j, am_u_ne]; omega))) ?_; rintro r I ⟨rfl, rfl⟩)
        | (refine am_rt rfl (by first | exact True.intro | (refine And.intro ?_ ?_ <;> decide) | exact Or.inl rfl | exact Or.inr rfl | (show _ ∨ _; omega)) ?_))
      all_goals first
        | (have ex' := ex (by omega); have ey' := ey (by omega); refine am_wk [8, 9, 10, 11] ?_; rw [ex', ey']; exact ent _ (by omega) (by omega) (by omega))
        | (refine ⟨rfl, ?_⟩; rw [show v = 3 by omega] at hs; rcases hs with e | e; exact Or.inl ⟨by rw [e.1], es_fw3.1 e.2⟩; exact Or.inr ⟨by rw [e.1], fun z => e.2 (es_fw3.2 z)⟩)
  repeat' (first
    | (refine am_gp 80 [6] rfl (by first | exact True.intro | (refine And.intro ?_ ?_ <;> decide) | exact Or.inl rfl | exact Or.inr rfl | (simp (decide := true) only [am_p, am_u_at, am_u_j, am_u_ne]; omega) | (simp (decide := true) only [am_p, and_true, true_and, true_or, or_true, am_u_at, am_u_j, am_u_ne]; omega) | (simp (decide := true) [am_p, am_u_at, am_u_j, am_u_ne]; omega)) ?_)
    | (show am_V _ _ _ _ _ _ _; simp only [Int.reduceToNat])
    | (refine am_bt rfl (by first | omega | (simp (decide := true) only [am_u_at, am_u_j, am_u_ne]; omega)) (by first | omega | (simp (decide := true) only [am_u_at, am_u_j, am_u_ne]; omega)) ?_)
    | (refine am_bf rfl (by first | omega | (simp (decide := true) only [am_u_at, am_u_j, am_u_ne]; omega)) (by first | omega | (simp (decide := true) only [am_u_at, am_u_j, am_u_ne]; omega)) ?_)
    | (refine am_br rfl (by first | omega | (simp (decide := true) only [am_u_at, am_u_j, am_u_ne]; omega)) (fun h => ?_) (fun h => ?_))
    | (refine am_rt rfl (by first | exact True.intro | (refine And.intro ?_ ?_ <;> decide) | exact Or.inl rfl | exact Or.inr rfl | (show _ ∨ _; omega)) ?_))
  exact loopv 5 0 1 (by omega) (by omega) (by omega) (Or.inl ⟨rfl, es_fw2_0⟩)
