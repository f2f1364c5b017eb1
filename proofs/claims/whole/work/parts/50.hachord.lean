theorem c_ha_pitchOf (d : Nat) (i k v : Int) (I : am_I) (h : 0 ≤ (i * 6 + k) * 3 + v ∧ (i * 6 + k) * 3 + v < 108) : am_C (d + 1) Y_ha_pitchOf [.inr (.inr 17), .inl i, .inl k, .inl v] I (fun r I' => I' = I ∧ r = some (.inl (I 21 ((i * 6 + k) * 3 + v).toNat))) := by
  refine am_enter ok_ha_pitchOf rfl ?_
  repeat' (first
    | (refine am_gp 80 [] rfl (by first | exact True.intro | (refine And.intro ?_ ?_ <;> decide) | exact Or.inl rfl | exact Or.inr rfl | (simp (decide := true) only [am_p, am_u_at, am_u_j, am_u_ne]; omega) | (simp (decide := true) only [am_p, and_true, true_and, true_or, or_true, am_u_at, am_u_j, am_u_ne]; omega) | (simp (decide := true) [am_p, am_u_at, am_u_j, am_u_ne]; omega)) ?_)
    | (show am_V _ _ _ _ _ _ _; simp only [Int.reduceToNat])
    | (refine am_bt rfl (by first | omega | (simp (decide := true) only [am_u_at, am_u_j, am_u_ne]; omega)) (by first | omega | (simp (decide := true) only [am_u_at, am_u_j, am_u_ne]; omega)) ?_)
    | (refine am_bf rfl (by first | omega | (simp (decide := true) only [am_u_at, am_u_j, am_u_ne]; omega)) (by first | omega | (simp (decide := true) only [am_u_at, am_u_j, am_u_ne]; omega)) ?_)
    | (refine am_br rfl (by first | omega | (simp (decide := true) only [am_u_at, am_u_j, am_u_ne]; omega)) (fun h => ?_) (fun h => ?_))
    | (refine am_cN (y' := Y_es_outside) rfl lk_ha_81 ok_es_outside rfl rfl (c_outside _ _ _ _ _ (by first | omega | (simp (decide := true) only [am_u_at, am_u_j, am_u_ne]; omega)) (by first | omega | (simp (decide := true) only [am_u_at, am_u_j, am_u_ne]; omega)) (by first | omega | (simp (decide := true) only [am_u_at, am_u_j, am_u_ne]; omega))) ?_; rintro r I ⟨rfl, (⟨rfl, h⟩ | ⟨rfl, h⟩)⟩ <;> (try (exfalso; omega)))
    | (refine am_rt rfl (by first | exact True.intro | (refine And.intro ?_ ?_ <;> decide) | exact Or.inl rfl | exact Or.inr rfl | (show _ ∨ _; omega)) ?_))
  exact ⟨rfl, rfl⟩
theorem c_parallel (d : Nat) (i k j u v : Int) (I : am_I) (x y : Int × Int × Int) (hi : 0 ≤ i ∧ i ≤ 4) (hk : 0 ≤ k ∧ k ≤ 5) (hj : 0 ≤ j ∧ j ≤ 5) (huv : 0 ≤ u ∧ u < v ∧ v ≤ 2) (hx : ∀ v : Int, 0 ≤ v → v ≤ 2 → I 21 ((i * 6 + k) * 3 + v).toNat = es_v3 x v) (hy : ∀ v : Int, 0 ≤ v → v ≤ 2 → I 21 (((i + 1) * 6 + j) * 3 + v).toNat = es_v3 y v) (ax : es_asc x) (ay : es_asc y) : am_C (d + 2) Y_ha_parallel [.inr (.inr 17), .inl i, .inl k, .inl j, .inl u, .inl v] I (fun r I' => I' = I ∧ ((r = some (.inl 1) ∧ es_pl (es_v3 x u) (es_v3 x v) (es_v3 y u) (es_v3 y v)) ∨ (r = some (.inl 0) ∧ ¬ es_pl (es_v3 x u) (es_v3 x v) (es_v3 y u) (es_v3 y v)))) := by
  refine am_enter ok_ha_parallel rfl ?_
  have e1 := hx u huv.1 (by omega)
  have e2 := hx v (by omega) huv.2.2
  have e3 := hy u huv.1 (by omega)
  have e4 := hy v (by omega) huv.2.2
  have l1 := es_v3_lt ax huv.1 huv.2.1 huv.2.2
  have l2 := es_v3_lt ay huv.1 huv.2.1 huv.2.2
  have g1 := es_v3_rng ax u
  have g2 := es_v3_rng ax v
  have g3 := es_v3_rng ay u
  have g4 := es_v3_rng ay v
  unfold es_pl
  clear hx hy
  repeat' (first
    | (refine am_gp 80 [] rfl (by first | exact True.intro | (refine And.intro ?_ ?_ <;> decide) | exact Or.inl rfl | exact Or.inr rfl | (simp (decide := true) only [am_p, am_u_at, am_u_j, am_u_ne]; omega) | (simp (decide := true) only [am_p, and_true, true_and, true_or, or_true, am_u_at, am_u_j, am_u_ne]; omega) | (simp (decide := true) [am_p, am_u_at, am_u_j, am_u_ne]; omega)) ?_)
    | (show am_V _ _ _ _ _ _ _; simp only [Int.reduceToNat])
    | (refine am_bt rfl (by first | omega | (simp (decide := true) only [am_u_at, am_u_j, am_u_ne]; omega)) (by first | omega | (simp (decide := true) only [am_u_at, am_u_j, am_u_ne]; omega)) ?_)
    | (refine am_bf rfl (by first | omega | (simp (decide := true) only [am_u_at, am_u_j, am_u_ne]; omega)) (by first | omega | (simp (decide := true) only [am_u_at, am_u_j, am_u_ne]; omega)) ?_)
    | (refine am_br rfl (by first | omega | (simp (decide := true) only [am_u_at, am_u_j, am_u_ne]; omega)) (fun h => ?_) (fun h => ?_))
    | (refine am_cV (y' := Y_ha_pitchOf) rfl lk_ha_69 ok_ha_pitchOf rfl rfl rfl (c_ha_pitchOf _ _ _ _ _ (by first | omega | (simp (decide := true) only [am_u_at, am_u_j, am_u_ne]; omega))) ?_; rintro r I ⟨rfl, rfl⟩)
    | (refine am_rt rfl (by first | exact True.intro | (refine And.intro ?_ ?_ <;> decide) | exact Or.inl rfl | exact Or.inr rfl | (show _ ∨ _; omega)) ?_))
  all_goals (refine ⟨rfl, ?_⟩)
  all_goals first
    | exact Or.inl ⟨rfl, by omega⟩
    | exact Or.inr ⟨rfl, by omega⟩
theorem c_mayFollow (d : Nat) (i k j : Int) (I : am_I) (x y : Int × Int × Int) (hi : 0 ≤ i ∧ i ≤ 4) (hk : 0 ≤ k ∧ k ≤ 5) (hj : 0 ≤ j ∧ j ≤ 5) (hx : ∀ v : Int, 0 ≤ v → v ≤ 2 → I 21 ((i * 6 + k) * 3 + v).toNat = es_v3 x v) (hy : ∀ v : Int, 0 ≤ v → v ≤ 2 → I 21 (((i + 1) * 6 + j) * 3 + v).toNat = es_v3 y v) (ax : es_asc x) (ay : es_asc y) (hm : 0 ≤ I 17 3 ∧ I 17 3 ≤ 12) : am_C (d + 3) Y_ha_mayFollow [.inr (.inr 17), .inl i, .inl k, .inl j] I (fun r I' => I' = I ∧ ((r = some (.inl 1) ∧ es_fo (I 17 3) x y) ∨ (r = some (.inl 0) ∧ ¬ es_fo (I 17 3) x y))) := by
  refine am_enter ok_ha_mayFollow rfl ?_
  have noV : ∀ v : Int, (v = 0 ∨ v = 1 ∨ v = 2) → ¬ es_fv (I 17 3) x y v v → ¬ es_fo (I 17 3) x y := by
    intro v hv h z
    have h3 := es_fw3.2 z
    unfold es_fw2 at h3
    rcases hv with rfl | rfl | rfl
    · exact h (h3.1 (by omega))
    · exact h (h3.2.1 (by omega))
    · exact h (h3.2.2 (by omega))
  have noU : ∀ v u : Int, 0 ≤ u → u < v → v ≤ 2 → es_pl (es_v3 x u) (es_v3 x v) (es_v3 y u) (es_v3 y v) → ¬ es_fo (I 17 3) x y := by
    intro v u h1 h2 h3 h4
    refine noV v (by omega) (fun z => ?_)
    unfold es_fv at z
    by_cases c : u = 0
    · rw [c] at h4
      exact z.2.1 (by omega) h4
    · rw [show u = 1 by omega] at h4
      exact z.2.2 (by omega) h4
  have loopv : ∀ (m : Nat) (v : Int), 0 ≤ v → v ≤ 3 → 3 - v < m → es_fw2 (I 17 3) x y v → am_V (d + 3) Y_ha_mayFollow (fun r I' => I' = I ∧ ((r = some (.inl 1) ∧ es_fo (I 17 3) x y) ∨ (r = some (.inl 0) ∧ ¬ es_fo (I 17 3) x y))) 3 [(0, .inr (.inr 17)), (1, .inl i), (2, .inl k), (3, .inl j), (4, .inl v)] [] I := by
    intro m
    induction m with
    | zero => intro v h1 h2 h3; omega
    | succ m ih =>
      intro v h1 h2 h3 hs
      have rx := es_v3_rng ax v
      have ry := es_v3_rng ay v
      have ex : v ≤ 2 → I 21 ((i * 6 + k) * 3 + v).toNat = es_v3 x v := fun h => hx v h1 h
      have ey : v ≤ 2 → I 21 (((i + 1) * 6 + j) * 3 + v).toNat = es_v3 y v := fun h => hy v h1 h
      have loopu : ∀ (n : Nat) (u : Int), v ≤ 2 → 0 ≤ u → u ≤ v → v - u < n → es_fv (I 17 3) x y v u → am_V (d + 3) Y_ha_mayFollow (fun r I' => I' = I ∧ ((r = some (.inl 1) ∧ es_fo (I 17 3) x y) ∨ (r = some (.inl 0) ∧ ¬ es_fo (I 17 3) x y))) 43 [(0, .inr (.inr 17)), (1, .inl i), (2, .inl k), (3, .inl j), (4, .inl v), (5, .inl u)] [] I := by
        intro n
        induction n with
        | zero => intro u g0 g1 g2 g3; omega
        | succ n ihu =>
          intro u g0 g1 g2 g3 gs
          refine am_go 1 [] rfl trivial ?_
          repeat' (first
            | (refine am_gp 80 [3, 43] rfl (by first | exact True.intro | (refine And.intro ?_ ?_ <;> decide) | exact Or.inl rfl | exact Or.inr rfl | (simp (decide := true) only [am_p, am_u_at, am_u_j, am_u_ne]; omega) | (simp (decide := true) only [am_p, and_true, true_and, true_or, or_true, am_u_at, am_u_j, am_u_ne]; omega) | (simp (decide := true) [am_p, am_u_at, am_u_j, am_u_ne]; omega)) ?_)
            | (show am_V _ _ _ _ _ _ _; simp only [Int.reduceToNat])
            | (refine am_bt rfl (by first | omega | (simp (decide := true) only [am_u_at, am_u_j, am_u_ne]; omega)) (by first | omega | (simp (decide := true) only [am_u_at, am_u_j, am_u_ne]; omega)) ?_)
            | (refine am_bf rfl (by first | omega | (simp (decide := true) only [am_u_at, am_u_j, am_u_ne]; omega)) (by first | omega | (simp (decide := true) only [am_u_at, am_u_j, am_u_ne]; omega)) ?_)
            | (refine am_br rfl (by first | omega | (simp (decide := true) only [am_u_at, am_u_j, am_u_ne]; omega)) (fun h => ?_) (fun h => ?_))
            | (refine am_cV (y' := Y_ha_parallel) rfl lk_ha_77 ok_ha_parallel rfl rfl rfl (c_parallel _ _ _ _ _ _ _ x y (by first | omega | (simp (decide := true) only [am_u_at, am_u_j, am_u_ne]; omega)) (by first | omega | (simp (decide := true) only [am_u_at, am_u_j, am_u_ne]; omega)) (by first | omega | (simp (decide := true) only [am_u_at, am_u_j, am_u_ne]; omega)) (by first | omega | (simp (decide := true) only [am_u_at, am_u_j, am_u_ne]; omega)) (by assumption) (by assumption) ax ay) ?_; rintro r I ⟨rfl, (⟨rfl, hpl⟩ | ⟨rfl, hpl⟩)⟩ <;> (try (exfalso; omega)))
            | (refine am_rt rfl (by first | exact True.intro | (refine And.intro ?_ ?_ <;> decide) | exact Or.inl rfl | exact Or.inr rfl | (show _ ∨ _; omega)) ?_))
          · refine am_wk [5] ?_
            rw [show u = v by omega] at gs
            exact ih (v + 1) (by omega) (by omega) (by omega) ((es_fw2_s (by omega)).2 ⟨hs, gs⟩)
          · exact ⟨rfl, Or.inr ⟨rfl, noU v u g1 (by omega) g0 hpl⟩⟩
          · exact ihu (u + 1) g0 (by omega) (by omega) (by omega) ((es_fv_s (by omega)).2 ⟨gs, hpl⟩)
      refine am_go 1 [] rfl trivial ?_
      repeat' (first
        | (refine am_gp 80 [43] rfl (by first | exact True.intro | (refine And.intro ?_ ?_ <;> decide) | exact Or.inl rfl | exact Or.inr rfl | (simp (decide := true) only [am_p, am_u_at, am_u_j, am_u_ne]; omega) | (simp (decide := true) only [am_p, and_true, true_and, true_or, or_true, am_u_at, am_u_j, am_u_ne]; omega) | (simp (decide := true) [am_p, am_u_at, am_u_j, am_u_ne]; omega)) ?_)
        | (show am_V _ _ _ _ _ _ _; simp only [Int.reduceToNat])
        | (refine am_bt rfl (by first | omega | (simp (decide := true) only [am_u_at, am_u_j, am_u_ne]; omega)) (by first | omega | (simp (decide := true) only [am_u_at, am_u_j, am_u_ne]; omega)) ?_)
        | (refine am_bf rfl (by first | omega | (simp (decide := true) only [am_u_at, am_u_j, am_u_ne]; omega)) (by first | omega | (simp (decide := true) only [am_u_at, am_u_j, am_u_ne]; omega)) ?_)
        | (refine am_br rfl (by first | omega | (simp (decide := true) only [am_u_at, am_u_j, am_u_ne]; omega)) (fun h => ?_) (fun h => ?_))
        | (refine am_cV (y' := Y_ha_pitchOf) rfl lk_ha_69 ok_ha_pitchOf rfl rfl rfl (c_ha_pitchOf _ _ _ _ _ (by first | omega | (simp (decide := true) only [am_u_at, am_u_j, am_u_ne]; omega))) ?_; rintro r I ⟨rfl, rfl⟩)
        | (refine am_absi rfl mk_ha_73 rfl (by first | omega | (simp (decide := true) only [am_u_at, am_u_j, am_u_ne]; omega)) ?_)
        | (refine am_rt rfl (by first | exact True.intro | (refine And.intro ?_ ?_ <;> decide) | exact Or.inl rfl | exact Or.inr rfl | (show _ ∨ _; omega)) ?_))
      · refine ⟨rfl, Or.inl ⟨rfl, ?_⟩⟩
        rw [show v = 3 by omega] at hs
        exact es_fw3.1 hs
      · exact loopu 4 0 (by omega) (by omega) (by omega) (by omega) (es_fv_0.2 (by unfold es_ab; omega))
      · refine ⟨rfl, Or.inr ⟨rfl, noV v (by omega) (fun z => ?_)⟩⟩
        have z1 := z.1
        unfold es_ab at z1
        omega
  repeat' (first
    | (refine am_gp 80 [3] rfl (by first | exact True.intro | (refine And.intro ?_ ?_ <;> decide) | exact Or.inl rfl | exact Or.inr rfl | (simp (decide := true) only [am_p, am_u_at, am_u_j, am_u_ne]; omega) | (simp (decide := true) only [am_p, and_true, true_and, true_or, or_true, am_u_at, am_u_j, am_u_ne]; omega) | (simp (decide := true) [am_p, am_u_at, am_u_j, am_u_ne]; omega)) ?_)
    | (show am_V _ _ _ _ _ _ _; simp only [Int.reduceToNat])
    | (refine am_bt rfl (by first | omega | (simp (decide := true) only [am_u_at, am_u_j, am_u_ne]; omega)) (by first | omega | (simp (decide := true) only [am_u_at, am_u_j, am_u_ne]; omega)) ?_)
    | (refine am_bf rfl (by first | omega | (simp (decide := true) only [am_u_at, am_u_j, am_u_ne]; omega)) (by first | omega | (simp (decide := true) only [am_u_at, am_u_j, am_u_ne]; omega)) ?_)
    | (refine am_br rfl (by first | omega | (simp (decide := true) only [am_u_at, am_u_j, am_u_ne]; omega)) (fun h => ?_) (fun h => ?_))
    | (refine am_rt rfl (by first | exact True.intro | (refine And.intro ?_ ?_ <;> decide) | exact Or.inl rfl | exact Or.inr rfl | (show _ ∨ _; omega)) ?_))
  exact loopv 5 0 (by omega) (by omega) (by omega) es_fw2_0
theorem es_l3_e {m a b c0 : Int} : ∀ n : Nat, (∀ k : Nat, k < n → ¬ (a < b ∧ b < c0 + (k : Int) ∧ es_set a b (c0 + (k : Int)) = m)) → es_l3 m a b c0 n = []
  | 0, _ => rfl
  | n + 1, h => by
    rw [es_l3_s, es_l3_e n (fun k hk => h k (by omega)), if_neg (h n (by omega))]
    rfl
theorem es_l2_e {m a b0 c0 : Int} : ∀ n : Nat, (∀ k : Nat, k < n → es_l3 m a (b0 + (k : Int)) c0 12 = []) → es_l2 m a b0 c0 n = []
  | 0, _ => rfl
  | n + 1, h => by
    show es_l2 m a b0 c0 n ++ es_l3 m a (b0 + (n : Int)) c0 12 = []
    rw [es_l2_e n (fun k hk => h k (by omega)), h n (by omega)]
    rfl
theorem c_ha_findAbove (d : Nat) (i a : Int) (I0 : am_I) (L0 : List (Int × Int × Int)) (hi : 0 ≤ i ∧ i ≤ 5) (ha : 0 ≤ a ∧ a ≤ 200) (hl : (0 ≤ I0 19 1 ∧ I0 19 1 ≤ 116) ∧ (0 ≤ I0 19 2 ∧ I0 19 2 ≤ 116)) (hm : es_hb (I0 18 i.toNat)) (hlen : (L0 ++ es_l2 (I0 18 i.toNat) a (I0 19 1) (I0 19 2) 12).length ≤ 6) (h0 : es_ti (I0 20 i.toNat) (I0 21) (18 * i) L0) : am_C (d + 1) Y_ha_findAbove [.inr (.inr 17), .inl i, .inl a] I0 (fun r I' => r = none ∧ am_fr I0 I' [20, 21] ∧ (∀ j : Nat, j ≠ i.toNat → I' 20 j = I0 20 j) ∧ (∀ j : Nat, ¬ (18 * i ≤ j ∧ (j : Int) < 18 * i + 18) → I' 21 j = I0 21 j) ∧ es_ti (I' 20 i.toNat) (I' 21) (18 * i) (L0 ++ es_l2 (I0 18 i.toNat) a (I0 19 1) (I0 19 2) 12)) := by
  refine am_enter ok_ha_findAbove rfl ?_
  obtain ⟨hl1, hl2⟩ := hl
  obtain ⟨hm1, hm2⟩ := id hm
  rw [List.length_append] at hlen
  have loopb : ∀ (m2 nb : Nat) (I : am_I), nb ≤ 12 → 12 - nb < m2 → a < I0 19 1 + (nb : Int) → am_fr I0 I [20, 21] → (∀ j : Nat, j ≠ i.toNat → I 20 j = I0 20 j) → (∀ j : Nat, ¬ (18 * i ≤ j ∧ (j : Int) < 18 * i + 18) → I 21 j = I0 21 j) → es_ti (I 20 i.toNat) (I 21) (18 * i) (L0 ++ es_l2 (I0 18 i.toNat) a (I0 19 1) (I0 19 2) nb) → am_V (d + 1) Y_ha_findAbove (fun r I' => r = none ∧ am_fr I0 I' [20, 21] ∧ (∀ j : Nat, j ≠ i.toNat → I' 20 j = I0 20 j) ∧ (∀ j : Nat, ¬ (18 * i ≤ j ∧ (j : Int) < 18 * i + 18) → I' 21 j = I0 21 j) ∧ es_ti (I' 20 i.toNat) (I' 21) (18 * i) (L0 ++ es_l2 (I0 18 i.toNat) a (I0 19 1) (I0 19 2) 12)) 13 [(0, .inr (.inr 17)), (1, .inl i), (2, .inl a), (3, .inl (I0 19 1 + nb))] [] I := by
    intro m2
    induction m2 with
    | zero => intro nb I g1 g2; omega
    | succ m2 ihb =>
      intro nb I g1 g2 gab hf h20 h21 hti
      have nextb : ∀ I : am_I, nb < 12 → am_fr I0 I [20, 21] → (∀ j : Nat, j ≠ i.toNat → I 20 j = I0 20 j) → (∀ j : Nat, ¬ (18 * i ≤ j ∧ (j : Int) < 18 * i + 18) → I 21 j = I0 21 j) → es_ti (I 20 i.toNat) (I 21) (18 * i) (L0 ++ es_l2 (I0 18 i.toNat) a (I0 19 1) (I0 19 2) nb ++ es_l3 (I0 18 i.toNat) a (I0 19 1 + (nb : Int)) (I0 19 2) 12) → am_V (d + 1) Y_ha_findAbove (fun r I' => r = none ∧ am_fr I0 I' [20, 21] ∧ (∀ j : Nat, j ≠ i.toNat → I' 20 j = I0 20 j) ∧ (∀ j : Nat, ¬ (18 * i ≤ j ∧ (j : Int) < 18 * i + 18) → I' 21 j = I0 21 j) ∧ es_ti (I' 20 i.toNat) (I' 21) (18 * i) (L0 ++ es_l2 (I0 18 i.toNat) a (I0 19 1) (I0 19 2) 12)) 13 [(0, .inr (.inr 17)), (1, .inl i), (2, .inl a), (3, .inl (I0 19 1 + (nb : Int) + 1))] [] I := by
        intro I hnb hf h20 h21 hti
        rw [List.append_assoc] at hti
        have h9 := ihb (nb + 1) I (by omega) (by omega) (by omega) hf h20 h21 hti
        rw [show I0 19 1 + ((nb + 1 : Nat) : Int) = I0 19 1 + (nb : Int) + 1 by omega] at h9
        exact h9
      have loopc : ∀ (m3 nc : Nat) (I : am_I), nb < 12 → nc ≤ 12 → 12 - nc < m3 → I0 19 1 + (nb : Int) < I0 19 2 + (nc : Int) → am_fr I0 I [20, 21] → (∀ j : Nat, j ≠ i.toNat → I 20 j = I0 20 j) → (∀ j : Nat, ¬ (18 * i ≤ j ∧ (j : Int) < 18 * i + 18) → I 21 j = I0 21 j) → es_ti (I 20 i.toNat) (I 21) (18 * i) (L0 ++ es_l2 (I0 18 i.toNat) a (I0 19 1) (I0 19 2) nb ++ es_l3 (I0 18 i.toNat) a (I0 19 1 + (nb : Int)) (I0 19 2) nc) → am_V (d + 1) Y_ha_findAbove (fun r I' => r = none ∧ am_fr I0 I' [20, 21] ∧ (∀ j : Nat, j ≠ i.toNat → I' 20 j = I0 20 j) ∧ (∀ j : Nat, ¬ (18 * i ≤ j ∧ (j : Int) < 18 * i + 18) → I' 21 j = I0 21 j) ∧ es_ti (I' 20 i.toNat) (I' 21) (18 * i) (L0 ++ es_l2 (I0 18 i.toNat) a (I0 19 1) (I0 19 2) 12)) 56 [(0, .inr (.inr 17)), (1, .inl i), (2, .inl a), (3, .inl (I0 19 1 + nb)), (4, .inl (I0 19 2 + nc))] [] I := by
        intro m3
        induction m3 with
        | zero => intro nc I f0 f1 f2; omega
        | succ m3 ihc =>
          intro nc I f0 f1 f2 fbc hf h20 h21 hti
          have e18 : I 18 = I0 18 := hf 18 rfl
          have e19 : I 19 = I0 19 := hf 19 rfl
          have d2 : I 19 2 = I0 19 2 := congrFun e19 2
          have dm : I 18 i.toNat = I0 18 i.toNat := congrFun e18 _
          have hcnt := hti.1
          have hl3 : L0 ++ es_l2 (I0 18 i.toNat) a (I0 19 1) (I0 19 2) nb ++ es_l3 (I0 18 i.toNat) a (I0 19 1 + (nb : Int)) (I0 19 2) (nc + 1) = L0 ++ es_l2 (I0 18 i.toNat) a (I0 19 1) (I0 19 2) nb ++ es_l3 (I0 18 i.toNat) a (I0 19 1 + (nb : Int)) (I0 19 2) nc ++ (if a < I0 19 1 + (nb : Int) ∧ I0 19 1 + (nb : Int) < I0 19 2 + (nc : Int) ∧ es_set a (I0 19 1 + (nb : Int)) (I0 19 2 + (nc : Int)) = I0 18 i.toNat then [(a, I0 19 1 + (nb : Int), I0 19 2 + (nc : Int))] else []) := by
            rw [es_l3_s, List.append_assoc, List.append_assoc, List.append_assoc]
          have hbd : ∀ c : Nat, c ≤ 12 → (L0 ++ es_l2 (I0 18 i.toNat) a (I0 19 1) (I0 19 2) nb ++ es_l3 (I0 18 i.toNat) a (I0 19 1 + (nb : Int)) (I0 19 2) c).length ≤ 6 := by
            intro c hc
            have q2 := es_l2_mono (m := I0 18 i.toNat) (a := a) (b0 := I0 19 1) (c0 := I0 19 2) (n := nb + 1) (12 - (nb + 1))
            rw [show nb + 1 + (12 - (nb + 1)) = 12 by omega] at q2
            have q3 := es_l3_mono (m := I0 18 i.toNat) (a := a) (b := I0 19 1 + (nb : Int)) (c0 := I0 19 2) (n := c) (12 - c)
            rw [show c + (12 - c) = 12 by omega] at q3
            have q5 : (es_l2 (I0 18 i.toNat) a (I0 19 1) (I0 19 2) (nb + 1)).length = (es_l2 (I0 18 i.toNat) a (I0 19 1) (I0 19 2) nb).length + (es_l3 (I0 18 i.toNat) a (I0 19 1 + (nb : Int)) (I0 19 2) 12).length := List.length_append
            rw [List.length_append, List.length_append]
            omega
          have hb0 := hbd nc f1
          have skip : nc < 12 → ¬ (a < I0 19 1 + (nb : Int) ∧ I0 19 1 + (nb : Int) < I0 19 2 + (nc : Int) ∧ es_set a (I0 19 1 + (nb : Int)) (I0 19 2 + (nc : Int)) = I0 18 i.toNat) → am_V (d + 1) Y_ha_findAbove (fun r I' => r = none ∧ am_fr I0 I' [20, 21] ∧ (∀ j : Nat, j ≠ i.toNat → I' 20 j = I0 20 j) ∧ (∀ j : Nat, ¬ (18 * i ≤ j ∧ (j : Int) < 18 * i + 18) → I' 21 j = I0 21 j) ∧ es_ti (I' 20 i.toNat) (I' 21) (18 * i) (L0 ++ es_l2 (I0 18 i.toNat) a (I0 19 1) (I0 19 2) 12)) 56 [(0, .inr (.inr 17)), (1, .inl i), (2, .inl a), (3, .inl (I0 19 1 + nb)), (4, .inl (I0 19 2 + (nc : Int) + 1))] [] I := by
            intro h5 h6
            have h9 := ihc (nc + 1) I f0 (by omega) (by omega) (by omega) hf h20 h21 (by rw [hl3, if_neg h6, List.append_nil]; exact hti)
            rw [show I0 19 2 + ((nc + 1 : Nat) : Int) = I0 19 2 + (nc : Int) + 1 by omega] at h9
            exact h9
          have hrs := am_or_rng (am_or (am_shl 1 (a % 12)) (am_shl 1 ((I0 19 1 + (nb : Int)) % 12))) (am_shl 1 ((I0 19 2 + (nc : Int)) % 12))
          refine am_go 1 [] rfl trivial ?_
          repeat' (first
            | (refine am_gp 80 [13, 56, 104] rfl (by first | exact True.intro | (refine And.intro ?_ ?_ <;> decide) | exact Or.inl rfl | exact Or.inr rfl | (simp (decide := true) only [am_p, am_u_at, am_u_j, am_u_ne]; omega) | (simp (decide := true) only [am_p, and_true, true_and, true_or, or_true, am_u_at, am_u_j, am_u_ne]; omega) | (simp (decide := true) [am_p, am_u_at, am_u_j, am_u_ne]; omega)) ?_)
            | (show am_V _ _ _ _ _ _ _; simp only [Int.reduceToNat])
            | (refine am_bt rfl (by first | omega | (simp (decide := true) only [am_u_at, am_u_j, am_u_ne]; omega)) (by first | omega | (simp (decide := true) only [am_u_at, am_u_j, am_u_ne]; omega)) ?_)
            | (refine am_bf rfl (by first | omega | (simp (decide := true) only [am_u_at, am_u_j, am_u_ne]; omega)) (by first | omega | (simp (decide := true) only [am_u_at, am_u_j, am_u_ne]; omega)) ?_)
            | (refine am_br rfl (by first | omega | (simp (decide := true) only [am_u_at, am_u_j, am_u_ne]; omega)) (fun h => ?_) (fun h => ?_))
            | (refine am_rt rfl (by first | exact True.intro | (refine And.intro ?_ ?_ <;> decide) | exact Or.inl rfl | exact Or.inr rfl | (show _ ∨ _; omega)) ?_))
          · refine am_wk [4, 5, 6] ?_
            rw [show nc = 12 by omega] at hti
            exact nextb I f0 hf h20 h21 hti
          · rw [dm] at h
            exact am_wk [5, 6] (skip (by omega) (fun z => h z.2.2))
          · rw [dm] at h
            have hgood : a < I0 19 1 + (nb : Int) ∧ I0 19 1 + (nb : Int) < I0 19 2 + (nc : Int) ∧ es_set a (I0 19 1 + (nb : Int)) (I0 19 2 + (nc : Int)) = I0 18 i.toNat := ⟨gab, fbc, Classical.byContradiction (fun z => h z)⟩
            have hb1 := hbd (nc + 1) (by omega)
            rw [hl3, if_pos hgood, List.length_append] at hb1
            have hb2 : (L0 ++ es_l2 (I0 18 i.toNat) a (I0 19 1) (I0 19 2) nb ++ es_l3 (I0 18 i.toNat) a (I0 19 1 + (nb : Int)) (I0 19 2) nc).length + 1 ≤ 6 := hb1
            have hpush := es_ti_push (a := a) (b := I0 19 1 + (nb : Int)) (c := I0 19 2 + (nc : Int)) (show 0 ≤ 18 * i by omega) hti
            repeat' (first
              | (refine am_gp 80 [56] rfl (by first | exact True.intro | (refine And.intro ?_ ?_ <;> decide) | exact Or.inl rfl | exact Or.inr rfl | (simp (decide := true) only [am_p, am_u_at, am_u_j, am_u_ne]; omega) | (simp (decide := true) only [am_p, and_true, true_and, true_or, or_true, am_u_at, am_u_j, am_u_ne]; omega) | (simp (decide := true) [am_p, am_u_at, am_u_j, am_u_ne]; omega)) ?_)
              | (show am_V _ _ _ _ _ _ _; simp only [Int.reduceToNat])
              | (refine am_bt rfl (by first | omega | (simp (decide := true) only [am_u_at, am_u_j, am_u_ne]; omega)) (by first | omega | (simp (decide := true) only [am_u_at, am_u_j, am_u_ne]; omega)) ?_)
              | (refine am_bf rfl (by first | omega | (simp (decide := true) only [am_u_at, am_u_j, am_u_ne]; omega)) (by first | omega | (simp (decide := true) only [am_u_at, am_u_j, am_u_ne]; omega)) ?_)
              | (refine am_br rfl (by first | omega | (simp (decide := true) only [am_u_at, am_u_j, am_u_ne]; omega)) (fun h => ?_) (fun h => ?_))
              | (refine am_rt rfl (by first | exact True.intro | (refine And.intro ?_ ?_ <;> decide) | exact Or.inl rfl | exact Or.inr rfl | (show _ ∨ _; omega)) ?_))
            refine am_wk [5, 6] ?_
            have x0 : (i * 6 + I 20 i.toNat) * 3 = 18 * i + 3 * I 20 i.toNat := by omega
            rw [x0]
            have h9 := ihc (nc + 1) _ f0 (by omega) (by omega) (by omega) ((((hf.u (k := 21) (18 * i + 3 * I 20 i.toNat).toNat a rfl).u (k := 21) (18 * i + 3 * I 20 i.toNat + 1).toNat (I0 19 1 + (nb : Int)) rfl).u (k := 21) (18 * i + 3 * I 20 i.toNat + 2).toNat (I0 19 2 + (nc : Int)) rfl).u (k := 20) i.toNat (I 20 i.toNat + 1) rfl) ?_ ?_ ?_
            · rw [show I0 19 2 + ((nc + 1 : Nat) : Int) = I0 19 2 + (nc : Int) + 1 by omega] at h9
              exact h9
            · intro j hj
              rw [am_u_eq, am_up_ne hj, am_u_ne (by decide), am_u_ne (by decide), am_u_ne (by decide)]
              exact h20 j hj
            · intro j hj
              rw [am_u_ne (by decide), am_u_eq, am_u_eq, am_u_eq, am_up_ne (by omega), am_up_ne (by omega), am_up_ne (by omega)]
              exact h21 j hj
            · rw [hl3, if_pos hgood, am_u_at, am_u_ne (show (21 : Nat) ≠ 20 by decide), am_u_eq, am_u_eq, am_u_eq]
              exact hpush
      have e18 : I 18 = I0 18 := hf 18 rfl
      have e19 : I 19 = I0 19 := hf 19 rfl
      have d1 : I 19 1 = I0 19 1 := congrFun e19 1
      have d2 : I 19 2 = I0 19 2 := congrFun e19 2
      have dm : I 18 i.toNat = I0 18 i.toNat := congrFun e18 _
      refine am_go 1 [] rfl trivial ?_
      repeat' (first
        | (refine am_gp 80 [13, 56] rfl (by first | exact True.intro | (refine And.intro ?_ ?_ <;> decide) | exact Or.inl rfl | exact Or.inr rfl | (simp (decide := true) only [am_p, am_u_at, am_u_j, am_u_ne]; omega) | (simp (decide := true) only [am_p, and_true, true_and, true_or, or_true, am_u_at, am_u_j, am_u_ne]; omega) | (simp (decide := true) [am_p, am_u_at, am_u_j, am_u_ne]; omega)) ?_)
        | (show am_V _ _ _ _ _ _ _; simp only [Int.reduceToNat])
        | (refine am_bt rfl (by first | omega | (simp (decide := true) only [am_u_at, am_u_j, am_u_ne]; omega)) (by first | omega | (simp (decide := true) only [am_u_at, am_u_j, am_u_ne]; omega)) ?_)
        | (refine am_bf rfl (by first | omega | (simp (decide := true) only [am_u_at, am_u_j, am_u_ne]; omega)) (by first | omega | (simp (decide := true) only [am_u_at, am_u_j, am_u_ne]; omega)) ?_)
        | (refine am_br rfl (by first | omega | (simp (decide := true) only [am_u_at, am_u_j, am_u_ne]; omega)) (fun h => ?_) (fun h => ?_))
        | (refine am_cN (y' := Y_es_hasClass) rfl lk_ha_47 ok_es_hasClass rfl rfl (c_hasClass _ _ _ _ (by first | omega | (simp (decide := true) only [am_u_at, am_u_j, am_u_ne]; omega))) ?_; rintro r I ⟨rfl, (⟨rfl, hbi⟩ | ⟨rfl, hbi⟩)⟩ <;> (try (exfalso; omega)))
        | (refine am_maxi rfl mk_ha_55 rfl (by first | omega | (simp (decide := true) only [am_u_at, am_u_j, am_u_ne]; omega)) ?_)
        | (refine am_rt rfl (by first | exact True.intro | (refine And.intro ?_ ?_ <;> decide) | exact Or.inl rfl | exact Or.inr rfl | (show _ ∨ _; omega)) ?_))
      · rw [show nb = 12 by omega] at hti
        exact ⟨rfl, hf, h20, h21, hti⟩
      · have hst : ∀ k : Nat, (k : Int) < max (I 19 2) (I0 19 1 + (nb : Int) + 1) - I0 19 2 → ¬ (a < I0 19 1 + (nb : Int) ∧ I0 19 1 + (nb : Int) < I0 19 2 + (k : Int) ∧ es_set a (I0 19 1 + (nb : Int)) (I0 19 2 + (k : Int)) = I0 18 i.toNat) := by
          intro k hk z
          omega
        by_cases c : max (I 19 2) (I0 19 1 + (nb : Int) + 1) ≤ I0 19 2 + 12
        · have h9 := loopc 14 (max (I 19 2) (I0 19 1 + (nb : Int) + 1) - I0 19 2).toNat I (by omega) (by omega) (by omega) (by omega) hf h20 h21 (by rw [es_l3_e _ (fun k hk => hst k (by omega)), List.append_nil]; exact hti)
          rw [show I0 19 2 + ((max (I 19 2) (I0 19 1 + (nb : Int) + 1) - I0 19 2).toNat : Int) = max (I 19 2) (I0 19 1 + (nb : Int) + 1) by omega] at h9
          exact h9
        · refine am_go 1 [] rfl trivial ?_
          repeat' (first
            | (refine am_gp 80 [13] rfl (by first | exact True.intro | (refine And.intro ?_ ?_ <;> decide) | exact Or.inl rfl | exact Or.inr rfl | (simp (decide := true) only [am_p, am_u_at, am_u_j, am_u_ne]; omega) | (simp (decide := true) only [am_p, and_true, true_and, true_or, or_true, am_u_at, am_u_j, am_u_ne]; omega) | (simp (decide := true) [am_p, am_u_at, am_u_j, am_u_ne]; omega)) ?_)
            | (show am_V _ _ _ _ _ _ _; simp only [Int.reduceToNat])
            | (refine am_bt rfl (by first | omega | (simp (decide := true) only [am_u_at, am_u_j, am_u_ne]; omega)) (by first | omega | (simp (decide := true) only [am_u_at, am_u_j, am_u_ne]; omega)) ?_)
            | (refine am_bf rfl (by first | omega | (simp (decide := true) only [am_u_at, am_u_j, am_u_ne]; omega)) (by first | omega | (simp (decide := true) only [am_u_at, am_u_j, am_u_ne]; omega)) ?_)
            | (refine am_br rfl (by first | omega | (simp (decide := true) only [am_u_at, am_u_j, am_u_ne]; omega)) (fun h => ?_) (fun h => ?_))
            | (refine am_rt rfl (by first | exact True.intro | (refine And.intro ?_ ?_ <;> decide) | exact Or.inl rfl | exact Or.inr rfl | (show _ ∨ _; omega)) ?_))
          refine am_wk [4, 5, 6] ?_
          exact nextb I (by omega) hf h20 h21 (by rw [es_l3_e 12 (fun k hk => hst k (by omega)), List.append_nil]; exact hti)
      · refine am_wk [4, 5, 6] ?_
        rw [dm] at hbi
        exact nextb I (by omega) hf h20 h21 (by
          rw [es_l3_e 12 (fun k hk z => ?_), List.append_nil]
          · exact hti
          · have := (es_setb (by omega) (by omega) (by omega) z.2.2).2
            omega)
  repeat' (first
    | (refine am_gp 80 [13] rfl (by first | exact True.intro | (refine And.intro ?_ ?_ <;> decide) | exact Or.inl rfl | exact Or.inr rfl | (simp (decide := true) only [am_p, am_u_at, am_u_j, am_u_ne]; omega) | (simp (decide := true) only [am_p, and_true, true_and, true_or, or_true, am_u_at, am_u_j, am_u_ne]; omega) | (simp (decide := true) [am_p, am_u_at, am_u_j, am_u_ne]; omega)) ?_)
    | (show am_V _ _ _ _ _ _ _; simp only [Int.reduceToNat])
    | (refine am_bt rfl (by first | omega | (simp (decide := true) only [am_u_at, am_u_j, am_u_ne]; omega)) (by first | omega | (simp (decide := true) only [am_u_at, am_u_j, am_u_ne]; omega)) ?_)
    | (refine am_bf rfl (by first | omega | (simp (decide := true) only [am_u_at, am_u_j, am_u_ne]; omega)) (by first | omega | (simp (decide := true) only [am_u_at, am_u_j, am_u_ne]; omega)) ?_)
    | (refine am_br rfl (by first | omega | (simp (decide := true) only [am_u_at, am_u_j, am_u_ne]; omega)) (fun h => ?_) (fun h => ?_))
    | (refine am_maxi rfl mk_ha_55 rfl (by first | omega | (simp (decide := true) only [am_u_at, am_u_j, am_u_ne]; omega)) ?_)
    | (refine am_rt rfl (by first | exact True.intro | (refine And.intro ?_ ?_ <;> decide) | exact Or.inl rfl | exact Or.inr rfl | (show _ ∨ _; omega)) ?_))
  by_cases c : max (I0 19 1) (a + 1) ≤ I0 19 1 + 12
  · have h9 := loopb 14 (max (I0 19 1) (a + 1) - I0 19 1).toNat I0 (by omega) (by omega) (by omega) am_fr.rf (fun j _ => rfl) (fun j _ => rfl) (by
      rw [es_l2_e _ (fun k hk => es_l3_e 12 (fun k2 hk2 z => by omega)), List.append_nil]
      exact h0)
    rw [show I0 19 1 + ((max (I0 19 1) (a + 1) - I0 19 1).toNat : Int) = max (I0 19 1) (a + 1) by omega] at h9
    exact h9
  · refine am_go 1 [] rfl trivial ?_
    repeat' (first
      | (refine am_gp 80 [] rfl (by first | exact True.intro | (refine And.intro ?_ ?_ <;> decide) | exact Or.inl rfl | exact Or.inr rfl | (simp (decide := true) only [am_p, am_u_at, am_u_j, am_u_ne]; omega) | (simp (decide := true) only [am_p, and_true, true_and, true_or, or_true, am_u_at, am_u_j, am_u_ne]; omega) | (simp (decide := true) [am_p, am_u_at, am_u_j, am_u_ne]; omega)) ?_)
      | (show am_V _ _ _ _ _ _ _; simp only [Int.reduceToNat])
      | (refine am_bt rfl (by first | omega | (simp (decide := true) only [am_u_at, am_u_j, am_u_ne]; omega)) (by first | omega | (simp (decide := true) only [am_u_at, am_u_j, am_u_ne]; omega)) ?_)
      | (refine am_bf rfl (by first | omega | (simp (decide := true) only [am_u_at, am_u_j, am_u_ne]; omega)) (by first | omega | (simp (decide := true) only [am_u_at, am_u_j, am_u_ne]; omega)) ?_)
      | (refine am_br rfl (by first | omega | (simp (decide := true) only [am_u_at, am_u_j, am_u_ne]; omega)) (fun h => ?_) (fun h => ?_))
      | (refine am_rt rfl (by first | exact True.intro | (refine And.intro ?_ ?_ <;> decide) | exact Or.inl rfl | exact Or.inr rfl | (show _ ∨ _; omega)) ?_))
    refine ⟨rfl, am_fr.rf, fun j _ => rfl, fun j _ => rfl, ?_⟩
    rw [es_l2_e _ (fun k hk => es_l3_e 12 (fun k2 hk2 z => by omega)), List.append_nil]
    exact h0
