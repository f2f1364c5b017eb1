def es_rb (I : am_I) : Prop := (0 ≤ I 7 1 ∧ I 7 1 ≤ I 7 2 ∧ I 7 2 ≤ 127 ∧ I 7 2 - I 7 1 ≤ 36) ∧ (1 ≤ I 7 3 ∧ I 7 3 ≤ 16) ∧ (1 ≤ I 7 4 ∧ I 7 4 ≤ 13) ∧ (0 ≤ I 7 5 ∧ I 7 5 ≤ 15)
theorem c_ct_byStep (d : Nat) (p q t s : Int) (I : am_I) (hr : es_rb I) (hp : 0 ≤ p ∧ p < 15) (hq : I 7 1 ≤ q ∧ q ≤ I 7 2) (ht : 0 ≤ t ∧ t ≤ 17) (hs : -1000 ≤ s ∧ s ≤ 1000) : am_C (d + 2) Y_mt_byStep [.inr (.inr 9), .inl p, .inl q, .inl t, .inl s] I (fun r I' => I' = I ∧ (((I 7 1 ≤ q + s ∧ q + s ≤ I 7 2 ∧ es_may (I 8 3) (I 7 5) t s) ∧ r = some (.inr (.inl (I 10 (((p + 1) * 37 + (q + s) - I 7 1) * 18 + es_nx (I 7 4) t s).toNat)))) ∨ (¬ (I 7 1 ≤ q + s ∧ q + s ≤ I 7 2 ∧ es_may (I 8 3) (I 7 5) t s) ∧ r = some (.inr (.inl (0)))))) := by
  refine am_enter ok_mt_byStep rfl ?_
  obtain ⟨r1, r2, r3, r4⟩ := id hr
  have hnx := es_nx_rng_ct (I 7 4) t s r3 ht
  skip
  repeat' (first
    | (refine am_gp 80 [] rfl (by first | trivial | exact Or.inl rfl | exact Or.inr rfl | (simp (decide := true) only [am_p, am_u_at, am_u_j, am_u_ne]; omega) | (simp (decide := true) only [am_p, and_true, true_and, true_or, or_true, am_u_at, am_u_j, am_u_ne]; omega) | (simp (decide := true) [am_p, am_u_at, am_u_j, am_u_ne]; omega)) ?_)
    | (show am_V _ _ _ _ _ _ _; simp only [Int.reduceToNat])
    | (refine am_bt rfl (by first | omega | (simp (decide := true) only [am_u_at, am_u_j, am_u_ne]; omega)) (by first | omega | (simp (decide := true) only [am_u_at, am_u_j, am_u_ne]; omega)) ?_)
    | (refine am_bf rfl (by first | omega | (simp (decide := true) only [am_u_at, am_u_j, am_u_ne]; omega)) (by first | omega | (simp (decide := true) only [am_u_at, am_u_j, am_u_ne]; omega)) ?_)
    | (refine am_br rfl (by first | omega | (simp (decide := true) only [am_u_at, am_u_j, am_u_ne]; omega)) (fun h => ?_) (fun h => ?_))
    | (refine am_cN (y' := Y_es_outside) rfl lk_mt_79 ok_es_outside rfl rfl (c_outside _ _ _ _ _ (by first | omega | (simp (decide := true) only [am_u_at, am_u_j, am_u_ne]; omega)) (by first | omega | (simp (decide := true) only [am_u_at, am_u_j, am_u_ne]; omega)) (by first | omega | (simp (decide := true) only [am_u_at, am_u_j, am_u_ne]; omega))) ?_; rintro r I ⟨rfl, (⟨rfl, h⟩ | ⟨rfl, h⟩)⟩ <;> (try (exfalso; omega)))
    | (refine am_cV (y' := Y_ru_mayStep) rfl lk_mt_83 ok_ru_mayStep rfl rfl rfl (c_mayStep _ _ _ _ (by first | omega | (simp (decide := true) only [am_u_at, am_u_j, am_u_ne]; omega)) (by first | omega | (simp (decide := true) only [am_u_at, am_u_j, am_u_ne]; omega)) (by first | omega | (simp (decide := true) only [am_u_at, am_u_j, am_u_ne]; omega))) ?_; rintro r I ⟨rfl, (⟨rfl, h⟩ | ⟨rfl, h⟩)⟩ <;> (try (exfalso; omega)))
    | (refine am_cU (y' := Y_ct_ofNone) rfl lk_mt_43_ct ok_ct_ofNone rfl rfl rfl (c_ct_ofNone _ _) ?_; rintro r I ⟨rfl, rfl⟩)
    | (refine am_cV (y' := Y_ru_stateBehind) rfl lk_mt_86 ok_ru_stateBehind rfl rfl rfl (c_stateBehind _ _ _ _ (by first | omega | (simp (decide := true) only [am_u_at, am_u_j, am_u_ne]; omega)) (by first | omega | (simp (decide := true) only [am_u_at, am_u_j, am_u_ne]; omega)) (by first | omega | (simp (decide := true) only [am_u_at, am_u_j, am_u_ne]; omega))) ?_; rintro r I ⟨rfl, rfl⟩)
    | (refine am_cU (y' := Y_mt_from) rfl lk_mt_89_ct ok_mt_from rfl rfl rfl (c_ct_from _ _ _ _ _ (by first | omega | (simp (decide := true) only [am_u_at, am_u_j, am_u_ne]; omega))) ?_; rintro r I ⟨rfl, rfl⟩)
    | (refine am_cU (y' := Y_ct_stepped) rfl lk_mt_93_ct ok_ct_stepped rfl rfl rfl (c_ct_stepped _ _ _ _) ?_; rintro r I ⟨rfl, rfl⟩)
    | (refine am_rt rfl (by first | trivial | exact Or.inl rfl | exact Or.inr rfl) ?_))
  all_goals first
    | exact ⟨rfl, Or.inl ⟨⟨by omega, by omega, by assumption⟩, rfl⟩⟩
    | exact ⟨rfl, Or.inr ⟨fun hc => by first | omega | exact absurd hc.2.2 (by assumption), rfl⟩⟩
theorem c_ct_stateAt (d : Nat) (p b t q : Int) (I : am_I) (hr : es_rb I) (hp : 0 ≤ p ∧ p < 16) (hb : 0 ≤ b ∧ b ≤ 127) (ht : 0 ≤ t ∧ t ≤ 17) (hq : 0 ≤ q ∧ q ≤ 127) : am_C (d + 2) Y_mt_stateAt [.inr (.inr 9), .inl p, .inl b, .inl t, .inl q] I (fun r I' => I' = I ∧ ((p = 0 ∧ r = some (.inl 0)) ∨ (0 < p ∧ r = some (.inl (es_nx (I 7 4) t (q - b)))))) := by
  refine am_enter ok_mt_stateAt rfl ?_
  obtain ⟨r1, r2, r3, r4⟩ := id hr
  repeat' (first
    | (refine am_gp 80 [] rfl (by first | trivial | exact Or.inl rfl | exact Or.inr rfl | (simp (decide := true) only [am_p, am_u_at, am_u_j, am_u_ne]; omega) | (simp (decide := true) only [am_p, and_true, true_and, true_or, or_true, am_u_at, am_u_j, am_u_ne]; omega) | (simp (decide := true) [am_p, am_u_at, am_u_j, am_u_ne]; omega)) ?_)
    | (show am_V _ _ _ _ _ _ _; simp only [Int.reduceToNat])
    | (refine am_bt rfl (by first | omega | (simp (decide := true) only [am_u_at, am_u_j, am_u_ne]; omega)) (by first | omega | (simp (decide := true) only [am_u_at, am_u_j, am_u_ne]; omega)) ?_)
    | (refine am_bf rfl (by first | omega | (simp (decide := true) only [am_u_at, am_u_j, am_u_ne]; omega)) (by first | omega | (simp (decide := true) only [am_u_at, am_u_j, am_u_ne]; omega)) ?_)
    | (refine am_br rfl (by first | omega | (simp (decide := true) only [am_u_at, am_u_j, am_u_ne]; omega)) (fun h => ?_) (fun h => ?_))
    | (refine am_cV (y' := Y_ru_stateBehind) rfl lk_mt_86 ok_ru_stateBehind rfl rfl rfl (c_stateBehind _ _ _ _ (by first | omega | (simp (decide := true) only [am_u_at, am_u_j, am_u_ne]; omega)) (by first | omega | (simp (decide := true) only [am_u_at, am_u_j, am_u_ne]; omega)) (by first | omega | (simp (decide := true) only [am_u_at, am_u_j, am_u_ne]; omega))) ?_; rintro r I ⟨rfl, rfl⟩)
    | (refine am_rt rfl (by first | trivial | exact Or.inl rfl | exact Or.inr rfl) ?_))
  all_goals first
    | exact ⟨rfl, Or.inl ⟨by omega, rfl⟩⟩
    | exact ⟨rfl, Or.inr ⟨by omega, rfl⟩⟩
theorem c_ct_onward (d : Nat) (p b t q : Int) (I : am_I) (hr : es_rb I) (hp : 0 ≤ p ∧ p < 16) (hb : I 7 1 ≤ b ∧ b ≤ I 7 2) (ht : 0 ≤ t ∧ t ≤ 17) (hq : 0 ≤ q ∧ q ≤ 127) : am_C (d + 3) Y_mt_onward [.inr (.inr 9), .inl p, .inl b, .inl t, .inl q] I (fun r I' => I' = I ∧ (((p = 0 ∧ I 7 1 ≤ q ∧ q ≤ I 7 2) ∧ r = some (.inr (.inl (I 10 ((q - I 7 1) * 18).toNat)))) ∨ ((0 < p ∧ I 7 1 ≤ q ∧ q ≤ I 7 2 ∧ es_may (I 8 3) (I 7 5) t (q - b)) ∧ r = some (.inr (.inl (I 10 ((p * 37 + q - I 7 1) * 18 + es_nx (I 7 4) t (q - b)).toNat)))) ∨ (¬ ((p = 0 ∧ I 7 1 ≤ q ∧ q ≤ I 7 2) ∨ (0 < p ∧ I 7 1 ≤ q ∧ q ≤ I 7 2 ∧ es_may (I 8 3) (I 7 5) t (q - b))) ∧ r = some (.inr (.inl (0)))))) := by
  refine am_enter ok_mt_onward rfl ?_
  obtain ⟨r1, r2, r3, r4⟩ := id hr
  repeat' (first
    | (refine am_gp 80 [] rfl (by first | trivial | exact Or.inl rfl | exact Or.inr rfl | (simp (decide := true) only [am_p, am_u_at, am_u_j, am_u_ne]; omega) | (simp (decide := true) only [am_p, and_true, true_and, true_or, or_true, am_u_at, am_u_j, am_u_ne]; omega) | (simp (decide := true) [am_p, am_u_at, am_u_j, am_u_ne]; omega)) ?_)
    | (show am_V _ _ _ _ _ _ _; simp only [Int.reduceToNat])
    | (refine am_bt rfl (by first | omega | (simp (decide := true) only [am_u_at, am_u_j, am_u_ne]; omega)) (by first | omega | (simp (decide := true) only [am_u_at, am_u_j, am_u_ne]; omega)) ?_)
    | (refine am_bf rfl (by first | omega | (simp (decide := true) only [am_u_at, am_u_j, am_u_ne]; omega)) (by first | omega | (simp (decide := true) only [am_u_at, am_u_j, am_u_ne]; omega)) ?_)
    | (refine am_br rfl (by first | omega | (simp (decide := true) only [am_u_at, am_u_j, am_u_ne]; omega)) (fun h => ?_) (fun h => ?_))
    | (refine am_cN (y' := Y_es_outside) rfl lk_mt_79 ok_es_outside rfl rfl (c_outside _ _ _ _ _ (by first | omega | (simp (decide := true) only [am_u_at, am_u_j, am_u_ne]; omega)) (by first | omega | (simp (decide := true) only [am_u_at, am_u_j, am_u_ne]; omega)) (by first | omega | (simp (decide := true) only [am_u_at, am_u_j, am_u_ne]; omega))) ?_; rintro r I ⟨rfl, (⟨rfl, h⟩ | ⟨rfl, h⟩)⟩ <;> (try (exfalso; omega)))
    | (refine am_cU (y' := Y_ct_ofNone) rfl lk_mt_43_ct ok_ct_ofNone rfl rfl rfl (c_ct_ofNone _ _) ?_; rintro r I ⟨rfl, rfl⟩)
    | (refine am_cU (y' := Y_mt_from) rfl lk_mt_89_ct ok_mt_from rfl rfl rfl (c_ct_from _ _ _ _ _ (by first | omega | (simp (decide := true) only [am_u_at, am_u_j, am_u_ne]; omega))) ?_; rintro r I ⟨rfl, rfl⟩)
    | (refine am_cV (y' := Y_mt_byStep) rfl lk_mt_54_ct ok_mt_byStep rfl rfl rfl (c_ct_byStep _ _ _ _ _ _ (by assumption) (by first | omega | (simp (decide := true) only [am_u_at, am_u_j, am_u_ne]; omega)) (by first | omega | (simp (decide := true) only [am_u_at, am_u_j, am_u_ne]; omega)) (by first | omega | (simp (decide := true) only [am_u_at, am_u_j, am_u_ne]; omega)) (by first | omega | (simp (decide := true) only [am_u_at, am_u_j, am_u_ne]; omega)) ) ?_; rintro r I ⟨rfl, (⟨h, rfl⟩ | ⟨h, rfl⟩)⟩ <;> (try (exfalso; omega)))
    | (refine am_rt rfl (by first | trivial | exact Or.inl rfl | exact Or.inr rfl) ?_))
  all_goals refine ⟨rfl, ?_⟩
  all_goals first
    | (refine Or.inl ⟨by omega, ?_⟩; rw [show (0 * 37 + q - I 7 1) * 18 + 0 = (q - I 7 1) * 18 by omega]; done)
    | (refine Or.inr (Or.inl ⟨⟨by omega, by omega, by omega, h.2.2⟩, ?_⟩); rw [show p - 1 + 1 = p by omega, show b + (q - b) = q by omega]; done)
    | (refine Or.inr (Or.inr ⟨fun hc => ?_, rfl⟩); rcases hc with hc | hc <;> first | omega | exact h ⟨by omega, by omega, hc.2.2.2⟩)
