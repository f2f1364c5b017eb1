def es_fit (sc be en n i p : Int) : Prop := es_bit sc p = 1 ∧ (0 < i ∨ es_bit be p = 1) ∧ (i < n - 1 ∨ es_bit en p = 1)
def es_sb (stp s : Int) : Int := am_and (am_shr stp (12 + s)) 1
theorem es_sb_01 (stp s : Int) : es_sb stp s = 0 ∨ es_sb stp s = 1 := am_and_1 _
def es_may (stp rp st s : Int) : Prop := (-12 ≤ s ∧ s ≤ 12) ∧ es_sb stp s = 1 ∧ (st = 16 → s = -1 ∨ s = -2) ∧ (st = 17 → s = 1 ∨ s = 2) ∧ (st ≠ 16 → st ≠ 17 → s ≠ 0 ∨ st < rp)
def es_nx (lp st s : Int) : Int := if s = 0 then min (st + 1) 15 else if lp ≤ s then 16 else if s ≤ -lp then 17 else 0
theorem c_mayStand (d : Nat) (i p : Int) (I : am_I) (hi : (-2147483648 ≤ i ∧ i < 2147483648)) (hp : 0 ≤ p ∧ p < 2147483648) (hn : 1 ≤ I 7 3 ∧ I 7 3 ≤ 16) : am_C (d + 1) Y_ru_mayStand [.inr (.inr 7), .inl i, .inl p] I (fun r I' => I' = I ∧ ((r = some (.inl 1) ∧ es_fit (I 8 0) (I 8 1) (I 8 2) (I 7 3) i p) ∨ (r = some (.inl 0) ∧ ¬ es_fit (I 8 0) (I 8 1) (I 8 2) (I 7 3) i p))) := by
  refine am_enter ok_ru_mayStand rfl ?_
  unfold es_fit
  repeat' (first
    | (refine am_gp 80 [] rfl (by first | trivial | exact Or.inl rfl | exact Or.inr rfl | (simp (decide := true) only [am_p, am_u_at, am_u_j, am_u_ne]; omega) | (simp (decide := true) only [am_p, and_true, true_and, true_or, or_true, am_u_at, am_u_j, am_u_ne]; omega) | (simp (decide := true) [am_p, am_u_at, am_u_j, am_u_ne]; omega)) ?_)
    | (show am_V _ _ _ _ _ _ _; simp only [Int.reduceToNat])
    | (refine am_bt rfl (by first | omega | (simp (decide := true) only [am_u_at, am_u_j, am_u_ne]; omega)) (by first | omega | (simp (decide := true) only [am_u_at, am_u_j, am_u_ne]; omega)) ?_)
    | (refine am_bf rfl (by first | omega | (simp (decide := true) only [am_u_at, am_u_j, am_u_ne]; omega)) (by first | omega | (simp (decide := true) only [am_u_at, am_u_j, am_u_ne]; omega)) ?_)
    | (refine am_br rfl (by first | omega | (simp (decide := true) only [am_u_at, am_u_j, am_u_ne]; omega)) (fun h => ?_) (fun h => ?_))
    | (refine am_cN (y' := Y_es_hasClass) rfl lk_ru_32 ok_es_hasClass rfl rfl (c_hasClass _ _ _ _ (by first | omega | (simp (decide := true) only [am_u_at, am_u_j, am_u_ne]; omega))) ?_; rintro r I ⟨rfl, (⟨rfl, h⟩ | ⟨rfl, h⟩)⟩ <;> (try (exfalso; omega)))
    | (refine am_rt rfl (by first | trivial | exact Or.inl rfl | exact Or.inr rfl) ?_))
  all_goals (refine ⟨rfl, ?_⟩)
  all_goals first
    | exact Or.inl ⟨rfl, by omega⟩
    | exact Or.inr ⟨rfl, by omega⟩
theorem c_mayStep (d : Nat) (st s : Int) (I : am_I) (hs : -2147483600 ≤ s ∧ s < 2147483600) (ht : 0 ≤ st ∧ st ≤ 17) (hr : 0 ≤ I 7 5 ∧ I 7 5 ≤ 15) : am_C (d + 1) Y_ru_mayStep [.inr (.inr 7), .inl st, .inl s] I (fun r I' => I' = I ∧ ((r = some (.inl 1) ∧ es_may (I 8 3) (I 7 5) st s) ∨ (r = some (.inl 0) ∧ ¬ es_may (I 8 3) (I 7 5) st s))) := by
  refine am_enter ok_ru_mayStep rfl ?_
  have hb := es_sb_01 (I 8 3) s
  unfold es_may
  unfold es_sb at hb ⊢
  repeat' (first
    | (refine am_gp 80 [] rfl (by first | trivial | exact Or.inl rfl | exact Or.inr rfl | (simp (decide := true) only [am_p, am_u_at, am_u_j, am_u_ne]; omega) | (simp (decide := true) only [am_p, and_true, true_and, true_or, or_true, am_u_at, am_u_j, am_u_ne]; omega) | (simp (decide := true) [am_p, am_u_at, am_u_j, am_u_ne]; omega)) ?_)
    | (show am_V _ _ _ _ _ _ _; simp only [Int.reduceToNat])
    | (refine am_bt rfl (by first | omega | (simp (decide := true) only [am_u_at, am_u_j, am_u_ne]; omega)) (by first | omega | (simp (decide := true) only [am_u_at, am_u_j, am_u_ne]; omega)) ?_)
    | (refine am_bf rfl (by first | omega | (simp (decide := true) only [am_u_at, am_u_j, am_u_ne]; omega)) (by first | omega | (simp (decide := true) only [am_u_at, am_u_j, am_u_ne]; omega)) ?_)
    | (refine am_br rfl (by first | omega | (simp (decide := true) only [am_u_at, am_u_j, am_u_ne]; omega)) (fun h => ?_) (fun h => ?_))
    | (refine am_cN (y' := Y_es_outside) rfl lk_ru_36 ok_es_outside rfl rfl (c_outside _ _ _ _ _ (by first | omega | (simp (decide := true) only [am_u_at, am_u_j, am_u_ne]; omega)) (by first | omega | (simp (decide := true) only [am_u_at, am_u_j, am_u_ne]; omega)) (by first | omega | (simp (decide := true) only [am_u_at, am_u_j, am_u_ne]; omega))) ?_; rintro r I ⟨rfl, (⟨rfl, h⟩ | ⟨rfl, h⟩)⟩ <;> (try (exfalso; omega)))
    | (refine am_rt rfl (by first | trivial | exact Or.inl rfl | exact Or.inr rfl) ?_))
  all_goals (refine ⟨rfl, ?_⟩)
  all_goals first
    | exact Or.inl ⟨rfl, by omega⟩
    | exact Or.inr ⟨rfl, by omega⟩
theorem c_stateBehind (d : Nat) (st s : Int) (I : am_I) (hs : (-2147483648 ≤ s ∧ s < 2147483648)) (ht : 0 ≤ st ∧ st ≤ 17) (hl : 1 ≤ I 7 4 ∧ I 7 4 ≤ 13) : am_C (d + 1) Y_ru_stateBehind [.inr (.inr 7), .inl st, .inl s] I (fun r I' => I' = I ∧ r = some (.inl (es_nx (I 7 4) st s))) := by
  refine am_enter ok_ru_stateBehind rfl ?_
  unfold es_nx
  repeat' (first
    | (refine am_gp 80 [] rfl (by first | trivial | exact Or.inl rfl | exact Or.inr rfl | (simp (decide := true) only [am_p, am_u_at, am_u_j, am_u_ne]; omega) | (simp (decide := true) only [am_p, and_true, true_and, true_or, or_true, am_u_at, am_u_j, am_u_ne]; omega) | (simp (decide := true) [am_p, am_u_at, am_u_j, am_u_ne]; omega)) ?_)
    | (show am_V _ _ _ _ _ _ _; simp only [Int.reduceToNat])
    | (refine am_bt rfl (by first | omega | (simp (decide := true) only [am_u_at, am_u_j, am_u_ne]; omega)) (by first | omega | (simp (decide := true) only [am_u_at, am_u_j, am_u_ne]; omega)) ?_)
    | (refine am_bf rfl (by first | omega | (simp (decide := true) only [am_u_at, am_u_j, am_u_ne]; omega)) (by first | omega | (simp (decide := true) only [am_u_at, am_u_j, am_u_ne]; omega)) ?_)
    | (refine am_br rfl (by first | omega | (simp (decide := true) only [am_u_at, am_u_j, am_u_ne]; omega)) (fun h => ?_) (fun h => ?_))
    | (refine am_mini rfl mk_ru_40 rfl (by first | omega | (simp (decide := true) only [am_u_at, am_u_j, am_u_ne]; omega)) ?_)
    | (refine am_rt rfl (by first | trivial | exact Or.inl rfl | exact Or.inr rfl) ?_))
  all_goals (refine ⟨rfl, ?_⟩)
  all_goals (split <;> first | omega | (split <;> first | omega | (split <;> first | omega | rfl) | rfl) | rfl)
def es_bh (stp lp rp st s : Int) : Int := if ¬ (-12 ≤ s ∧ s ≤ 12) ∨ es_sb stp s = 0 then -1 else if (st = 1 ∧ s ≠ -1 ∧ s ≠ -2) ∨ (st = 2 ∧ s ≠ 1 ∧ s ≠ 2) then -1 else if s = 0 then (if rp < (if 2 < st then st - 1 else 1) then -1 else 2 + (if 2 < st then st - 1 else 1)) else if max s (-s) < lp then 0 else if 0 < s then 1 else 2
theorem c_behind (d : Nat) (st s : Int) (I : am_I) (hs : -2147483600 ≤ s ∧ s < 2147483600) (ht : 0 ≤ st ∧ st ≤ 17) (hl : 1 ≤ I 44 14 ∧ I 44 14 ≤ 13) (hr : 0 ≤ I 44 15 ∧ I 44 15 ≤ 15) : am_C (d + 1) Y_mo_behind [.inr (.inr 44), .inl st, .inl s] I (fun r I' => I' = I ∧ r = some (.inl (es_bh (I 44 13) (I 44 14) (I 44 15) st s))) := by
  refine am_enter ok_mo_behind rfl ?_
  have hb := es_sb_01 (I 44 13) s
  unfold es_bh
  unfold es_sb at hb ⊢
  repeat' (first
    | (refine am_gp 80 [] rfl (by first | trivial | exact Or.inl rfl | exact Or.inr rfl | (simp (decide := true) only [am_p, am_u_at, am_u_j, am_u_ne]; omega) | (simp (decide := true) only [am_p, and_true, true_and, true_or, or_true, am_u_at, am_u_j, am_u_ne]; omega) | (simp (decide := true) [am_p, am_u_at, am_u_j, am_u_ne]; omega)) ?_)
    | (show am_V _ _ _ _ _ _ _; simp only [Int.reduceToNat])
    | (refine am_bt rfl (by first | omega | (simp (decide := true) only [am_u_at, am_u_j, am_u_ne]; omega)) (by first | omega | (simp (decide := true) only [am_u_at, am_u_j, am_u_ne]; omega)) ?_)
    | (refine am_bf rfl (by first | omega | (simp (decide := true) only [am_u_at, am_u_j, am_u_ne]; omega)) (by first | omega | (simp (decide := true) only [am_u_at, am_u_j, am_u_ne]; omega)) ?_)
    | (refine am_br rfl (by first | omega | (simp (decide := true) only [am_u_at, am_u_j, am_u_ne]; omega)) (fun h => ?_) (fun h => ?_))
    | (refine am_cS (y' := Y_mo_in) rfl lk_mo_114 ok_mo_in rfl rfl (c_mo_in _ _ _ _ _ (by first | omega | (simp (decide := true) only [am_u_at, am_u_j, am_u_ne]; omega)) (by first | omega | (simp (decide := true) only [am_u_at, am_u_j, am_u_ne]; omega)) (by first | omega | (simp (decide := true) only [am_u_at, am_u_j, am_u_ne]; omega))) ?_; rintro r I ⟨rfl, (⟨rfl, h⟩ | ⟨rfl, h⟩)⟩ <;> (try (exfalso; omega)))
    | (refine am_rt rfl (by first | trivial | exact Or.inl rfl | exact Or.inr rfl) ?_))
  all_goals (refine ⟨rfl, ?_⟩)
  all_goals (repeat' split)
  all_goals first | rfl | omega | (congr 2; omega)
theorem c_fits (d : Nat) (i p : Int) (I : am_I) (hi : (-2147483648 ≤ i ∧ i < 2147483648)) (hp : 0 ≤ p ∧ p < 2147483648) (hn : 1 ≤ I 44 9 ∧ I 44 9 ≤ 16) (hl : 0 ≤ I 44 7 ∧ I 44 7 ≤ 127) (hh : 0 ≤ I 44 8 ∧ I 44 8 ≤ 127) : am_C (d + 1) Y_mo_fits [.inr (.inr 44), .inl i, .inl p] I (fun r I' => I' = I ∧ ((r = some (.inl 1) ∧ ((I 44 7 ≤ p ∧ p ≤ I 44 8) ∧ es_fit (I 44 10) (I 44 11) (I 44 12) (I 44 9) i p)) ∨ (r = some (.inl 0) ∧ ¬ ((I 44 7 ≤ p ∧ p ≤ I 44 8) ∧ es_fit (I 44 10) (I 44 11) (I 44 12) (I 44 9) i p)))) := by
  refine am_enter ok_mo_fits rfl ?_
  unfold es_fit
  repeat' (first
    | (refine am_gp 80 [] rfl (by first | trivial | exact Or.inl rfl | exact Or.inr rfl | (simp (decide := true) only [am_p, am_u_at, am_u_j, am_u_ne]; omega) | (simp (decide := true) only [am_p, and_true, true_and, true_or, or_true, am_u_at, am_u_j, am_u_ne]; omega) | (simp (decide := true) [am_p, am_u_at, am_u_j, am_u_ne]; omega)) ?_)
    | (show am_V _ _ _ _ _ _ _; simp only [Int.reduceToNat])
    | (refine am_bt rfl (by first | omega | (simp (decide := true) only [am_u_at, am_u_j, am_u_ne]; omega)) (by first | omega | (simp (decide := true) only [am_u_at, am_u_j, am_u_ne]; omega)) ?_)
    | (refine am_bf rfl (by first | omega | (simp (decide := true) only [am_u_at, am_u_j, am_u_ne]; omega)) (by first | omega | (simp (decide := true) only [am_u_at, am_u_j, am_u_ne]; omega)) ?_)
    | (refine am_br rfl (by first | omega | (simp (decide := true) only [am_u_at, am_u_j, am_u_ne]; omega)) (fun h => ?_) (fun h => ?_))
    | (refine am_cS (y' := Y_mo_in) rfl lk_mo_114 ok_mo_in rfl rfl (c_mo_in _ _ _ _ _ (by first | omega | (simp (decide := true) only [am_u_at, am_u_j, am_u_ne]; omega)) (by first | omega | (simp (decide := true) only [am_u_at, am_u_j, am_u_ne]; omega)) (by first | omega | (simp (decide := true) only [am_u_at, am_u_j, am_u_ne]; omega))) ?_; rintro r I ⟨rfl, (⟨rfl, h⟩ | ⟨rfl, h⟩)⟩ <;> (try (exfalso; omega)))
    | (refine am_cS (y' := Y_mo_hasClass) rfl lk_mo_139 ok_mo_hasClass rfl rfl (c_mo_hasClass _ _ _ _ (by first | omega | (simp (decide := true) only [am_u_at, am_u_j, am_u_ne]; omega))) ?_; rintro r I ⟨rfl, (⟨rfl, h⟩ | ⟨rfl, h⟩)⟩ <;> (try (exfalso; omega)))
    | (refine am_rt rfl (by first | trivial | exact Or.inl rfl | exact Or.inr rfl) ?_))
  all_goals (refine ⟨rfl, ?_⟩)
  all_goals first
    | exact Or.inl ⟨rfl, by omega⟩
    | exact Or.inr ⟨rfl, by omega⟩
