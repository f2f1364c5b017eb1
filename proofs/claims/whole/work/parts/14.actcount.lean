theorem c_es_act (d : Nat) (i w : Int) (I : am_I) (hi : (-2147483648 ≤ i ∧ i < 2147483648)) (hw : (-2147483648 ≤ w ∧ w < 2147483648)) (hn : 0 ≤ I 23 7 ∧ I 23 7 ≤ 96) (hj : I 23 9 = 0 ∨ I 23 9 = 1) : am_C (d + 1) Y_es_act [.inr (.inr 0), .inl i, .inl w] I (fun r I' => (¬ (0 ≤ w ∧ w ≤ 3) ∧ r = some (.inl (-2)) ∧ I' = I) ∨ (((0 ≤ w ∧ w ≤ 3) ∧ I 23 9 = 0) ∧ r = some (.inl (-3)) ∧ I' = I) ∨ (((0 ≤ w ∧ w ≤ 3) ∧ I 23 9 = 1 ∧ ¬ (0 ≤ i ∧ i < I 23 7)) ∧ r = some (.inl (-2)) ∧ I' = I) ∨ ((w = 0 ∧ I 23 9 = 1 ∧ (0 ≤ i ∧ i < I 23 7)) ∧ r = some (.inl (I 25 i.toNat)) ∧ I' = I) ∨ ((w = 1 ∧ I 23 9 = 1 ∧ (0 ≤ i ∧ i < I 23 7)) ∧ r = some (.inl (I 26 i.toNat)) ∧ I' = I) ∨ ((w = 2 ∧ I 23 9 = 1 ∧ (0 ≤ i ∧ i < I 23 7)) ∧ r = some (.inl (I 27 i.toNat)) ∧ I' = I) ∨ ((w = 3 ∧ I 23 9 = 1 ∧ (0 ≤ i ∧ i < I 23 7)) ∧ r = some (.inl (I 28 i.toNat)) ∧ I' = I)) := by
  refine am_enter ok_es_act rfl ?_
  repeat' (first
    | (refine am_gp 80 [] rfl (by first | trivial | exact Or.inl rfl | exact Or.inr rfl | (simp (decide := true) only [am_p, am_u_at, am_u_j, am_u_ne]; omega) | (simp (decide := true) only [am_p, and_true, true_and, true_or, or_true, am_u_at, am_u_j, am_u_ne]; omega) | (simp (decide := true) [am_p, am_u_at, am_u_j, am_u_ne]; omega)) ?_)
    | (show am_V _ _ _ _ _ _ _; simp only [Int.reduceToNat])
    | (refine am_bt rfl (by first | omega | (simp (decide := true) only [am_u_at, am_u_j, am_u_ne]; omega)) (by first | omega | (simp (decide := true) only [am_u_at, am_u_j, am_u_ne]; omega)) ?_)
    | (refine am_bf rfl (by first | omega | (simp (decide := true) only [am_u_at, am_u_j, am_u_ne]; omega)) (by first | omega | (simp (decide := true) only [am_u_at, am_u_j, am_u_ne]; omega)) ?_)
    | (refine am_br rfl (by first | omega | (simp (decide := true) only [am_u_at, am_u_j, am_u_ne]; omega)) (fun h => ?_) (fun h => ?_))
    | (refine am_sw2 [72, 82, 92] 102 rfl rfl rfl rfl (by first | omega | (simp (decide := true) only [am_u_at, am_u_j, am_u_ne]; omega)) ?_ (fun h => ?_))
    | (unfold am_swc; refine ⟨fun h => ?_, ?_⟩)
    | (unfold am_swc; exact trivial)
    | (refine am_cS (y' := Y_es_outside) rfl lk_es_72 ok_es_outside rfl rfl (c_outside _ _ _ _ _ (by first | omega | (simp (decide := true) only [am_u_at, am_u_j, am_u_ne]; omega)) (by first | omega | (simp (decide := true) only [am_u_at, am_u_j, am_u_ne]; omega)) (by first | omega | (simp (decide := true) only [am_u_at, am_u_j, am_u_ne]; omega))) ?_; rintro r I ⟨rfl, (⟨rfl, h⟩ | ⟨rfl, h⟩)⟩ <;> (try (exfalso; omega)))
    | (refine am_rt rfl (by first | trivial | exact Or.inl rfl | exact Or.inr rfl) ?_))
  all_goals try simp (decide := true) only [am_u_at, am_u_j, am_u_ne]
  all_goals first
    | (refine Or.inl ⟨by omega, ?_⟩; first | trivial | exact rfl | exact ⟨rfl, rfl⟩ | (refine ⟨?_, rfl⟩; congr 2; omega))
    | (refine Or.inr (Or.inl ⟨by omega, ?_⟩); first | trivial | exact rfl | exact ⟨rfl, rfl⟩ | (refine ⟨?_, rfl⟩; congr 2; omega))
    | (refine Or.inr (Or.inr (Or.inl ⟨by omega, ?_⟩)); first | trivial | exact rfl | exact ⟨rfl, rfl⟩ | (refine ⟨?_, rfl⟩; congr 2; omega))
    | (refine Or.inr (Or.inr (Or.inr (Or.inl ⟨by omega, ?_⟩))); first | trivial | exact rfl | exact ⟨rfl, rfl⟩ | (refine ⟨?_, rfl⟩; congr 2; omega))
    | (refine Or.inr (Or.inr (Or.inr (Or.inr (Or.inl ⟨by omega, ?_⟩)))); first | trivial | exact rfl | exact ⟨rfl, rfl⟩ | (refine ⟨?_, rfl⟩; congr 2; omega))
    | (refine Or.inr (Or.inr (Or.inr (Or.inr (Or.inr (Or.inl ⟨by omega, ?_⟩))))); first | trivial | exact rfl | exact ⟨rfl, rfl⟩ | (refine ⟨?_, rfl⟩; congr 2; omega))
    | (refine Or.inr (Or.inr (Or.inr (Or.inr (Or.inr (Or.inr (⟨by omega, ?_⟩)))))); first | trivial | exact rfl | exact ⟨rfl, rfl⟩ | (refine ⟨?_, rfl⟩; congr 2; omega))
theorem c_mo_act (d : Nat) (i w : Int) (I : am_I) (hi : (-2147483648 ≤ i ∧ i < 2147483648)) (hw : (-2147483648 ≤ w ∧ w < 2147483648)) (hn : 0 ≤ I 44 32 ∧ I 44 32 ≤ 96) (hj : I 44 6 = 0 ∨ I 44 6 = 1) : am_C (d + 1) Y_mo_act [.inr (.inr 44), .inl i, .inl w] I (fun r I' => (¬ (0 ≤ w ∧ w ≤ 3) ∧ r = some (.inl (-2)) ∧ I' = I) ∨ (((0 ≤ w ∧ w ≤ 3) ∧ I 44 6 = 0) ∧ r = some (.inl (-3)) ∧ I' = I) ∨ (((0 ≤ w ∧ w ≤ 3) ∧ I 44 6 = 1 ∧ ¬ (0 ≤ i ∧ i < I 44 32)) ∧ r = some (.inl (-2)) ∧ I' = I) ∨ ((w = 0 ∧ I 44 6 = 1 ∧ (0 ≤ i ∧ i < I 44 32)) ∧ r = some (.inl (I 60 i.toNat)) ∧ I' = I) ∨ ((w = 1 ∧ I 44 6 = 1 ∧ (0 ≤ i ∧ i < I 44 32)) ∧ r = some (.inl (I 61 i.toNat)) ∧ I' = I) ∨ ((w = 2 ∧ I 44 6 = 1 ∧ (0 ≤ i ∧ i < I 44 32)) ∧ r = some (.inl (I 62 i.toNat)) ∧ I' = I) ∨ ((w = 3 ∧ I 44 6 = 1 ∧ (0 ≤ i ∧ i < I 44 32)) ∧ r = some (.inl (I 63 i.toNat)) ∧ I' = I)) := by
  refine am_enter ok_mo_act rfl ?_
  repeat' (first
    | (refine am_gp 80 [] rfl (by first | trivial | exact Or.inl rfl | exact Or.inr rfl | (simp (decide := true) only [am_p, am_u_at, am_u_j, am_u_ne]; omega) | (simp (decide := true) only [am_p, and_true, true_and, true_or, or_true, am_u_at, am_u_j, am_u_ne]; omega) | (simp (decide := true) [am_p, am_u_at, am_u_j, am_u_ne]; omega)) ?_)
    | (show am_V _ _ _ _ _ _ _; simp only [Int.reduceToNat])
    | (refine am_bt rfl (by first | omega | (simp (decide := true) only [am_u_at, am_u_j, am_u_ne]; omega)) (by first | omega | (simp (decide := true) only [am_u_at, am_u_j, am_u_ne]; omega)) ?_)
    | (refine am_bf rfl (by first | omega | (simp (decide := true) only [am_u_at, am_u_j, am_u_ne]; omega)) (by first | omega | (simp (decide := true) only [am_u_at, am_u_j, am_u_ne]; omega)) ?_)
    | (refine am_br rfl (by first | omega | (simp (decide := true) only [am_u_at, am_u_j, am_u_ne]; omega)) (fun h => ?_) (fun h => ?_))
    | (refine am_cS (y' := Y_mo_in) rfl lk_mo_114 ok_mo_in rfl rfl (c_mo_in _ _ _ _ _ (by first | omega | (simp (decide := true) only [am_u_at, am_u_j, am_u_ne]; omega)) (by first | omega | (simp (decide := true) only [am_u_at, am_u_j, am_u_ne]; omega)) (by first | omega | (simp (decide := true) only [am_u_at, am_u_j, am_u_ne]; omega))) ?_; rintro r I ⟨rfl, (⟨rfl, h⟩ | ⟨rfl, h⟩)⟩ <;> (try (exfalso; omega)))
    | (refine am_rt rfl (by first | trivial | exact Or.inl rfl | exact Or.inr rfl) ?_))
  all_goals try simp (decide := true) only [am_u_at, am_u_j, am_u_ne]
  all_goals first
    | (refine Or.inl ⟨by omega, ?_⟩; first | trivial | exact rfl | exact ⟨rfl, rfl⟩ | (refine ⟨?_, rfl⟩; congr 2; omega))
    | (refine Or.inr (Or.inl ⟨by omega, ?_⟩); first | trivial | exact rfl | exact ⟨rfl, rfl⟩ | (refine ⟨?_, rfl⟩; congr 2; omega))
    | (refine Or.inr (Or.inr (Or.inl ⟨by omega, ?_⟩)); first | trivial | exact rfl | exact ⟨rfl, rfl⟩ | (refine ⟨?_, rfl⟩; congr 2; omega))
    | (refine Or.inr (Or.inr (Or.inr (Or.inl ⟨by omega, ?_⟩))); first | trivial | exact rfl | exact ⟨rfl, rfl⟩ | (refine ⟨?_, rfl⟩; congr 2; omega))
    | (refine Or.inr (Or.inr (Or.inr (Or.inr (Or.inl ⟨by omega, ?_⟩)))); first | trivial | exact rfl | exact ⟨rfl, rfl⟩ | (refine ⟨?_, rfl⟩; congr 2; omega))
    | (refine Or.inr (Or.inr (Or.inr (Or.inr (Or.inr (Or.inl ⟨by omega, ?_⟩))))); first | trivial | exact rfl | exact ⟨rfl, rfl⟩ | (refine ⟨?_, rfl⟩; congr 2; omega))
    | (refine Or.inr (Or.inr (Or.inr (Or.inr (Or.inr (Or.inr (⟨by omega, ?_⟩)))))); first | trivial | exact rfl | exact ⟨rfl, rfl⟩ | (refine ⟨?_, rfl⟩; congr 2; omega))
theorem c_es_count (d : Nat) (w : Int) (I : am_I) (hw : (-2147483648 ≤ w ∧ w < 2147483648)) (hj : I 23 9 = 0 ∨ I 23 9 = 1) : am_C d Y_es_count [.inr (.inr 0), .inl w] I (fun r I' => (¬ (0 ≤ w ∧ w ≤ 5) ∧ r = some (.inl (-2)) ∧ I' = I) ∨ (w = 0 ∧ r = some (.inl (I 1 2)) ∧ I' = I) ∨ (w = 1 ∧ r = some (.inl (I 4 2)) ∧ I' = I) ∨ ((w = 2 ∧ I 23 9 = 1) ∧ r = some (.inl (I 23 7)) ∧ I' = I) ∨ ((w = 2 ∧ I 23 9 = 0) ∧ r = some (.inl (-1)) ∧ I' = I) ∨ (w = 3 ∧ r = some (.inl (I 17 2)) ∧ I' = I) ∨ (w = 4 ∧ r = some (.inl (I 14 1)) ∧ I' = I) ∨ (w = 5 ∧ r = some (.inl (I 7 3)) ∧ I' = I)) := by
  refine am_enter ok_es_count rfl ?_
  repeat' (first
    | (refine am_gp 80 [] rfl (by first | trivial | exact Or.inl rfl | exact Or.inr rfl | (simp (decide := true) only [am_p, am_u_at, am_u_j, am_u_ne]; omega) | (simp (decide := true) only [am_p, and_true, true_and, true_or, or_true, am_u_at, am_u_j, am_u_ne]; omega) | (simp (decide := true) [am_p, am_u_at, am_u_j, am_u_ne]; omega)) ?_)
    | (show am_V _ _ _ _ _ _ _; simp only [Int.reduceToNat])
    | (refine am_bt rfl (by first | omega | (simp (decide := true) only [am_u_at, am_u_j, am_u_ne]; omega)) (by first | omega | (simp (decide := true) only [am_u_at, am_u_j, am_u_ne]; omega)) ?_)
    | (refine am_bf rfl (by first | omega | (simp (decide := true) only [am_u_at, am_u_j, am_u_ne]; omega)) (by first | omega | (simp (decide := true) only [am_u_at, am_u_j, am_u_ne]; omega)) ?_)
    | (refine am_br rfl (by first | omega | (simp (decide := true) only [am_u_at, am_u_j, am_u_ne]; omega)) (fun h => ?_) (fun h => ?_))
    | (refine am_sw2 [40, 48, 56, 78, 86, 94] 102 rfl rfl rfl rfl (by first | omega | (simp (decide := true) only [am_u_at, am_u_j, am_u_ne]; omega)) ?_ (fun h => ?_))
    | (unfold am_swc; refine ⟨fun h => ?_, ?_⟩)
    | (unfold am_swc; exact trivial)
    | (refine am_rt rfl (by first | trivial | exact Or.inl rfl | exact Or.inr rfl) ?_))
  all_goals try simp (decide := true) only [am_u_at, am_u_j, am_u_ne]
  all_goals first
    | (refine Or.inl ⟨by omega, ?_⟩; first | trivial | exact rfl | exact ⟨rfl, rfl⟩ | (refine ⟨?_, rfl⟩; congr 2; omega))
    | (refine Or.inr (Or.inl ⟨by omega, ?_⟩); first | trivial | exact rfl | exact ⟨rfl, rfl⟩ | (refine ⟨?_, rfl⟩; congr 2; omega))
    | (refine Or.inr (Or.inr (Or.inl ⟨by omega, ?_⟩)); first | trivial | exact rfl | exact ⟨rfl, rfl⟩ | (refine ⟨?_, rfl⟩; congr 2; omega))
    | (refine Or.inr (Or.inr (Or.inr (Or.inl ⟨by omega, ?_⟩))); first | trivial | exact rfl | exact ⟨rfl, rfl⟩ | (refine ⟨?_, rfl⟩; congr 2; omega))
    | (refine Or.inr (Or.inr (Or.inr (Or.inr (Or.inl ⟨by omega, ?_⟩)))); first | trivial | exact rfl | exact ⟨rfl, rfl⟩ | (refine ⟨?_, rfl⟩; congr 2; omega))
    | (refine Or.inr (Or.inr (Or.inr (Or.inr (Or.inr (Or.inl ⟨by omega, ?_⟩))))); first | trivial | exact rfl | exact ⟨rfl, rfl⟩ | (refine ⟨?_, rfl⟩; congr 2; omega))
    | (refine Or.inr (Or.inr (Or.inr (Or.inr (Or.inr (Or.inr (Or.inl ⟨by omega, ?_⟩)))))); first | trivial | exact rfl | exact ⟨rfl, rfl⟩ | (refine ⟨?_, rfl⟩; congr 2; omega))
    | (refine Or.inr (Or.inr (Or.inr (Or.inr (Or.inr (Or.inr (Or.inr (⟨by omega, ?_⟩))))))); first | trivial | exact rfl | exact ⟨rfl, rfl⟩ | (refine ⟨?_, rfl⟩; congr 2; omega))
theorem c_mo_count (d : Nat) (w : Int) (I : am_I) (hw : (-2147483648 ≤ w ∧ w < 2147483648)) (hj : I 44 6 = 0 ∨ I 44 6 = 1) : am_C d Y_mo_count [.inr (.inr 44), .inl w] I (fun r I' => (¬ (0 ≤ w ∧ w ≤ 5) ∧ r = some (.inl (-2)) ∧ I' = I) ∨ (w = 0 ∧ r = some (.inl (I 44 0)) ∧ I' = I) ∨ (w = 1 ∧ r = some (.inl (I 44 3)) ∧ I' = I) ∨ ((w = 2 ∧ I 44 6 = 1) ∧ r = some (.inl (I 44 32)) ∧ I' = I) ∨ ((w = 2 ∧ I 44 6 = 0) ∧ r = some (.inl (-1)) ∧ I' = I) ∨ (w = 3 ∧ r = some (.inl (I 44 20)) ∧ I' = I) ∨ (w = 4 ∧ r = some (.inl (I 44 19)) ∧ I' = I) ∨ (w = 5 ∧ r = some (.inl (I 44 9)) ∧ I' = I)) := by
  refine am_enter ok_mo_count rfl ?_
  repeat' (first
    | (refine am_gp 80 [] rfl (by first | trivial | exact Or.inl rfl | exact Or.inr rfl | (simp (decide := true) only [am_p, am_u_at, am_u_j, am_u_ne]; omega) | (simp (decide := true) only [am_p, and_true, true_and, true_or, or_true, am_u_at, am_u_j, am_u_ne]; omega) | (simp (decide := true) [am_p, am_u_at, am_u_j, am_u_ne]; omega)) ?_)
    | (show am_V _ _ _ _ _ _ _; simp only [Int.reduceToNat])
    | (refine am_bt rfl (by first | omega | (simp (decide := true) only [am_u_at, am_u_j, am_u_ne]; omega)) (by first | omega | (simp (decide := true) only [am_u_at, am_u_j, am_u_ne]; omega)) ?_)
    | (refine am_bf rfl (by first | omega | (simp (decide := true) only [am_u_at, am_u_j, am_u_ne]; omega)) (by first | omega | (simp (decide := true) only [am_u_at, am_u_j, am_u_ne]; omega)) ?_)
    | (refine am_br rfl (by first | omega | (simp (decide := true) only [am_u_at, am_u_j, am_u_ne]; omega)) (fun h => ?_) (fun h => ?_))
    | (refine am_sw2 [40, 45, 50, 66, 71, 76] 81 rfl rfl rfl rfl (by first | omega | (simp (decide := true) only [am_u_at, am_u_j, am_u_ne]; omega)) ?_ (fun h => ?_))
    | (unfold am_swc; refine ⟨fun h => ?_, ?_⟩)
    | (unfold am_swc; exact trivial)
    | (refine am_rt rfl (by first | trivial | exact Or.inl rfl | exact Or.inr rfl) ?_))
  all_goals try simp (decide := true) only [am_u_at, am_u_j, am_u_ne]
  all_goals first
    | (refine Or.inl ⟨by omega, ?_⟩; first | trivial | exact rfl | exact ⟨rfl, rfl⟩ | (refine ⟨?_, rfl⟩; congr 2; omega))
    | (refine Or.inr (Or.inl ⟨by omega, ?_⟩); first | trivial | exact rfl | exact ⟨rfl, rfl⟩ | (refine ⟨?_, rfl⟩; congr 2; omega))
    | (refine Or.inr (Or.inr (Or.inl ⟨by omega, ?_⟩)); first | trivial | exact rfl | exact ⟨rfl, rfl⟩ | (refine ⟨?_, rfl⟩; congr 2; omega))
    | (refine Or.inr (Or.inr (Or.inr (Or.inl ⟨by omega, ?_⟩))); first | trivial | exact rfl | exact ⟨rfl, rfl⟩ | (refine ⟨?_, rfl⟩; congr 2; omega))
    | (refine Or.inr (Or.inr (Or.inr (Or.inr (Or.inl ⟨by omega, ?_⟩)))); first | trivial | exact rfl | exact ⟨rfl, rfl⟩ | (refine ⟨?_, rfl⟩; congr 2; omega))
    | (refine Or.inr (Or.inr (Or.inr (Or.inr (Or.inr (Or.inl ⟨by omega, ?_⟩))))); first | trivial | exact rfl | exact ⟨rfl, rfl⟩ | (refine ⟨?_, rfl⟩; congr 2; omega))
    | (refine Or.inr (Or.inr (Or.inr (Or.inr (Or.inr (Or.inr (Or.inl ⟨by omega, ?_⟩)))))); first | trivial | exact rfl | exact ⟨rfl, rfl⟩ | (refine ⟨?_, rfl⟩; congr 2; omega))
    | (refine Or.inr (Or.inr (Or.inr (Or.inr (Or.inr (Or.inr (Or.inr (⟨by omega, ?_⟩))))))); first | trivial | exact rfl | exact ⟨rfl, rfl⟩ | (refine ⟨?_, rfl⟩; congr 2; omega))
def es_wt (a m : Int) : Int := if a = 0 then 6 else 1 + 10 * m / a
theorem c_mo_weight (d : Nat) (p s : Int) (I : am_I) (hp : 0 ≤ p ∧ p ≤ 5) (hs : 0 ≤ s ∧ s ≤ 12) (ha : 0 ≤ I 52 (13 * p + s).toNat ∧ I 52 (13 * p + s).toNat ≤ 100000) (hm : 0 ≤ I 53 (13 * p + s).toNat ∧ I 53 (13 * p + s).toNat ≤ 100000) : am_C d Y_mo_weight [.inr (.inr 44), .inl p, .inl s] I (fun r I' => I' = I ∧ r = some (.inl (es_wt (I 52 (13 * p + s).toNat) (I 53 (13 * p + s).toNat)))) := by
  refine am_enter ok_mo_weight rfl ?_
  unfold es_wt
  repeat' (first
    | (refine am_gp 80 [] rfl (by first | trivial | exact Or.inl rfl | exact Or.inr rfl | (simp (decide := true) only [am_p, am_u_at, am_u_j, am_u_ne]; omega) | (simp (decide := true) only [am_p, and_true, true_and, true_or, or_true, am_u_at, am_u_j, am_u_ne]; omega) | (simp (decide := true) [am_p, am_u_at, am_u_j, am_u_ne]; omega)) ?_)
    | (show am_V _ _ _ _ _ _ _; simp only [Int.reduceToNat])
    | (refine am_bt rfl (by first | omega | (simp (decide := true) only [am_u_at, am_u_j, am_u_ne]; omega)) (by first | omega | (simp (decide := true) only [am_u_at, am_u_j, am_u_ne]; omega)) ?_)
    | (refine am_bf rfl (by first | omega | (simp (decide := true) only [am_u_at, am_u_j, am_u_ne]; omega)) (by first | omega | (simp (decide := true) only [am_u_at, am_u_j, am_u_ne]; omega)) ?_)
    | (refine am_br rfl (by first | omega | (simp (decide := true) only [am_u_at, am_u_j, am_u_ne]; omega)) (fun h => ?_) (fun h => ?_))
    | (refine am_rt rfl (by first | trivial | exact Or.inl rfl | exact Or.inr rfl) ?_))
  · exact ⟨rfl, by rw [if_neg (by omega)]⟩
  · exact ⟨rfl, by rw [if_pos (by omega)]⟩
