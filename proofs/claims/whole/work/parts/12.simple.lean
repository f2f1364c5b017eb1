theorem c_es_note (d : Nat) (x z : Int) (I : am_I) (hx : (-2147483648 ≤ x ∧ x < 2147483648)) (hz : (-2147483648 ≤ z ∧ z < 2147483648)) (hn : 0 ≤ I 1 2 ∧ I 1 2 ≤ 24) :
    am_C (d + 1) Y_es_note [.inr (.inr 0), .inl x, .inl z] I (fun r I' => (¬ (0 ≤ x ∧ x ≤ 127 ∧ 1 ≤ z ∧ z ≤ 96) ∧ r = some (.inl (-2)) ∧ I' = I) ∨ (((0 ≤ x ∧ x ≤ 127 ∧ 1 ≤ z ∧ z ≤ 96) ∧ I 1 2 = 24) ∧ r = some (.inl (-4)) ∧ I' = I) ∨ (((0 ≤ x ∧ x ≤ 127 ∧ 1 ≤ z ∧ z ≤ 96) ∧ I 1 2 < 24) ∧ r = some (.inl (I 1 2 + 1)) ∧ I' = am_u (am_u (am_u (am_u I 2 (I 1 2).toNat x) 3 (I 1 2).toNat z) 1 2 (I 1 2 + 1)) 23 9 0)) := by
  refine am_enter ok_es_note rfl ?_
  repeat' (first
    | (refine am_gp 80 [] rfl (by first | trivial | exact Or.inl rfl | exact Or.inr rfl | (simp (decide := true) only [am_p, am_u_at, am_u_j, am_u_ne]; omega) | (simp (decide := true) only [am_p, and_true, true_and, true_or, or_true, am_u_at, am_u_j, am_u_ne]; omega) | (simp (decide := true) [am_p, am_u_at, am_u_j, am_u_ne]; omega)) ?_)
    | (show am_V _ _ _ _ _ _ _; simp only [Int.reduceToNat])
    | (refine am_bt rfl (by first | omega | (simp (decide := true) only [am_u_at, am_u_j, am_u_ne]; omega)) (by first | omega | (simp (decide := true) only [am_u_at, am_u_j, am_u_ne]; omega)) ?_)
    | (refine am_bf rfl (by first | omega | (simp (decide := true) only [am_u_at, am_u_j, am_u_ne]; omega)) (by first | omega | (simp (decide := true) only [am_u_at, am_u_j, am_u_ne]; omega)) ?_)
    | (refine am_br rfl (by first | omega | (simp (decide := true) only [am_u_at, am_u_j, am_u_ne]; omega)) (fun h => ?_) (fun h => ?_))
    | (refine am_cS (y' := Y_es_outside) rfl lk_es_72 ok_es_outside rfl rfl (c_outside _ _ _ _ _ (by first | omega | (simp (decide := true) only [am_u_at, am_u_j, am_u_ne]; omega)) (by first | omega | (simp (decide := true) only [am_u_at, am_u_j, am_u_ne]; omega)) (by first | omega | (simp (decide := true) only [am_u_at, am_u_j, am_u_ne]; omega))) ?_; rintro r I ⟨rfl, (⟨rfl, h⟩ | ⟨rfl, h⟩)⟩ <;> (try (exfalso; omega)))
    | (refine am_cV (y' := Y_no_push) rfl lk_es_80 ok_no_push rfl rfl rfl (c_push_row _ _ _ _ (by first | omega | (simp (decide := true) only [am_u_at, am_u_j, am_u_ne]; omega))) ?_; rintro r I ⟨rfl, rfl⟩)
    | (refine am_cV (y' := Y_ju_forget) rfl lk_es_84 ok_ju_forget rfl rfl rfl (c_ju_forget _ _) ?_; rintro r I ⟨rfl, rfl⟩)
    | (refine am_rt rfl (by first | trivial | exact Or.inl rfl | exact Or.inr rfl) ?_))
  all_goals try simp (decide := true) only [am_u_at, am_u_j, am_u_ne]
  all_goals first
    | (refine Or.inl ⟨by omega, ?_⟩; first | trivial | exact rfl | exact ⟨rfl, rfl⟩ | (refine ⟨?_, rfl⟩; congr 2; omega))
    | (refine Or.inr (Or.inl ⟨by omega, ?_⟩); first | trivial | exact rfl | exact ⟨rfl, rfl⟩ | (refine ⟨?_, rfl⟩; congr 2; omega))
    | (refine Or.inr (Or.inr (⟨by omega, ?_⟩)); first | trivial | exact rfl | exact ⟨rfl, rfl⟩ | (refine ⟨?_, rfl⟩; congr 2; omega))
theorem c_mo_note (d : Nat) (x z : Int) (I : am_I) (hx : (-2147483648 ≤ x ∧ x < 2147483648)) (hz : (-2147483648 ≤ z ∧ z < 2147483648)) (hn : 0 ≤ I 44 0 ∧ I 44 0 ≤ 24) :
    am_C (d + 1) Y_mo_note [.inr (.inr 44), .inl x, .inl z] I (fun r I' => (¬ (0 ≤ x ∧ x ≤ 127 ∧ 1 ≤ z ∧ z ≤ 96) ∧ r = some (.inl (-2)) ∧ I' = I) ∨ (((0 ≤ x ∧ x ≤ 127 ∧ 1 ≤ z ∧ z ≤ 96) ∧ I 44 0 = 24) ∧ r = some (.inl (-4)) ∧ I' = I) ∨ (((0 ≤ x ∧ x ≤ 127 ∧ 1 ≤ z ∧ z ≤ 96) ∧ I 44 0 < 24) ∧ r = some (.inl (I 44 0 + 1)) ∧ I' = am_u (am_u (am_u (am_u I 45 (I 44 0).toNat x) 46 (I 44 0).toNat z) 44 0 (I 44 0 + 1)) 44 6 0)) := by
  refine am_enter ok_mo_note rfl ?_
  repeat' (first
    | (refine am_gp 80 [] rfl (by first | trivial | exact Or.inl rfl | exact Or.inr rfl | (simp (decide := true) only [am_p, am_u_at, am_u_j, am_u_ne]; omega) | (simp (decide := true) only [am_p, and_true, true_and, true_or, or_true, am_u_at, am_u_j, am_u_ne]; omega) | (simp (decide := true) [am_p, am_u_at, am_u_j, am_u_ne]; omega)) ?_)
    | (show am_V _ _ _ _ _ _ _; simp only [Int.reduceToNat])
    | (refine am_bt rfl (by first | omega | (simp (decide := true) only [am_u_at, am_u_j, am_u_ne]; omega)) (by first | omega | (simp (decide := true) only [am_u_at, am_u_j, am_u_ne]; omega)) ?_)
    | (refine am_bf rfl (by first | omega | (simp (decide := true) only [am_u_at, am_u_j, am_u_ne]; omega)) (by first | omega | (simp (decide := true) only [am_u_at, am_u_j, am_u_ne]; omega)) ?_)
    | (refine am_br rfl (by first | omega | (simp (decide := true) only [am_u_at, am_u_j, am_u_ne]; omega)) (fun h => ?_) (fun h => ?_))
    | (refine am_cS (y' := Y_mo_in) rfl lk_mo_114 ok_mo_in rfl rfl (c_mo_in _ _ _ _ _ (by first | omega | (simp (decide := true) only [am_u_at, am_u_j, am_u_ne]; omega)) (by first | omega | (simp (decide := true) only [am_u_at, am_u_j, am_u_ne]; omega)) (by first | omega | (simp (decide := true) only [am_u_at, am_u_j, am_u_ne]; omega))) ?_; rintro r I ⟨rfl, (⟨rfl, h⟩ | ⟨rfl, h⟩)⟩ <;> (try (exfalso; omega)))
    | (refine am_rt rfl (by first | trivial | exact Or.inl rfl | exact Or.inr rfl) ?_))
  all_goals try simp (decide := true) only [am_u_at, am_u_j, am_u_ne]
  all_goals first
    | (refine Or.inl ⟨by omega, ?_⟩; first | trivial | exact rfl | exact ⟨rfl, rfl⟩ | (refine ⟨?_, rfl⟩; congr 2; omega))
    | (refine Or.inr (Or.inl ⟨by omega, ?_⟩); first | trivial | exact rfl | exact ⟨rfl, rfl⟩ | (refine ⟨?_, rfl⟩; congr 2; omega))
    | (refine Or.inr (Or.inr (⟨by omega, ?_⟩)); first | trivial | exact rfl | exact ⟨rfl, rfl⟩ | (refine ⟨?_, rfl⟩; congr 2; omega))
theorem c_es_drop (d : Nat) (I : am_I) : am_C (d + 1) Y_es_drop [.inr (.inr 0)] I (fun r I' => True ∧ r = some (.inl (I 1 2)) ∧ I' = am_u (am_u I 1 2 0) 23 9 0) := by
  refine am_enter ok_es_drop rfl ?_
  repeat' (first
    | (refine am_gp 80 [] rfl (by first | trivial | exact Or.inl rfl | exact Or.inr rfl | (simp (decide := true) only [am_p, am_u_at, am_u_j, am_u_ne]; omega) | (simp (decide := true) only [am_p, and_true, true_and, true_or, or_true, am_u_at, am_u_j, am_u_ne]; omega) | (simp (decide := true) [am_p, am_u_at, am_u_j, am_u_ne]; omega)) ?_)
    | (show am_V _ _ _ _ _ _ _; simp only [Int.reduceToNat])
    | (refine am_bt rfl (by first | omega | (simp (decide := true) only [am_u_at, am_u_j, am_u_ne]; omega)) (by first | omega | (simp (decide := true) only [am_u_at, am_u_j, am_u_ne]; omega)) ?_)
    | (refine am_bf rfl (by first | omega | (simp (decide := true) only [am_u_at, am_u_j, am_u_ne]; omega)) (by first | omega | (simp (decide := true) only [am_u_at, am_u_j, am_u_ne]; omega)) ?_)
    | (refine am_br rfl (by first | omega | (simp (decide := true) only [am_u_at, am_u_j, am_u_ne]; omega)) (fun h => ?_) (fun h => ?_))
    | (refine am_cV (y' := Y_ju_forget) rfl lk_es_84 ok_ju_forget rfl rfl rfl (c_ju_forget _ _) ?_; rintro r I ⟨rfl, rfl⟩)
    | (refine am_rt rfl (by first | trivial | exact Or.inl rfl | exact Or.inr rfl) ?_))
  exact ⟨trivial, rfl, rfl⟩
theorem c_mo_drop (d : Nat) (I : am_I) : am_C d Y_mo_drop [.inr (.inr 44)] I (fun r I' => True ∧ r = some (.inl (I 44 0)) ∧ I' = am_u (am_u I 44 0 0) 44 6 0) := by
  refine am_enter ok_mo_drop rfl ?_
  repeat' (first
    | (refine am_gp 80 [] rfl (by first | trivial | exact Or.inl rfl | exact Or.inr rfl | (simp (decide := true) only [am_p, am_u_at, am_u_j, am_u_ne]; omega) | (simp (decide := true) only [am_p, and_true, true_and, true_or, or_true, am_u_at, am_u_j, am_u_ne]; omega) | (simp (decide := true) [am_p, am_u_at, am_u_j, am_u_ne]; omega)) ?_)
    | (show am_V _ _ _ _ _ _ _; simp only [Int.reduceToNat])
    | (refine am_bt rfl (by first | omega | (simp (decide := true) only [am_u_at, am_u_j, am_u_ne]; omega)) (by first | omega | (simp (decide := true) only [am_u_at, am_u_j, am_u_ne]; omega)) ?_)
    | (refine am_bf rfl (by first | omega | (simp (decide := true) only [am_u_at, am_u_j, am_u_ne]; omega)) (by first | omega | (simp (decide := true) only [am_u_at, am_u_j, am_u_ne]; omega)) ?_)
    | (refine am_br rfl (by first | omega | (simp (decide := true) only [am_u_at, am_u_j, am_u_ne]; omega)) (fun h => ?_) (fun h => ?_))
    | (refine am_rt rfl (by first | trivial | exact Or.inl rfl | exact Or.inr rfl) ?_))
  exact ⟨trivial, rfl, rfl⟩
theorem c_es_at (d : Nat) (i w : Int) (I : am_I) (hi : (-2147483648 ≤ i ∧ i < 2147483648)) (hw : (-2147483648 ≤ w ∧ w < 2147483648)) (hn : 0 ≤ I 1 2 ∧ I 1 2 ≤ 24) : am_C (d + 1) Y_es_at [.inr (.inr 0), .inl i, .inl w] I (fun r I' => (¬ ((0 ≤ i ∧ i < I 1 2) ∧ (0 ≤ w ∧ w ≤ 1)) ∧ r = some (.inl (-2)) ∧ I' = I) ∨ (((0 ≤ i ∧ i < I 1 2) ∧ w = 0) ∧ r = some (.inl (I 2 i.toNat)) ∧ I' = I) ∨ (((0 ≤ i ∧ i < I 1 2) ∧ w = 1) ∧ r = some (.inl (I 3 i.toNat)) ∧ I' = I)) := by
  refine am_enter ok_es_at rfl ?_
  repeat' (first
    | (refine am_gp 80 [] rfl (by first | trivial | exact Or.inl rfl | exact Or.inr rfl | (simp (decide := true) only [am_p, am_u_at, am_u_j, am_u_ne]; omega) | (simp (decide := true) only [am_p, and_true, true_and, true_or, or_true, am_u_at, am_u_j, am_u_ne]; omega) | (simp (decide := true) [am_p, am_u_at, am_u_j, am_u_ne]; omega)) ?_)
    | (show am_V _ _ _ _ _ _ _; simp only [Int.reduceToNat])
    | (refine am_bt rfl (by first | omega | (simp (decide := true) only [am_u_at, am_u_j, am_u_ne]; omega)) (by first | omega | (simp (decide := true) only [am_u_at, am_u_j, am_u_ne]; omega)) ?_)
    | (refine am_bf rfl (by first | omega | (simp (decide := true) only [am_u_at, am_u_j, am_u_ne]; omega)) (by first | omega | (simp (decide := true) only [am_u_at, am_u_j, am_u_ne]; omega)) ?_)
    | (refine am_br rfl (by first | omega | (simp (decide := true) only [am_u_at, am_u_j, am_u_ne]; omega)) (fun h => ?_) (fun h => ?_))
    | (refine am_cS (y' := Y_es_outside) rfl lk_es_72 ok_es_outside rfl rfl (c_outside _ _ _ _ _ (by first | omega | (simp (decide := true) only [am_u_at, am_u_j, am_u_ne]; omega)) (by first | omega | (simp (decide := true) only [am_u_at, am_u_j, am_u_ne]; omega)) (by first | omega | (simp (decide := true) only [am_u_at, am_u_j, am_u_ne]; omega))) ?_; rintro r I ⟨rfl, (⟨rfl, h⟩ | ⟨rfl, h⟩)⟩ <;> (try (exfalso; omega)))
    | (refine am_rt rfl (by first | trivial | exact Or.inl rfl | exact Or.inr rfl) ?_))
  all_goals try simp (decide := true) only [am_u_at, am_u_j, am_u_ne]
  all_goals first
    | (refine Or.inl ⟨by omega, ?_⟩; first | trivial | exact rfl | exact ⟨rfl, rfl⟩ | (refine ⟨?_, rfl⟩; congr 2; omega))
    | (refine Or.inr (Or.inl ⟨by omega, ?_⟩); first | trivial | exact rfl | exact ⟨rfl, rfl⟩ | (refine ⟨?_, rfl⟩; congr 2; omega))
    | (refine Or.inr (Or.inr (⟨by omega, ?_⟩)); first | trivial | exact rfl | exact ⟨rfl, rfl⟩ | (refine ⟨?_, rfl⟩; congr 2; omega))
theorem c_mo_at (d : Nat) (i w : Int) (I : am_I) (hi : (-2147483648 ≤ i ∧ i < 2147483648)) (hw : (-2147483648 ≤ w ∧ w < 2147483648)) (hn : 0 ≤ I 44 0 ∧ I 44 0 ≤ 24) : am_C (d + 1) Y_mo_at [.inr (.inr 44), .inl i, .inl w] I (fun r I' => (¬ ((0 ≤ i ∧ i < I 44 0) ∧ (0 ≤ w ∧ w ≤ 1)) ∧ r = some (.inl (-2)) ∧ I' = I) ∨ (((0 ≤ i ∧ i < I 44 0) ∧ w = 0) ∧ r = some (.inl (I 45 i.toNat)) ∧ I' = I) ∨ (((0 ≤ i ∧ i < I 44 0) ∧ w = 1) ∧ r = some (.inl (I 46 i.toNat)) ∧ I' = I)) := by
  refine am_enter ok_mo_at rfl ?_
  repeat' (first
    | (refine am_gp 80 [] rfl (by first | trivial | exact Or.inl rfl | exact Or.inr rfl | (simp (decide := true) only [am_p, am_u_at, am_u_j, am_u_ne]; omega) | (simp (decide := true) only [am_p, and_true, true_and, true_or, or_true, am_u_at, am_u_j, am_u_ne]; omega) | (simp (decide := true) [am_p, am_u_at, am_u_j, am_u_ne]; omega)) ?_)
    | (show am_V _ _ _ _ _ _ _; simp only [Int.reduceToNat])
    | (refine am_bt rfl (by first | omega | (simp (decide := true) only [am_u_at, am_u_j, am_u_ne]; omega)) (by first | omega | (simp (decide := true) only [am_u_at, am_u_j, am_u_ne]; omega)) ?_)
    | (refine am_bf rfl (by first | omega | (simp (decide := true) only [am_u_at, am_u_j, am_u_ne]; omega)) (by first | omega | (simp (decide := true) only [am_u_at, am_u_j, am_u_ne]; omega)) ?_)
    | (refine am_br rfl (by first | omega | (simp (decide := true) only [am_u_at, am_u_j, am_u_ne]; omega)) (fun h => ?_) (fun h => ?_))
    | (refine am_cS (y' := Y_mo_in) rfl lk_mo_114 ok_mo_in rfl rfl (c_mo_in _ _ _ _ _ (by first | omega | (simp (decide := true) only [am_u_at, am_u_j, am_u_ne]; omega)) (by first | omega | (simp (decide := true) only [am_u_at, am_u_j, am_u_ne]; omega)) (by first | omega | (simp (decide := true) only [am_u_at, am_u_j, am_u_ne]; omega))) ?_; rintro r I ⟨rfl, (⟨rfl, h⟩ | ⟨rfl, h⟩)⟩ <;> (try (exfalso; omega)))
    | (refine am_rt rfl (by first | trivial | exact Or.inl rfl | exact Or.inr rfl) ?_))
  all_goals try simp (decide := true) only [am_u_at, am_u_j, am_u_ne]
  all_goals first
    | (refine Or.inl ⟨by omega, ?_⟩; first | trivial | exact rfl | exact ⟨rfl, rfl⟩ | (refine ⟨?_, rfl⟩; congr 2; omega))
    | (refine Or.inr (Or.inl ⟨by omega, ?_⟩); first | trivial | exact rfl | exact ⟨rfl, rfl⟩ | (refine ⟨?_, rfl⟩; congr 2; omega))
    | (refine Or.inr (Or.inr (⟨by omega, ?_⟩)); first | trivial | exact rfl | exact ⟨rfl, rfl⟩ | (refine ⟨?_, rfl⟩; congr 2; omega))
theorem c_es_range (d : Nat) (l h n : Int) (I : am_I) (hl : (-2147483648 ≤ l ∧ l < 2147483648)) (hh : (-2147483648 ≤ h ∧ h < 2147483648)) (hn : (-2147483648 ≤ n ∧ n < 2147483648)) : am_C (d + 1) Y_es_range [.inr (.inr 0), .inl l, .inl h, .inl n] I (fun r I' => (¬ ((0 ≤ l ∧ l ≤ 127) ∧ (l ≤ h ∧ h ≤ 127) ∧ h - l ≤ 36 ∧ (1 ≤ n ∧ n ≤ 16)) ∧ r = some (.inl (-2)) ∧ I' = I) ∨ (((0 ≤ l ∧ l ≤ 127) ∧ (l ≤ h ∧ h ≤ 127) ∧ h - l ≤ 36 ∧ (1 ≤ n ∧ n ≤ 16)) ∧ r = some (.inl 1) ∧ I' = am_u (am_u (am_u (am_u I 7 1 l) 7 2 h) 7 3 n) 9 2 0)) := by
  refine am_enter ok_es_range rfl ?_
  repeat' (first
    | (refine am_gp 80 [] rfl (by first | trivial | exact Or.inl rfl | exact Or.inr rfl | (simp (decide := true) only [am_p, am_u_at, am_u_j, am_u_ne]; omega) | (simp (decide := true) only [am_p, and_true, true_and, true_or, or_true, am_u_at, am_u_j, am_u_ne]; omega) | (simp (decide := true) [am_p, am_u_at, am_u_j, am_u_ne]; omega)) ?_)
    | (show am_V _ _ _ _ _ _ _; simp only [Int.reduceToNat])
    | (refine am_bt rfl (by first | omega | (simp (decide := true) only [am_u_at, am_u_j, am_u_ne]; omega)) (by first | omega | (simp (decide := true) only [am_u_at, am_u_j, am_u_ne]; omega)) ?_)
    | (refine am_bf rfl (by first | omega | (simp (decide := true) only [am_u_at, am_u_j, am_u_ne]; omega)) (by first | omega | (simp (decide := true) only [am_u_at, am_u_j, am_u_ne]; omega)) ?_)
    | (refine am_br rfl (by first | omega | (simp (decide := true) only [am_u_at, am_u_j, am_u_ne]; omega)) (fun h => ?_) (fun h => ?_))
    | (refine am_cS (y' := Y_es_outside) rfl lk_es_72 ok_es_outside rfl rfl (c_outside _ _ _ _ _ (by first | omega | (simp (decide := true) only [am_u_at, am_u_j, am_u_ne]; omega)) (by first | omega | (simp (decide := true) only [am_u_at, am_u_j, am_u_ne]; omega)) (by first | omega | (simp (decide := true) only [am_u_at, am_u_j, am_u_ne]; omega))) ?_; rintro r I ⟨rfl, (⟨rfl, h⟩ | ⟨rfl, h⟩)⟩ <;> (try (exfalso; omega)))
    | (refine am_cU (y' := Y_mt_forget) rfl lk_es_103_ct ok_mt_forget rfl rfl rfl (c_ct_forget _ _) ?_; rintro r I ⟨rfl, rfl⟩)
    | (refine am_rt rfl (by first | trivial | exact Or.inl rfl | exact Or.inr rfl) ?_))
  all_goals try simp (decide := true) only [am_u_at, am_u_j, am_u_ne]
  all_goals first
    | (refine Or.inl ⟨by omega, ?_⟩; first | trivial | exact rfl | exact ⟨rfl, rfl⟩ | (refine ⟨?_, rfl⟩; congr 2; omega))
    | (refine Or.inr (⟨by omega, ?_⟩); first | trivial | exact rfl | exact ⟨rfl, rfl⟩ | (refine ⟨?_, rfl⟩; congr 2; omega))
theorem c_mo_range (d : Nat) (l h n : Int) (I : am_I) (hl : (-2147483648 ≤ l ∧ l < 2147483648)) (hh : (-2147483648 ≤ h ∧ h < 2147483648)) (hn : (-2147483648 ≤ n ∧ n < 2147483648)) : am_C (d + 1) Y_mo_range [.inr (.inr 44), .inl l, .inl h, .inl n] I (fun r I' => (¬ ((0 ≤ l ∧ l ≤ 127) ∧ (l ≤ h ∧ h ≤ 127) ∧ h - l ≤ 36 ∧ (1 ≤ n ∧ n ≤ 16)) ∧ r = some (.inl (-2)) ∧ I' = I) ∨ (((0 ≤ l ∧ l ≤ 127) ∧ (l ≤ h ∧ h ≤ 127) ∧ h - l ≤ 36 ∧ (1 ≤ n ∧ n ≤ 16)) ∧ r = some (.inl 1) ∧ I' = am_u (am_u (am_u I 44 7 l) 44 8 h) 44 9 n)) := by
  refine am_enter ok_mo_range rfl ?_
  repeat' (first
    | (refine am_gp 80 [] rfl (by first | trivial | exact Or.inl rfl | exact Or.inr rfl | (simp (decide := true) only [am_p, am_u_at, am_u_j, am_u_ne]; omega) | (simp (decide := true) only [am_p, and_true, true_and, true_or, or_true, am_u_at, am_u_j, am_u_ne]; omega) | (simp (decide := true) [am_p, am_u_at, am_u_j, am_u_ne]; omega)) ?_)
    | (show am_V _ _ _ _ _ _ _; simp only [Int.reduceToNat])
    | (refine am_bt rfl (by first | omega | (simp (decide := true) only [am_u_at, am_u_j, am_u_ne]; omega)) (by first | omega | (simp (decide := true) only [am_u_at, am_u_j, am_u_ne]; omega)) ?_)
    | (refine am_bf rfl (by first | omega | (simp (decide := true) only [am_u_at, am_u_j, am_u_ne]; omega)) (by first | omega | (simp (decide := true) only [am_u_at, am_u_j, am_u_ne]; omega)) ?_)
    | (refine am_br rfl (by first | omega | (simp (decide := true) only [am_u_at, am_u_j, am_u_ne]; omega)) (fun h => ?_) (fun h => ?_))
    | (refine am_cS (y' := Y_mo_in) rfl lk_mo_114 ok_mo_in rfl rfl (c_mo_in _ _ _ _ _ (by first | omega | (simp (decide := true) only [am_u_at, am_u_j, am_u_ne]; omega)) (by first | omega | (simp (decide := true) only [am_u_at, am_u_j, am_u_ne]; omega)) (by first | omega | (simp (decide := true) only [am_u_at, am_u_j, am_u_ne]; omega))) ?_; rintro r I ⟨rfl, (⟨rfl, h⟩ | ⟨rfl, h⟩)⟩ <;> (try (exfalso; omega)))
    | (refine am_rt rfl (by first | trivial | exact Or.inl rfl | exact Or.inr rfl) ?_))
  all_goals try simp (decide := true) only [am_u_at, am_u_j, am_u_ne]
  all_goals first
    | (refine Or.inl ⟨by omega, ?_⟩; first | trivial | exact rfl | exact ⟨rfl, rfl⟩ | (refine ⟨?_, rfl⟩; congr 2; omega))
    | (refine Or.inr (⟨by omega, ?_⟩); first | trivial | exact rfl | exact ⟨rfl, rfl⟩ | (refine ⟨?_, rfl⟩; congr 2; omega))
theorem c_es_bits (d : Nat) (w v : Int) (I : am_I) (hw : (-2147483648 ≤ w ∧ w < 2147483648)) (hv : (-2147483648 ≤ v ∧ v < 2147483648)) : am_C (d + 1) Y_es_bits [.inr (.inr 0), .inl w, .inl v] I (fun r I' => (¬ ((0 ≤ w ∧ w ≤ 2 ∧ 0 ≤ v ∧ v ≤ 4095) ∨ (w = 3 ∧ 0 ≤ v ∧ v ≤ 33554431)) ∧ r = some (.inl (-2)) ∧ I' = I) ∨ (((0 ≤ w ∧ w ≤ 2 ∧ 0 ≤ v ∧ v ≤ 4095) ∨ (w = 3 ∧ 0 ≤ v ∧ v ≤ 33554431)) ∧ r = some (.inl (I 8 w.toNat)) ∧ I' = am_u (am_u I 8 w.toNat v) 9 2 0)) := by
  refine am_enter ok_es_bits rfl ?_
  repeat' (first
    | (refine am_gp 80 [] rfl (by first | trivial | exact Or.inl rfl | exact Or.inr rfl | (simp (decide := true) only [am_p, am_u_at, am_u_j, am_u_ne]; omega) | (simp (decide := true) only [am_p, and_true, true_and, true_or, or_true, am_u_at, am_u_j, am_u_ne]; omega) | (simp (decide := true) [am_p, am_u_at, am_u_j, am_u_ne]; omega)) ?_)
    | (show am_V _ _ _ _ _ _ _; simp only [Int.reduceToNat])
    | (refine am_bt rfl (by first | omega | (simp (decide := true) only [am_u_at, am_u_j, am_u_ne]; omega)) (by first | omega | (simp (decide := true) only [am_u_at, am_u_j, am_u_ne]; omega)) ?_)
    | (refine am_bf rfl (by first | omega | (simp (decide := true) only [am_u_at, am_u_j, am_u_ne]; omega)) (by first | omega | (simp (decide := true) only [am_u_at, am_u_j, am_u_ne]; omega)) ?_)
    | (refine am_br rfl (by first | omega | (simp (decide := true) only [am_u_at, am_u_j, am_u_ne]; omega)) (fun h => ?_) (fun h => ?_))
    | (refine am_cS (y' := Y_es_outside) rfl lk_es_72 ok_es_outside rfl rfl (c_outside _ _ _ _ _ (by first | omega | (simp (decide := true) only [am_u_at, am_u_j, am_u_ne]; omega)) (by first | omega | (simp (decide := true) only [am_u_at, am_u_j, am_u_ne]; omega)) (by first | omega | (simp (decide := true) only [am_u_at, am_u_j, am_u_ne]; omega))) ?_; rintro r I ⟨rfl, (⟨rfl, h⟩ | ⟨rfl, h⟩)⟩ <;> (try (exfalso; omega)))
    | (refine am_cU (y' := Y_mt_forget) rfl lk_es_103_ct ok_mt_forget rfl rfl rfl (c_ct_forget _ _) ?_; rintro r I ⟨rfl, rfl⟩)
    | (refine am_rt rfl (by first | trivial | exact Or.inl rfl | exact Or.inr rfl) ?_))
  all_goals try simp (decide := true) only [am_u_at, am_u_j, am_u_ne]
  all_goals first
    | (refine Or.inl ⟨by omega, ?_⟩; first | trivial | exact rfl | exact ⟨rfl, rfl⟩ | (refine ⟨?_, rfl⟩; congr 2; omega))
    | (refine Or.inr (⟨by omega, ?_⟩); first | trivial | exact rfl | exact ⟨rfl, rfl⟩ | (refine ⟨?_, rfl⟩; congr 2; omega))
theorem c_mo_bits (d : Nat) (w v : Int) (I : am_I) (hw : (-2147483648 ≤ w ∧ w < 2147483648)) (hv : (-2147483648 ≤ v ∧ v < 2147483648)) : am_C (d + 1) Y_mo_bits [.inr (.inr 44), .inl w, .inl v] I (fun r I' => (¬ ((0 ≤ w ∧ w ≤ 2 ∧ 0 ≤ v ∧ v ≤ 4095) ∨ (w = 3 ∧ 0 ≤ v ∧ v ≤ 33554431)) ∧ r = some (.inl (-2)) ∧ I' = I) ∨ ((w = 0 ∧ 0 ≤ v ∧ v ≤ 4095) ∧ r = some (.inl (I 44 10)) ∧ I' = am_u I 44 10 v) ∨ ((w = 1 ∧ 0 ≤ v ∧ v ≤ 4095) ∧ r = some (.inl (I 44 11)) ∧ I' = am_u I 44 11 v) ∨ ((w = 2 ∧ 0 ≤ v ∧ v ≤ 4095) ∧ r = some (.inl (I 44 12)) ∧ I' = am_u I 44 12 v) ∨ ((w = 3 ∧ 0 ≤ v ∧ v ≤ 33554431) ∧ r = some (.inl (I 44 13)) ∧ I' = am_u I 44 13 v)) := by
  refine am_enter ok_mo_bits rfl ?_
  repeat' (first
    | (refine am_gp 80 [] rfl (by first | trivial | exact Or.inl rfl | exact Or.inr rfl | (simp (decide := true) only [am_p, am_u_at, am_u_j, am_u_ne]; omega) | (simp (decide := true) only [am_p, and_true, true_and, true_or, or_true, am_u_at, am_u_j, am_u_ne]; omega) | (simp (decide := true) [am_p, am_u_at, am_u_j, am_u_ne]; omega)) ?_)
    | (show am_V _ _ _ _ _ _ _; simp only [Int.reduceToNat])
    | (refine am_bt rfl (by first | omega | (simp (decide := true) only [am_u_at, am_u_j, am_u_ne]; omega)) (by first | omega | (simp (decide := true) only [am_u_at, am_u_j, am_u_ne]; omega)) ?_)
    | (refine am_bf rfl (by first | omega | (simp (decide := true) only [am_u_at, am_u_j, am_u_ne]; omega)) (by first | omega | (simp (decide := true) only [am_u_at, am_u_j, am_u_ne]; omega)) ?_)
    | (refine am_br rfl (by first | omega | (simp (decide := true) only [am_u_at, am_u_j, am_u_ne]; omega)) (fun h => ?_) (fun h => ?_))
    | (refine am_cS (y' := Y_mo_in) rfl lk_mo_114 ok_mo_in rfl rfl (c_mo_in _ _ _ _ _ (by first | omega | (simp (decide := true) only [am_u_at, am_u_j, am_u_ne]; omega)) (by first | omega | (simp (decide := true) only [am_u_at, am_u_j, am_u_ne]; omega)) (by first | omega | (simp (decide := true) only [am_u_at, am_u_j, am_u_ne]; omega))) ?_; rintro r I ⟨rfl, (⟨rfl, h⟩ | ⟨rfl, h⟩)⟩ <;> (try (exfalso; omega)))
    | (refine am_rt rfl (by first | trivial | exact Or.inl rfl | exact Or.inr rfl) ?_))
  all_goals try simp (decide := true) only [am_u_at, am_u_j, am_u_ne]
  all_goals first
    | (refine Or.inl ⟨by omega, ?_⟩; first | trivial | exact rfl | exact ⟨rfl, rfl⟩ | (refine ⟨?_, rfl⟩; congr 2; omega))
    | (refine Or.inr (Or.inl ⟨by omega, ?_⟩); first | trivial | exact rfl | exact ⟨rfl, rfl⟩ | (refine ⟨?_, rfl⟩; congr 2; omega))
    | (refine Or.inr (Or.inr (Or.inl ⟨by omega, ?_⟩)); first | trivial | exact rfl | exact ⟨rfl, rfl⟩ | (refine ⟨?_, rfl⟩; congr 2; omega))
    | (refine Or.inr (Or.inr (Or.inr (Or.inl ⟨by omega, ?_⟩))); first | trivial | exact rfl | exact ⟨rfl, rfl⟩ | (refine ⟨?_, rfl⟩; congr 2; omega))
    | (refine Or.inr (Or.inr (Or.inr (Or.inr (⟨by omega, ?_⟩)))); first | trivial | exact rfl | exact ⟨rfl, rfl⟩ | (refine ⟨?_, rfl⟩; congr 2; omega))
theorem c_es_bound (d : Nat) (w v : Int) (I : am_I) (hw : (-2147483648 ≤ w ∧ w < 2147483648)) (hv : (-2147483648 ≤ v ∧ v < 2147483648)) : am_C (d + 1) Y_es_bound [.inr (.inr 0), .inl w, .inl v] I (fun r I' => (¬ ((w = 0 ∧ 1 ≤ v ∧ v ≤ 13) ∨ (w = 1 ∧ 0 ≤ v ∧ v ≤ 15)) ∧ r = some (.inl (-2)) ∧ I' = I) ∨ ((w = 0 ∧ 1 ≤ v ∧ v ≤ 13) ∧ r = some (.inl (I 7 4)) ∧ I' = am_u (am_u I 7 4 v) 9 2 0) ∨ ((w = 1 ∧ 0 ≤ v ∧ v ≤ 15) ∧ r = some (.inl (I 7 5)) ∧ I' = am_u (am_u I 7 5 v) 9 2 0)) := by
  refine am_enter ok_es_bound rfl ?_
  repeat' (first
    | (refine am_gp 80 [] rfl (by first | trivial | exact Or.inl rfl | exact Or.inr rfl | (simp (decide := true) only [am_p, am_u_at, am_u_j, am_u_ne]; omega) | (simp (decide := true) only [am_p, and_true, true_and, true_or, or_true, am_u_at, am_u_j, am_u_ne]; omega) | (simp (decide := true) [am_p, am_u_at, am_u_j, am_u_ne]; omega)) ?_)
    | (show am_V _ _ _ _ _ _ _; simp only [Int.reduceToNat])
    | (refine am_bt rfl (by first | omega | (simp (decide := true) only [am_u_at, am_u_j, am_u_ne]; omega)) (by first | omega | (simp (decide := true) only [am_u_at, am_u_j, am_u_ne]; omega)) ?_)
    | (refine am_bf rfl (by first | omega | (simp (decide := true) only [am_u_at, am_u_j, am_u_ne]; omega)) (by first | omega | (simp (decide := true) only [am_u_at, am_u_j, am_u_ne]; omega)) ?_)
    | (refine am_br rfl (by first | omega | (simp (decide := true) only [am_u_at, am_u_j, am_u_ne]; omega)) (fun h => ?_) (fun h => ?_))
    | (refine am_cS (y' := Y_es_outside) rfl lk_es_72 ok_es_outside rfl rfl (c_outside _ _ _ _ _ (by first | omega | (simp (decide := true) only [am_u_at, am_u_j, am_u_ne]; omega)) (by first | omega | (simp (decide := true) only [am_u_at, am_u_j, am_u_ne]; omega)) (by first | omega | (simp (decide := true) only [am_u_at, am_u_j, am_u_ne]; omega))) ?_; rintro r I ⟨rfl, (⟨rfl, h⟩ | ⟨rfl, h⟩)⟩ <;> (try (exfalso; omega)))
    | (refine am_cU (y' := Y_mt_forget) rfl lk_es_103_ct ok_mt_forget rfl rfl rfl (c_ct_forget _ _) ?_; rintro r I ⟨rfl, rfl⟩)
    | (refine am_rt rfl (by first | trivial | exact Or.inl rfl | exact Or.inr rfl) ?_))
  all_goals try simp (decide := true) only [am_u_at, am_u_j, am_u_ne]
  all_goals first
    | (refine Or.inl ⟨by omega, ?_⟩; first | trivial | exact rfl | exact ⟨rfl, rfl⟩ | (refine ⟨?_, rfl⟩; congr 2; omega))
    | (refine Or.inr (Or.inl ⟨by omega, ?_⟩); first | trivial | exact rfl | exact ⟨rfl, rfl⟩ | (refine ⟨?_, rfl⟩; congr 2; omega))
    | (refine Or.inr (Or.inr (⟨by omega, ?_⟩)); first | trivial | exact rfl | exact ⟨rfl, rfl⟩ | (refine ⟨?_, rfl⟩; congr 2; omega))
theorem c_mo_bound (d : Nat) (w v : Int) (I : am_I) (hw : (-2147483648 ≤ w ∧ w < 2147483648)) (hv : (-2147483648 ≤ v ∧ v < 2147483648)) : am_C (d + 1) Y_mo_bound [.inr (.inr 44), .inl w, .inl v] I (fun r I' => (¬ ((w = 0 ∧ 1 ≤ v ∧ v ≤ 13) ∨ (w = 1 ∧ 0 ≤ v ∧ v ≤ 15)) ∧ r = some (.inl (-2)) ∧ I' = I) ∨ ((w = 0 ∧ 1 ≤ v ∧ v ≤ 13) ∧ r = some (.inl (I 44 14)) ∧ I' = am_u I 44 14 v) ∨ ((w = 1 ∧ 0 ≤ v ∧ v ≤ 15) ∧ r = some (.inl (I 44 15)) ∧ I' = am_u I 44 15 v)) := by
  refine am_enter ok_mo_bound rfl ?_
  repeat' (first
    | (refine am_gp 80 [] rfl (by first | trivial | exact Or.inl rfl | exact Or.inr rfl | (simp (decide := true) only [am_p, am_u_at, am_u_j, am_u_ne]; omega) | (simp (decide := true) only [am_p, and_true, true_and, true_or, or_true, am_u_at, am_u_j, am_u_ne]; omega) | (simp (decide := true) [am_p, am_u_at, am_u_j, am_u_ne]; omega)) ?_)
    | (show am_V _ _ _ _ _ _ _; simp only [Int.reduceToNat])
    | (refine am_bt rfl (by first | omega | (simp (decide := true) only [am_u_at, am_u_j, am_u_ne]; omega)) (by first | omega | (simp (decide := true) only [am_u_at, am_u_j, am_u_ne]; omega)) ?_)
    | (refine am_bf rfl (by first | omega | (simp (decide := true) only [am_u_at, am_u_j, am_u_ne]; omega)) (by first | omega | (simp (decide := true) only [am_u_at, am_u_j, am_u_ne]; omega)) ?_)
    | (refine am_br rfl (by first | omega | (simp (decide := true) only [am_u_at, am_u_j, am_u_ne]; omega)) (fun h => ?_) (fun h => ?_))
    | (refine am_cS (y' := Y_mo_in) rfl lk_mo_114 ok_mo_in rfl rfl (c_mo_in _ _ _ _ _ (by first | omega | (simp (decide := true) only [am_u_at, am_u_j, am_u_ne]; omega)) (by first | omega | (simp (decide := true) only [am_u_at, am_u_j, am_u_ne]; omega)) (by first | omega | (simp (decide := true) only [am_u_at, am_u_j, am_u_ne]; omega))) ?_; rintro r I ⟨rfl, (⟨rfl, h⟩ | ⟨rfl, h⟩)⟩ <;> (try (exfalso; omega)))
    | (refine am_rt rfl (by first | trivial | exact Or.inl rfl | exact Or.inr rfl) ?_))
  all_goals try simp (decide := true) only [am_u_at, am_u_j, am_u_ne]
  all_goals first
    | (refine Or.inl ⟨by omega, ?_⟩; first | trivial | exact rfl | exact ⟨rfl, rfl⟩ | (refine ⟨?_, rfl⟩; congr 2; omega))
    | (refine Or.inr (Or.inl ⟨by omega, ?_⟩); first | trivial | exact rfl | exact ⟨rfl, rfl⟩ | (refine ⟨?_, rfl⟩; congr 2; omega))
    | (refine Or.inr (Or.inr (⟨by omega, ?_⟩)); first | trivial | exact rfl | exact ⟨rfl, rfl⟩ | (refine ⟨?_, rfl⟩; congr 2; omega))
theorem c_es_bars (d : Nat) (a b : Int) (I : am_I) (ha : (-2147483648 ≤ a ∧ a < 2147483648)) (hb : (-2147483648 ≤ b ∧ b < 2147483648)) : am_C (d + 1) Y_es_bars [.inr (.inr 0), .inl a, .inl b] I (fun r I' => (¬ ((1 ≤ a ∧ a ≤ 6) ∧ (1 ≤ b ∧ b ≤ 96)) ∧ r = some (.inl (-2)) ∧ I' = I) ∨ (((1 ≤ a ∧ a ≤ 6) ∧ (1 ≤ b ∧ b ≤ 96)) ∧ r = some (.inl 1) ∧ I' = am_u (am_u (am_u I 14 2 a) 14 3 b) 14 4 0)) := by
  refine am_enter ok_es_bars rfl ?_
  repeat' (first
    | (refine am_gp 80 [] rfl (by first | trivial | exact Or.inl rfl | exact Or.inr rfl | (simp (decide := true) only [am_p, am_u_at, am_u_j, am_u_ne]; omega) | (simp (decide := true) only [am_p, and_true, true_and, true_or, or_true, am_u_at, am_u_j, am_u_ne]; omega) | (simp (decide := true) [am_p, am_u_at, am_u_j, am_u_ne]; omega)) ?_)
    | (show am_V _ _ _ _ _ _ _; simp only [Int.reduceToNat])
    | (refine am_bt rfl (by first | omega | (simp (decide := true) only [am_u_at, am_u_j, am_u_ne]; omega)) (by first | omega | (simp (decide := true) only [am_u_at, am_u_j, am_u_ne]; omega)) ?_)
    | (refine am_bf rfl (by first | omega | (simp (decide := true) only [am_u_at, am_u_j, am_u_ne]; omega)) (by first | omega | (simp (decide := true) only [am_u_at, am_u_j, am_u_ne]; omega)) ?_)
    | (refine am_br rfl (by first | omega | (simp (decide := true) only [am_u_at, am_u_j, am_u_ne]; omega)) (fun h => ?_) (fun h => ?_))
    | (refine am_cS (y' := Y_es_outside) rfl lk_es_72 ok_es_outside rfl rfl (c_outside _ _ _ _ _ (by first | omega | (simp (decide := true) only [am_u_at, am_u_j, am_u_ne]; omega)) (by first | omega | (simp (decide := true) only [am_u_at, am_u_j, am_u_ne]; omega)) (by first | omega | (simp (decide := true) only [am_u_at, am_u_j, am_u_ne]; omega))) ?_; rintro r I ⟨rfl, (⟨rfl, h⟩ | ⟨rfl, h⟩)⟩ <;> (try (exfalso; omega)))
    | (refine am_rt rfl (by first | trivial | exact Or.inl rfl | exact Or.inr rfl) ?_))
  all_goals try simp (decide := true) only [am_u_at, am_u_j, am_u_ne]
  all_goals first
    | (refine Or.inl ⟨by omega, ?_⟩; first | trivial | exact rfl | exact ⟨rfl, rfl⟩ | (refine ⟨?_, rfl⟩; congr 2; omega))
    | (refine Or.inr (⟨by omega, ?_⟩); first | trivial | exact rfl | exact ⟨rfl, rfl⟩ | (refine ⟨?_, rfl⟩; congr 2; omega))
theorem c_mo_bars (d : Nat) (a b : Int) (I : am_I) (ha : (-2147483648 ≤ a ∧ a < 2147483648)) (hb : (-2147483648 ≤ b ∧ b < 2147483648)) : am_C (d + 1) Y_mo_bars [.inr (.inr 44), .inl a, .inl b] I (fun r I' => (¬ ((1 ≤ a ∧ a ≤ 6) ∧ (1 ≤ b ∧ b ≤ 96)) ∧ r = some (.inl (-2)) ∧ I' = I) ∨ (((1 ≤ a ∧ a ≤ 6) ∧ (1 ≤ b ∧ b ≤ 96)) ∧ r = some (.inl 1) ∧ I' = am_u (am_u I 44 16 a) 44 17 b)) := by
  refine am_enter ok_mo_bars rfl ?_
  repeat' (first
    | (refine am_gp 80 [] rfl (by first | trivial | exact Or.inl rfl | exact Or.inr rfl | (simp (decide := true) only [am_p, am_u_at, am_u_j, am_u_ne]; omega) | (simp (decide := true) only [am_p, and_true, true_and, true_or, or_true, am_u_at, am_u_j, am_u_ne]; omega) | (simp (decide := true) [am_p, am_u_at, am_u_j, am_u_ne]; omega)) ?_)
    | (show am_V _ _ _ _ _ _ _; simp only [Int.reduceToNat])
    | (refine am_bt rfl (by first | omega | (simp (decide := true) only [am_u_at, am_u_j, am_u_ne]; omega)) (by first | omega | (simp (decide := true) only [am_u_at, am_u_j, am_u_ne]; omega)) ?_)
    | (refine am_bf rfl (by first | omega | (simp (decide := true) only [am_u_at, am_u_j, am_u_ne]; omega)) (by first | omega | (simp (decide := true) only [am_u_at, am_u_j, am_u_ne]; omega)) ?_)
    | (refine am_br rfl (by first | omega | (simp (decide := true) only [am_u_at, am_u_j, am_u_ne]; omega)) (fun h => ?_) (fun h => ?_))
    | (refine am_cS (y' := Y_mo_in) rfl lk_mo_114 ok_mo_in rfl rfl (c_mo_in _ _ _ _ _ (by first | omega | (simp (decide := true) only [am_u_at, am_u_j, am_u_ne]; omega)) (by first | omega | (simp (decide := true) only [am_u_at, am_u_j, am_u_ne]; omega)) (by first | omega | (simp (decide := true) only [am_u_at, am_u_j, am_u_ne]; omega))) ?_; rintro r I ⟨rfl, (⟨rfl, h⟩ | ⟨rfl, h⟩)⟩ <;> (try (exfalso; omega)))
    | (refine am_rt rfl (by first | trivial | exact Or.inl rfl | exact Or.inr rfl) ?_))
  all_goals try simp (decide := true) only [am_u_at, am_u_j, am_u_ne]
  all_goals first
    | (refine Or.inl ⟨by omega, ?_⟩; first | trivial | exact rfl | exact ⟨rfl, rfl⟩ | (refine ⟨?_, rfl⟩; congr 2; omega))
    | (refine Or.inr (⟨by omega, ?_⟩); first | trivial | exact rfl | exact ⟨rfl, rfl⟩ | (refine ⟨?_, rfl⟩; congr 2; omega))
theorem c_es_clear (d : Nat) (I : am_I) : am_C d Y_es_clear [.inr (.inr 0)] I (fun r I' => True ∧ r = some (.inl (I 17 2)) ∧ I' = am_u (am_u I 17 2 0) 17 4 0) := by
  refine am_enter ok_es_clear rfl ?_
  repeat' (first
    | (refine am_gp 80 [] rfl (by first | trivial | exact Or.inl rfl | exact Or.inr rfl | (simp (decide := true) only [am_p, am_u_at, am_u_j, am_u_ne]; omega) | (simp (decide := true) only [am_p, and_true, true_and, true_or, or_true, am_u_at, am_u_j, am_u_ne]; omega) | (simp (decide := true) [am_p, am_u_at, am_u_j, am_u_ne]; omega)) ?_)
    | (show am_V _ _ _ _ _ _ _; simp only [Int.reduceToNat])
    | (refine am_bt rfl (by first | omega | (simp (decide := true) only [am_u_at, am_u_j, am_u_ne]; omega)) (by first | omega | (simp (decide := true) only [am_u_at, am_u_j, am_u_ne]; omega)) ?_)
    | (refine am_bf rfl (by first | omega | (simp (decide := true) only [am_u_at, am_u_j, am_u_ne]; omega)) (by first | omega | (simp (decide := true) only [am_u_at, am_u_j, am_u_ne]; omega)) ?_)
    | (refine am_br rfl (by first | omega | (simp (decide := true) only [am_u_at, am_u_j, am_u_ne]; omega)) (fun h => ?_) (fun h => ?_))
    | (refine am_rt rfl (by first | trivial | exact Or.inl rfl | exact Or.inr rfl) ?_))
  exact ⟨trivial, rfl, rfl⟩
theorem c_mo_clear (d : Nat) (I : am_I) : am_C d Y_mo_clear [.inr (.inr 44)] I (fun r I' => True ∧ r = some (.inl (I 44 20)) ∧ I' = am_u I 44 20 0) := by
  refine am_enter ok_mo_clear rfl ?_
  repeat' (first
    | (refine am_gp 80 [] rfl (by first | trivial | exact Or.inl rfl | exact Or.inr rfl | (simp (decide := true) only [am_p, am_u_at, am_u_j, am_u_ne]; omega) | (simp (decide := true) only [am_p, and_true, true_and, true_or, or_true, am_u_at, am_u_j, am_u_ne]; omega) | (simp (decide := true) [am_p, am_u_at, am_u_j, am_u_ne]; omega)) ?_)
    | (show am_V _ _ _ _ _ _ _; simp only [Int.reduceToNat])
    | (refine am_bt rfl (by first | omega | (simp (decide := true) only [am_u_at, am_u_j, am_u_ne]; omega)) (by first | omega | (simp (decide := true) only [am_u_at, am_u_j, am_u_ne]; omega)) ?_)
    | (refine am_bf rfl (by first | omega | (simp (decide := true) only [am_u_at, am_u_j, am_u_ne]; omega)) (by first | omega | (simp (decide := true) only [am_u_at, am_u_j, am_u_ne]; omega)) ?_)
    | (refine am_br rfl (by first | omega | (simp (decide := true) only [am_u_at, am_u_j, am_u_ne]; omega)) (fun h => ?_) (fun h => ?_))
    | (refine am_rt rfl (by first | trivial | exact Or.inl rfl | exact Or.inr rfl) ?_))
  exact ⟨trivial, rfl, rfl⟩
theorem c_es_voice (d : Nat) (w v : Int) (I : am_I) (hw : (-2147483648 ≤ w ∧ w < 2147483648)) (hv : (-2147483648 ≤ v ∧ v < 2147483648)) : am_C (d + 1) Y_es_voice [.inr (.inr 0), .inl w, .inl v] I (fun r I' => (¬ ((w = 3 ∧ 0 ≤ v ∧ v ≤ 12) ∨ ((0 ≤ w ∧ w ≤ 2) ∧ 0 ≤ v ∧ v ≤ 116)) ∧ r = some (.inl (-2)) ∧ I' = I) ∨ ((w = 3 ∧ 0 ≤ v ∧ v ≤ 12) ∧ r = some (.inl (I 17 3)) ∧ I' = am_u (am_u I 17 3 v) 17 4 0) ∨ (((0 ≤ w ∧ w ≤ 2) ∧ 0 ≤ v ∧ v ≤ 116) ∧ r = some (.inl (I 19 w.toNat)) ∧ I' = am_u (am_u I 19 w.toNat v) 17 4 0)) := by
  refine am_enter ok_es_voice rfl ?_
  repeat' (first
    | (refine am_gp 80 [] rfl (by first | trivial | exact Or.inl rfl | exact Or.inr rfl | (simp (decide := true) only [am_p, am_u_at, am_u_j, am_u_ne]; omega) | (simp (decide := true) only [am_p, and_true, true_and, true_or, or_true, am_u_at, am_u_j, am_u_ne]; omega) | (simp (decide := true) [am_p, am_u_at, am_u_j, am_u_ne]; omega)) ?_)
    | (show am_V _ _ _ _ _ _ _; simp only [Int.reduceToNat])
    | (refine am_bt rfl (by first | omega | (simp (decide := true) only [am_u_at, am_u_j, am_u_ne]; omega)) (by first | omega | (simp (decide := true) only [am_u_at, am_u_j, am_u_ne]; omega)) ?_)
    | (refine am_bf rfl (by first | omega | (simp (decide := true) only [am_u_at, am_u_j, am_u_ne]; omega)) (by first | omega | (simp (decide := true) only [am_u_at, am_u_j, am_u_ne]; omega)) ?_)
    | (refine am_br rfl (by first | omega | (simp (decide := true) only [am_u_at, am_u_j, am_u_ne]; omega)) (fun h => ?_) (fun h => ?_))
    | (refine am_cS (y' := Y_es_outside) rfl lk_es_72 ok_es_outside rfl rfl (c_outside _ _ _ _ _ (by first | omega | (simp (decide := true) only [am_u_at, am_u_j, am_u_ne]; omega)) (by first | omega | (simp (decide := true) only [am_u_at, am_u_j, am_u_ne]; omega)) (by first | omega | (simp (decide := true) only [am_u_at, am_u_j, am_u_ne]; omega))) ?_; rintro r I ⟨rfl, (⟨rfl, h⟩ | ⟨rfl, h⟩)⟩ <;> (try (exfalso; omega)))
    | (refine am_rt rfl (by first | trivial | exact Or.inl rfl | exact Or.inr rfl) ?_))
  all_goals try simp (decide := true) only [am_u_at, am_u_j, am_u_ne]
  all_goals first
    | (refine Or.inl ⟨by omega, ?_⟩; first | trivial | exact rfl | exact ⟨rfl, rfl⟩ | (refine ⟨?_, rfl⟩; congr 2; omega))
    | (refine Or.inr (Or.inl ⟨by omega, ?_⟩); first | trivial | exact rfl | exact ⟨rfl, rfl⟩ | (refine ⟨?_, rfl⟩; congr 2; omega))
    | (refine Or.inr (Or.inr (⟨by omega, ?_⟩)); first | trivial | exact rfl | exact ⟨rfl, rfl⟩ | (refine ⟨?_, rfl⟩; congr 2; omega))
theorem c_mo_voice (d : Nat) (w v : Int) (I : am_I) (hw : (-2147483648 ≤ w ∧ w < 2147483648)) (hv : (-2147483648 ≤ v ∧ v < 2147483648)) : am_C (d + 1) Y_mo_voice [.inr (.inr 44), .inl w, .inl v] I (fun r I' => (¬ ((w = 3 ∧ 0 ≤ v ∧ v ≤ 12) ∨ ((0 ≤ w ∧ w ≤ 2) ∧ 0 ≤ v ∧ v ≤ 116)) ∧ r = some (.inl (-2)) ∧ I' = I) ∨ ((w = 3 ∧ 0 ≤ v ∧ v ≤ 12) ∧ r = some (.inl (I 44 23)) ∧ I' = am_u I 44 23 v) ∨ (((0 ≤ w ∧ w ≤ 2) ∧ 0 ≤ v ∧ v ≤ 116) ∧ r = some (.inl (I 51 w.toNat)) ∧ I' = am_u I 51 w.toNat v)) := by
  refine am_enter ok_mo_voice rfl ?_
  repeat' (first
    | (refine am_gp 80 [] rfl (by first | trivial | exact Or.inl rfl | exact Or.inr rfl | (simp (decide := true) only [am_p, am_u_at, am_u_j, am_u_ne]; omega) | (simp (decide := true) only [am_p, and_true, true_and, true_or, or_true, am_u_at, am_u_j, am_u_ne]; omega) | (simp (decide := true) [am_p, am_u_at, am_u_j, am_u_ne]; omega)) ?_)
    | (show am_V _ _ _ _ _ _ _; simp only [Int.reduceToNat])
    | (refine am_bt rfl (by first | omega | (simp (decide := true) only [am_u_at, am_u_j, am_u_ne]; omega)) (by first | omega | (simp (decide := true) only [am_u_at, am_u_j, am_u_ne]; omega)) ?_)
    | (refine am_bf rfl (by first | omega | (simp (decide := true) only [am_u_at, am_u_j, am_u_ne]; omega)) (by first | omega | (simp (decide := true) only [am_u_at, am_u_j, am_u_ne]; omega)) ?_)
    | (refine am_br rfl (by first | omega | (simp (decide := true) only [am_u_at, am_u_j, am_u_ne]; omega)) (fun h => ?_) (fun h => ?_))
    | (refine am_cS (y' := Y_mo_in) rfl lk_mo_114 ok_mo_in rfl rfl (c_mo_in _ _ _ _ _ (by first | omega | (simp (decide := true) only [am_u_at, am_u_j, am_u_ne]; omega)) (by first | omega | (simp (decide := true) only [am_u_at, am_u_j, am_u_ne]; omega)) (by first | omega | (simp (decide := true) only [am_u_at, am_u_j, am_u_ne]; omega))) ?_; rintro r I ⟨rfl, (⟨rfl, h⟩ | ⟨rfl, h⟩)⟩ <;> (try (exfalso; omega)))
    | (refine am_rt rfl (by first | trivial | exact Or.inl rfl | exact Or.inr rfl) ?_))
  all_goals try simp (decide := true) only [am_u_at, am_u_j, am_u_ne]
  all_goals first
    | (refine Or.inl ⟨by omega, ?_⟩; first | trivial | exact rfl | exact ⟨rfl, rfl⟩ | (refine ⟨?_, rfl⟩; congr 2; omega))
    | (refine Or.inr (Or.inl ⟨by omega, ?_⟩); first | trivial | exact rfl | exact ⟨rfl, rfl⟩ | (refine ⟨?_, rfl⟩; congr 2; omega))
    | (refine Or.inr (Or.inr (⟨by omega, ?_⟩)); first | trivial | exact rfl | exact ⟨rfl, rfl⟩ | (refine ⟨?_, rfl⟩; congr 2; omega))
