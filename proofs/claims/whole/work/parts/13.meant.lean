theorem c_copy (d : Nat) (I0 : am_I) (hn : 0 ≤ I0 1 2 ∧ I0 1 2 ≤ 24) : am_C (d + 1) Y_no_copy [.inr (.inr 4), .inr (.inr 1)] I0 (fun r I' => r = none ∧ am_fr I0 I' [4, 5, 6] ∧ I' 4 2 = I0 1 2 ∧ ∀ j : Nat, (j : Int) < I0 1 2 → I' 5 j = I0 2 j ∧ I' 6 j = I0 3 j) := by
  refine am_enter ok_no_copy rfl ?_
  have loop : ∀ (m : Nat) (i : Int) (I : am_I), 0 ≤ i → i ≤ I0 1 2 → I0 1 2 - i < m → am_fr I0 I [4, 5, 6] → I 4 2 = i → (∀ j : Nat, (j : Int) < i → I 5 j = I0 2 j ∧ I 6 j = I0 3 j) → am_V (d + 1) Y_no_copy (fun r I' => r = none ∧ am_fr I0 I' [4, 5, 6] ∧ I' 4 2 = I0 1 2 ∧ ∀ j : Nat, (j : Int) < I0 1 2 → I' 5 j = I0 2 j ∧ I' 6 j = I0 3 j) 7 [(0, .inr (.inr 4)), (1, .inr (.inr 1)), (2, .inl i)] [] I := by
    intro m
    induction m with
    | zero => intro i I h1 h2 h3; omega
    | succ m ih =>
      intro i I h1 h2 h3 hf h4 h5
      have e1 : I 1 2 = I0 1 2 := by rw [hf 1 rfl]
      have e2 : I 2 = I0 2 := hf 2 rfl
      have e3 : I 3 = I0 3 := hf 3 rfl
      refine am_go 1 [] rfl trivial ?_
      repeat' (first
        | (refine am_gp 80 [7] rfl (by first | trivial | exact Or.inl rfl | exact Or.inr rfl | (simp (decide := true) only [am_p, am_u_at, am_u_j, am_u_ne]; omega) | (simp (decide := true) only [am_p, and_true, true_and, true_or, or_true, am_u_at, am_u_j, am_u_ne]; omega) | (simp (decide := true) [am_p, am_u_at, am_u_j, am_u_ne]; omega)) ?_)
        | (show am_V _ _ _ _ _ _ _; simp only [Int.reduceToNat])
        | (refine am_bt rfl (by first | omega | (simp (decide := true) only [am_u_at, am_u_j, am_u_ne]; omega)) (by first | omega | (simp (decide := true) only [am_u_at, am_u_j, am_u_ne]; omega)) ?_)
        | (refine am_bf rfl (by first | omega | (simp (decide := true) only [am_u_at, am_u_j, am_u_ne]; omega)) (by first | omega | (simp (decide := true) only [am_u_at, am_u_j, am_u_ne]; omega)) ?_)
        | (refine am_br rfl (by first | omega | (simp (decide := true) only [am_u_at, am_u_j, am_u_ne]; omega)) (fun h => ?_) (fun h => ?_))
        | (refine am_cV (y' := Y_no_push) rfl lk_no_22 ok_no_push rfl rfl rfl (c_push_int _ _ _ _ (by first | omega | (simp (decide := true) only [am_u_at, am_u_j, am_u_ne]; omega))) ?_; rintro r I ⟨rfl, rfl⟩)
        | (refine am_rt rfl (by first | trivial | exact Or.inl rfl | exact Or.inr rfl) ?_))
      · exact ⟨rfl, hf, by omega, fun j hj => h5 j (by omega)⟩
      · refine ih (i + 1) _ (by omega) (by omega) (by omega) (((hf.u _ _ rfl).u _ _ rfl).u _ _ rfl) ?_ ?_
        · simp (decide := true) only [am_u_at, am_u_j, am_u_ne]; omega
        · intro j hj
          simp (decide := true) only [am_u_at, am_u_j, am_u_ne]
          rw [am_u_eq, am_u_eq, e2, e3]
          by_cases c : j = (I 4 2).toNat
          · subst c
            rw [am_up_eq, am_up_eq, h4]
            exact ⟨rfl, rfl⟩
          · rw [am_up_ne c, am_up_ne c]
            exact h5 j (by omega)
  repeat' (first
    | (refine am_gp 80 [7] rfl (by first | trivial | exact Or.inl rfl | exact Or.inr rfl | (simp (decide := true) only [am_p, am_u_at, am_u_j, am_u_ne]; omega) | (simp (decide := true) only [am_p, and_true, true_and, true_or, or_true, am_u_at, am_u_j, am_u_ne]; omega) | (simp (decide := true) [am_p, am_u_at, am_u_j, am_u_ne]; omega)) ?_)
    | (show am_V _ _ _ _ _ _ _; simp only [Int.reduceToNat])
    | (refine am_bt rfl (by first | omega | (simp (decide := true) only [am_u_at, am_u_j, am_u_ne]; omega)) (by first | omega | (simp (decide := true) only [am_u_at, am_u_j, am_u_ne]; omega)) ?_)
    | (refine am_bf rfl (by first | omega | (simp (decide := true) only [am_u_at, am_u_j, am_u_ne]; omega)) (by first | omega | (simp (decide := true) only [am_u_at, am_u_j, am_u_ne]; omega)) ?_)
    | (refine am_br rfl (by first | omega | (simp (decide := true) only [am_u_at, am_u_j, am_u_ne]; omega)) (fun h => ?_) (fun h => ?_))
    | (refine am_rt rfl (by first | trivial | exact Or.inl rfl | exact Or.inr rfl) ?_))
  refine loop 25 0 _ (by omega) (by omega) (by omega) (am_fr.rf.u _ _ rfl) ?_ (fun j hj => by omega)
  simp (decide := true) only [am_u_at, am_u_j, am_u_ne]
theorem c_es_meant (d : Nat) (I0 : am_I) (hn : 0 ≤ I0 1 2 ∧ I0 1 2 ≤ 24) : am_C (d + 2) Y_es_meant [.inr (.inr 0)] I0 (fun r I' => r = some (.inl (I0 1 2)) ∧ am_fr I0 I' [4, 5, 6, 23] ∧ I' 4 2 = I0 1 2 ∧ I' 23 9 = 0 ∧ ∀ j : Nat, (j : Int) < I0 1 2 → I' 5 j = I0 2 j ∧ I' 6 j = I0 3 j) := by
  refine am_enter ok_es_meant rfl ?_
  repeat' (first
    | (refine am_gp 80 [] rfl (by first | trivial | exact Or.inl rfl | exact Or.inr rfl | (simp (decide := true) only [am_p, am_u_at, am_u_j, am_u_ne]; omega) | (simp (decide := true) only [am_p, and_true, true_and, true_or, or_true, am_u_at, am_u_j, am_u_ne]; omega) | (simp (decide := true) [am_p, am_u_at, am_u_j, am_u_ne]; omega)) ?_)
    | (show am_V _ _ _ _ _ _ _; simp only [Int.reduceToNat])
    | (refine am_bt rfl (by first | omega | (simp (decide := true) only [am_u_at, am_u_j, am_u_ne]; omega)) (by first | omega | (simp (decide := true) only [am_u_at, am_u_j, am_u_ne]; omega)) ?_)
    | (refine am_bf rfl (by first | omega | (simp (decide := true) only [am_u_at, am_u_j, am_u_ne]; omega)) (by first | omega | (simp (decide := true) only [am_u_at, am_u_j, am_u_ne]; omega)) ?_)
    | (refine am_br rfl (by first | omega | (simp (decide := true) only [am_u_at, am_u_j, am_u_ne]; omega)) (fun h => ?_) (fun h => ?_))
    | (refine am_cV (y' := Y_no_copy) rfl lk_es_183 ok_no_copy rfl rfl rfl (c_copy _ _ (by first | omega | (simp (decide := true) only [am_u_at, am_u_j, am_u_ne]; omega))) ?_; rintro r I ⟨rfl, hfr, hsz, hcp⟩)
    | (refine am_cV (y' := Y_ju_forget) rfl lk_es_84 ok_ju_forget rfl rfl rfl (c_ju_forget _ _) ?_; rintro r I ⟨rfl, rfl⟩)
    | (refine am_rt rfl (by first | trivial | exact Or.inl rfl | exact Or.inr rfl) ?_))
  simp (decide := true) only [am_u_at, am_u_j, am_u_ne]
  refine ⟨by rw [hsz], ?_, hsz, trivial, hcp⟩
  intro a ha
  rw [am_u_ne (am_mem_app ha rfl)]
  refine hfr a ?_
  simp only [am_mem] at ha ⊢
  split at ha
  · cases ha
  · split at ha
    · cases ha
    · split at ha
      · cases ha
      · simp_all
theorem c_mo_meant (d : Nat) (I0 : am_I) (hn : 0 ≤ I0 44 0 ∧ I0 44 0 ≤ 24) : am_C d Y_mo_meant [.inr (.inr 44)] I0 (fun r I' => r = some (.inl (I0 44 0)) ∧ am_fr I0 I' [44, 47, 48] ∧ I' 44 = am_up (am_up (I0 44) 3 (I0 44 0)) 6 0 ∧ ∀ j : Nat, (j : Int) < I0 44 0 → I' 47 j = I0 45 j ∧ I' 48 j = I0 46 j) := by
  refine am_enter ok_mo_meant rfl ?_
  have loop : ∀ (m : Nat) (i : Int) (I : am_I), 0 ≤ i → i ≤ I0 44 0 → I0 44 0 - i < m → am_fr I0 I [44, 47, 48] → I 44 = am_up (I0 44) 3 (I0 44 0) → (∀ j : Nat, (j : Int) < i → I 47 j = I0 45 j ∧ I 48 j = I0 46 j) → am_V d Y_mo_meant (fun r I' => r = some (.inl (I0 44 0)) ∧ am_fr I0 I' [44, 47, 48] ∧ I' 44 = am_up (am_up (I0 44) 3 (I0 44 0)) 6 0 ∧ ∀ j : Nat, (j : Int) < I0 44 0 → I' 47 j = I0 45 j ∧ I' 48 j = I0 46 j) 10 [(0, .inr (.inr 44)), (1, .inl i)] [] I := by
    intro m
    induction m with
    | zero => intro i I h1 h2 h3; omega
    | succ m ih =>
      intro i I h1 h2 h3 hf h4 h5
      have e0 : I 44 0 = I0 44 0 := by rw [h4, am_up_ne (by decide)]
      have e2 : I 45 = I0 45 := hf 45 rfl
      have e3 : I 46 = I0 46 := hf 46 rfl
      refine am_go 1 [] rfl trivial ?_
      repeat' (first
        | (refine am_gp 80 [10] rfl (by first | trivial | exact Or.inl rfl | exact Or.inr rfl | (simp (decide := true) only [am_p, am_u_at, am_u_j, am_u_ne]; omega) | (simp (decide := true) only [am_p, and_true, true_and, true_or, or_true, am_u_at, am_u_j, am_u_ne]; omega) | (simp (decide := true) [am_p, am_u_at, am_u_j, am_u_ne]; omega)) ?_)
        | (show am_V _ _ _ _ _ _ _; simp only [Int.reduceToNat])
        | (refine am_bt rfl (by first | omega | (simp (decide := true) only [am_u_at, am_u_j, am_u_ne]; omega)) (by first | omega | (simp (decide := true) only [am_u_at, am_u_j, am_u_ne]; omega)) ?_)
        | (refine am_bf rfl (by first | omega | (simp (decide := true) only [am_u_at, am_u_j, am_u_ne]; omega)) (by first | omega | (simp (decide := true) only [am_u_at, am_u_j, am_u_ne]; omega)) ?_)
        | (refine am_br rfl (by first | omega | (simp (decide := true) only [am_u_at, am_u_j, am_u_ne]; omega)) (fun h => ?_) (fun h => ?_))
        | (refine am_rt rfl (by first | trivial | exact Or.inl rfl | exact Or.inr rfl) ?_))
      · simp (decide := true) only [am_u_at, am_u_j, am_u_ne]
        refine ⟨by rw [e0], hf.u _ _ rfl, by rw [am_u_eq, h4], fun j hj => h5 j (by omega)⟩
      · refine ih (i + 1) _ (by omega) (by omega) (by omega) ((hf.u _ _ rfl).u _ _ rfl) ?_ ?_
        · simp (decide := true) only [am_u_at, am_u_j, am_u_ne]; exact h4
        · intro j hj
          simp (decide := true) only [am_u_at, am_u_j, am_u_ne]
          rw [am_u_eq, am_u_eq, e2, e3]
          by_cases c : j = i.toNat
          · subst c
            rw [am_up_eq, am_up_eq]
            exact ⟨rfl, rfl⟩
          · rw [am_up_ne c, am_up_ne c]
            exact h5 j (by omega)
  repeat' (first
    | (refine am_gp 80 [10] rfl (by first | trivial | exact Or.inl rfl | exact Or.inr rfl | (simp (decide := true) only [am_p, am_u_at, am_u_j, am_u_ne]; omega) | (simp (decide := true) only [am_p, and_true, true_and, true_or, or_true, am_u_at, am_u_j, am_u_ne]; omega) | (simp (decide := true) [am_p, am_u_at, am_u_j, am_u_ne]; omega)) ?_)
    | (show am_V _ _ _ _ _ _ _; simp only [Int.reduceToNat])
    | (refine am_bt rfl (by first | omega | (simp (decide := true) only [am_u_at, am_u_j, am_u_ne]; omega)) (by first | omega | (simp (decide := true) only [am_u_at, am_u_j, am_u_ne]; omega)) ?_)
    | (refine am_bf rfl (by first | omega | (simp (decide := true) only [am_u_at, am_u_j, am_u_ne]; omega)) (by first | omega | (simp (decide := true) only [am_u_at, am_u_j, am_u_ne]; omega)) ?_)
    | (refine am_br rfl (by first | omega | (simp (decide := true) only [am_u_at, am_u_j, am_u_ne]; omega)) (fun h => ?_) (fun h => ?_))
    | (refine am_rt rfl (by first | trivial | exact Or.inl rfl | exact Or.inr rfl) ?_))
  refine loop 25 0 _ (by omega) (by omega) (by omega) (am_fr.rf.u _ _ rfl) ?_ (fun j hj => by omega)
  rw [am_u_eq]
