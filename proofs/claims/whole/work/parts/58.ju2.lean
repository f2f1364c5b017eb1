def es_fr (x : Int) : Int := if x = 10000 then 1000000 else x
theorem es_fr_n {x : Int} (h : x < 10000) : es_fr x = x := by
  unfold es_fr
  exact if_neg (by omega)
theorem es_fr_c (x : Int) : (x = 10000 ∧ es_fr x = 1000000) ∨ (x ≠ 10000 ∧ es_fr x = x) := by
  unfold es_fr
  by_cases c : x = 10000
  · rw [if_pos c]; exact Or.inl ⟨c, rfl⟩
  · rw [if_neg c]; exact Or.inr ⟨c, rfl⟩
def es_h3 (T : Nat → Int) (Q : Nat → Nat → Int) (M N i j : Nat) : Prop := ∀ c : Int, -12 ≤ c → c ≤ 12 → (i < M → j < N → T ((((i : Int) + 1) * 25 + ((j : Int) + 1)) * 25 + c + 12).toNat = es_k0 Q M N (M - i - 1) (N - j - 1) c) ∧ (i < M → T ((((i : Int) + 1) * 25 + (j : Int)) * 25 + c + 12).toNat = es_k0 Q M N (M - i - 1) (N - j) c) ∧ (j < N → T (((i : Int) * 25 + ((j : Int) + 1)) * 25 + c + 12).toNat = es_k0 Q M N (M - i) (N - j - 1) c)
theorem c_ju_byHit (d : Nat) (i j : Nat) (c : Int) (I J : am_I) (M N : Nat) (heq : es_eqc I J) (hn : es_nc J) (hM : J 4 2 = (M : Int)) (hN : J 1 2 = (N : Int)) (hi : i ≤ M) (hj : j ≤ N) (hc : -12 ≤ c ∧ c ≤ 12) (h3 : es_h3 (I 24) (es_Qc J) M N i j) : am_C (d + 2) Y_ju_byHit [.inr (.inr 23), .inl i, .inl j, .inl c] I (fun r I' => I' = I ∧ r = some (.inl (es_fr (es_jb (es_Qc J) M N i j c 1 0)))) := by
  refine am_enter ok_ju_byHit rfl ?_
  obtain ⟨q, q5, q6⟩ := id heq
  rw [hN] at q5
  rw [hM] at q6
  have hM4 : M ≤ 24 := by have := hn.1; omega
  have hN4 : N ≤ 24 := by have := hn.2.1; omega
  by_cases g : i < M ∧ j < N
  · have h5 := (h3 c hc.1 hc.2).1 g.1 g.2
    have a1 := (es_k_r (es_Qc J) M N (M - i - 1) (N - j - 1)).1 c
    have a5 := es_jh_r (es_Qc J) i j c
    rw [es_jb_a0 rfl g, es_fr_n (by omega), ← h5]
    rw [← h5] at a1
    clear h3 h5
    repeat' (first
      | (refine am_gp 80 [] rfl (by first | exact True.intro | (refine And.intro ?_ ?_ <;> decide) | exact Or.inl rfl | exact Or.inr rfl | (simp (decide := true) only [am_p, am_u_at, am_u_j, am_u_ne]; omega) | (simp (decide := true) only [am_p, and_true, true_and, true_or, or_true, am_u_at, am_u_j, am_u_ne]; omega) | (simp (decide := true) [am_p, am_u_at, am_u_j, am_u_ne]; omega)) ?_)
      | (show am_V _ _ _ _ _ _ _; simp only [Int.reduceToNat])
      | (refine am_bt rfl (by first | omega | (simp (decide := true) only [am_u_at, am_u_j, am_u_ne]; omega)) (by first | omega | (simp (decide := true) only [am_u_at, am_u_j, am_u_ne]; omega)) ?_)
      | (refine am_bf rfl (by first | omega | (simp (decide := true) only [am_u_at, am_u_j, am_u_ne]; omega)) (by first | omega | (simp (decide := true) only [am_u_at, am_u_j, am_u_ne]; omega)) ?_)
      | (refine am_br rfl (by first | omega | (simp (decide := true) only [am_u_at, am_u_j, am_u_ne]; omega)) (fun h => ?_) (fun h => ?_))
      | (refine am_cV (y' := Y_ju_hitCost) rfl lk_ju_98 ok_ju_hitCost rfl rfl rfl (c_ju_hit _ _ _ _ _ J heq hn (by first | omega | (simp (decide := true) only [am_u_at, am_u_j, am_u_ne]; omega)) (by first | omega | (simp (decide := true) only [am_u_at, am_u_j, am_u_ne]; omega)) (by first | omega | (simp (decide := true) only [am_u_at, am_u_j, am_u_ne]; omega))) ?_; rintro r I ⟨rfl, rfl⟩)
      | (refine am_cV (y' := Y_ju_from) rfl lk_ju_58 ok_ju_from rfl rfl rfl (c_ju_from _ _ _ _ _ (by first | omega | (simp (decide := true) only [am_u_at, am_u_j, am_u_ne]; omega))) ?_; rintro r I ⟨rfl, rfl⟩)
      | (refine am_rt rfl (by first | exact True.intro | (refine And.intro ?_ ?_ <;> decide) | exact Or.inl rfl | exact Or.inr rfl | (show _ ∨ _; omega)) ?_))
    exact ⟨rfl, rfl⟩
  · rw [es_jb_b0 rfl g]
    clear h3
    repeat' (first
      | (refine am_gp 80 [] rfl (by first | exact True.intro | (refine And.intro ?_ ?_ <;> decide) | exact Or.inl rfl | exact Or.inr rfl | (simp (decide := true) only [am_p, am_u_at, am_u_j, am_u_ne]; omega) | (simp (decide := true) only [am_p, and_true, true_and, true_or, or_true, am_u_at, am_u_j, am_u_ne]; omega) | (simp (decide := true) [am_p, am_u_at, am_u_j, am_u_ne]; omega)) ?_)
      | (show am_V _ _ _ _ _ _ _; simp only [Int.reduceToNat])
      | (refine am_bt rfl (by first | omega | (simp (decide := true) only [am_u_at, am_u_j, am_u_ne]; omega)) (by first | omega | (simp (decide := true) only [am_u_at, am_u_j, am_u_ne]; omega)) ?_)
      | (refine am_bf rfl (by first | omega | (simp (decide := true) only [am_u_at, am_u_j, am_u_ne]; omega)) (by first | omega | (simp (decide := true) only [am_u_at, am_u_j, am_u_ne]; omega)) ?_)
      | (refine am_br rfl (by first | omega | (simp (decide := true) only [am_u_at, am_u_j, am_u_ne]; omega)) (fun h => ?_) (fun h => ?_))
      | (refine am_rt rfl (by first | exact True.intro | (refine And.intro ?_ ?_ <;> decide) | exact Or.inl rfl | exact Or.inr rfl | (show _ ∨ _; omega)) ?_))
    all_goals exact ⟨rfl, rfl⟩
theorem c_ju_byLost (d : Nat) (i j : Nat) (c : Int) (I J : am_I) (M N : Nat) (heq : es_eqc I J) (hn : es_nc J) (hM : J 4 2 = (M : Int)) (hN : J 1 2 = (N : Int)) (hi : i ≤ M) (hj : j ≤ N) (hc : -12 ≤ c ∧ c ≤ 12) (h3 : es_h3 (I 24) (es_Qc J) M N i j) : am_C (d + 2) Y_ju_byLost [.inr (.inr 23), .inl i, .inl j, .inl c] I (fun r I' => I' = I ∧ r = some (.inl (es_fr (es_jb (es_Qc J) M N i j c 1 1)))) := by
  refine am_enter ok_ju_byLost rfl ?_
  obtain ⟨q, q5, q6⟩ := id heq
  rw [hN] at q5
  rw [hM] at q6
  have hM4 : M ≤ 24 := by have := hn.1; omega
  have hN4 : N ≤ 24 := by have := hn.2.1; omega
  by_cases g : i < M
  · have h5 := (h3 c hc.1 hc.2).2.1 g
    have a1 := (es_k_r (es_Qc J) M N (M - i - 1) (N - j)).1 c
    rw [es_jb_a1 rfl g, es_fr_n (by omega), ← h5]
    rw [← h5] at a1
    clear h3 h5
    repeat' (first
      | (refine am_gp 80 [] rfl (by first | exact True.intro | (refine And.intro ?_ ?_ <;> decide) | exact Or.inl rfl | exact Or.inr rfl | (simp (decide := true) only [am_p, am_u_at, am_u_j, am_u_ne]; omega) | (simp (decide := true) only [am_p, and_true, true_and, true_or, or_true, am_u_at, am_u_j, am_u_ne]; omega) | (simp (decide := true) [am_p, am_u_at, am_u_j, am_u_ne]; omega)) ?_)
      | (show am_V _ _ _ _ _ _ _; simp only [Int.reduceToNat])
      | (refine am_bt rfl (by first | omega | (simp (decide := true) only [am_u_at, am_u_j, am_u_ne]; omega)) (by first | omega | (simp (decide := true) only [am_u_at, am_u_j, am_u_ne]; omega)) ?_)
      | (refine am_bf rfl (by first | omega | (simp (decide := true) only [am_u_at, am_u_j, am_u_ne]; omega)) (by first | omega | (simp (decide := true) only [am_u_at, am_u_j, am_u_ne]; omega)) ?_)
      | (refine am_br rfl (by first | omega | (simp (decide := true) only [am_u_at, am_u_j, am_u_ne]; omega)) (fun h => ?_) (fun h => ?_))
      | (refine am_cV (y' := Y_ju_from) rfl lk_ju_58 ok_ju_from rfl rfl rfl (c_ju_from _ _ _ _ _ (by first | omega | (simp (decide := true) only [am_u_at, am_u_j, am_u_ne]; omega))) ?_; rintro r I ⟨rfl, rfl⟩)
      | (refine am_rt rfl (by first | exact True.intro | (refine And.intro ?_ ?_ <;> decide) | exact Or.inl rfl | exact Or.inr rfl | (show _ ∨ _; omega)) ?_))
    exact ⟨rfl, rfl⟩
  · rw [es_jb_b1 rfl g]
    clear h3
    repeat' (first
      | (refine am_gp 80 [] rfl (by first | exact True.intro | (refine And.intro ?_ ?_ <;> decide) | exact Or.inl rfl | exact Or.inr rfl | (simp (decide := true) only [am_p, am_u_at, am_u_j, am_u_ne]; omega) | (simp (decide := true) only [am_p, and_true, true_and, true_or, or_true, am_u_at, am_u_j, am_u_ne]; omega) | (simp (decide := true) [am_p, am_u_at, am_u_j, am_u_ne]; omega)) ?_)
      | (show am_V _ _ _ _ _ _ _; simp only [Int.reduceToNat])
      | (refine am_bt rfl (by first | omega | (simp (decide := true) only [am_u_at, am_u_j, am_u_ne]; omega)) (by first | omega | (simp (decide := true) only [am_u_at, am_u_j, am_u_ne]; omega)) ?_)
      | (refine am_bf rfl (by first | omega | (simp (decide := true) only [am_u_at, am_u_j, am_u_ne]; omega)) (by first | omega | (simp (decide := true) only [am_u_at, am_u_j, am_u_ne]; omega)) ?_)
      | (refine am_br rfl (by first | omega | (simp (decide := true) only [am_u_at, am_u_j, am_u_ne]; omega)) (fun h => ?_) (fun h => ?_))
      | (refine am_rt rfl (by first | exact True.intro | (refine And.intro ?_ ?_ <;> decide) | exact Or.inl rfl | exact Or.inr rfl | (show _ ∨ _; omega)) ?_))
    all_goals exact ⟨rfl, rfl⟩
theorem c_ju_byMore (d : Nat) (i j : Nat) (c : Int) (I J : am_I) (M N : Nat) (heq : es_eqc I J) (hn : es_nc J) (hM : J 4 2 = (M : Int)) (hN : J 1 2 = (N : Int)) (hi : i ≤ M) (hj : j ≤ N) (hc : -12 ≤ c ∧ c ≤ 12) (h3 : es_h3 (I 24) (es_Qc J) M N i j) : am_C (d + 2) Y_ju_byMore [.inr (.inr 23), .inl i, .inl j, .inl c] I (fun r I' => I' = I ∧ r = some (.inl (es_fr (es_jb (es_Qc J) M N i j c 1 2)))) := by
  refine am_enter ok_ju_byMore rfl ?_
  obtain ⟨q, q5, q6⟩ := id heq
  rw [hN] at q5
  rw [hM] at q6
  have hM4 : M ≤ 24 := by have := hn.1; omega
  have hN4 : N ≤ 24 := by have := hn.2.1; omega
  by_cases g : j < N
  · have h5 := (h3 c hc.1 hc.2).2.2 g
    have a1 := (es_k_r (es_Qc J) M N (M - i) (N - j - 1)).1 c
    have a6 := es_jm_r (es_Qc J) j
    rw [es_jb_a2 rfl g, es_fr_n (by omega), ← h5]
    rw [← h5] at a1
    clear h3 h5
    repeat' (first
      | (refine am_gp 80 [] rfl (by first | exact True.intro | (refine And.intro ?_ ?_ <;> decide) | exact Or.inl rfl | exact Or.inr rfl | (simp (decide := true) only [am_p, am_u_at, am_u_j, am_u_ne]; omega) | (simp (decide := true) only [am_p, and_true, true_and, true_or, or_true, am_u_at, am_u_j, am_u_ne]; omega) | (simp (decide := true) [am_p, am_u_at, am_u_j, am_u_ne]; omega)) ?_)
      | (show am_V _ _ _ _ _ _ _; simp only [Int.reduceToNat])
      | (refine am_bt rfl (by first | omega | (simp (decide := true) only [am_u_at, am_u_j, am_u_ne]; omega)) (by first | omega | (simp (decide := true) only [am_u_at, am_u_j, am_u_ne]; omega)) ?_)
      | (refine am_bf rfl (by first | omega | (simp (decide := true) only [am_u_at, am_u_j, am_u_ne]; omega)) (by first | omega | (simp (decide := true) only [am_u_at, am_u_j, am_u_ne]; omega)) ?_)
      | (refine am_br rfl (by first | omega | (simp (decide := true) only [am_u_at, am_u_j, am_u_ne]; omega)) (fun h => ?_) (fun h => ?_))
      | (refine am_cV (y' := Y_ju_moreCost) rfl lk_ju_75 ok_ju_moreCost rfl rfl rfl (c_ju_more _ _ _ J heq hn (by first | omega | (simp (decide := true) only [am_u_at, am_u_j, am_u_ne]; omega))) ?_; rintro r I ⟨rfl, rfl⟩)
      | (refine am_cV (y' := Y_ju_from) rfl lk_ju_58 ok_ju_from rfl rfl rfl (c_ju_from _ _ _ _ _ (by first | omega | (simp (decide := true) only [am_u_at, am_u_j, am_u_ne]; omega))) ?_; rintro r I ⟨rfl, rfl⟩)
      | (refine am_rt rfl (by first | exact True.intro | (refine And.intro ?_ ?_ <;> decide) | exact Or.inl rfl | exact Or.inr rfl | (show _ ∨ _; omega)) ?_))
    exact ⟨rfl, rfl⟩
  · rw [es_jb_b2 rfl g]
    clear h3
    repeat' (first
      | (refine am_gp 80 [] rfl (by first | exact True.intro | (refine And.intro ?_ ?_ <;> decide) | exact Or.inl rfl | exact Or.inr rfl | (simp (decide := true) only [am_p, am_u_at, am_u_j, am_u_ne]; omega) | (simp (decide := true) only [am_p, and_true, true_and, true_or, or_true, am_u_at, am_u_j, am_u_ne]; omega) | (simp (decide := true) [am_p, am_u_at, am_u_j, am_u_ne]; omega)) ?_)
      | (show am_V _ _ _ _ _ _ _; simp only [Int.reduceToNat])
      | (refine am_bt rfl (by first | omega | (simp (decide := true) only [am_u_at, am_u_j, am_u_ne]; omega)) (by first | omega | (simp (decide := true) only [am_u_at, am_u_j, am_u_ne]; omega)) ?_)
      | (refine am_bf rfl (by first | omega | (simp (decide := true) only [am_u_at, am_u_j, am_u_ne]; omega)) (by first | omega | (simp (decide := true) only [am_u_at, am_u_j, am_u_ne]; omega)) ?_)
      | (refine am_br rfl (by first | omega | (simp (decide := true) only [am_u_at, am_u_j, am_u_ne]; omega)) (fun h => ?_) (fun h => ?_))
      | (refine am_rt rfl (by first | exact True.intro | (refine And.intro ?_ ?_ <;> decide) | exact Or.inl rfl | exact Or.inr rfl | (show _ ∨ _; omega)) ?_))
    all_goals exact ⟨rfl, rfl⟩
theorem c_ju_unsh (d : Nat) (i j : Nat) (c : Int) (I J : am_I) (M N : Nat) (heq : es_eqc I J) (hn : es_nc J) (hM : J 4 2 = (M : Int)) (hN : J 1 2 = (N : Int)) (hi : i ≤ M) (hj : j ≤ N) (hc : -12 ≤ c ∧ c ≤ 12) (h3 : es_h3 (I 24) (es_Qc J) M N i j) : am_C (d + 3) Y_ju_unshifted [.inr (.inr 23), .inl i, .inl j, .inl c] I (fun r I' => I' = I ∧ r = some (.inl (es_k1 (es_Qc J) M N (M - i) (N - j) c))) := by
  refine am_enter ok_ju_unshifted rfl ?_
  obtain ⟨q, q5, q6⟩ := id heq
  rw [hN] at q5
  rw [hM] at q6
  have hM4 : M ≤ 24 := by have := hn.1; omega
  have hN4 : N ≤ 24 := by have := hn.2.1; omega
  have c0 := es_fr_c (es_jb (es_Qc J) M N i j c 1 0)
  have c1 := es_fr_c (es_jb (es_Qc J) M N i j c 1 1)
  have c2 := es_fr_c (es_jb (es_Qc J) M N i j c 1 2)
  have l0 := es_jb_le (Q := es_Qc J) (i := i) (j := j) hM4 hN4 c 1 0
  have l1 := es_jb_le (Q := es_Qc J) (i := i) (j := j) hM4 hN4 c 1 1
  have l2 := es_jb_le (Q := es_Qc J) (i := i) (j := j) hM4 hN4 c 1 2
  have kr := (es_k_r (es_Qc J) M N (M - i) (N - j)).2 c
  by_cases g : i = M ∧ j = N
  · have e : es_k1 (es_Qc J) M N (M - i) (N - j) c = 0 := by
      rw [show M - i = 0 by omega, show N - j = 0 by omega, es_k1_0]
      rfl
    rw [e]
    clear h3 c0 c1 c2 l0 l1 l2 kr
    repeat' (first
      | (refine am_gp 80 [] rfl (by first | exact True.intro | (refine And.intro ?_ ?_ <;> decide) | exact Or.inl rfl | exact Or.inr rfl | (simp (decide := true) only [am_p, am_u_at, am_u_j, am_u_ne]; omega) | (simp (decide := true) only [am_p, and_true, true_and, true_or, or_true, am_u_at, am_u_j, am_u_ne]; omega) | (simp (decide := true) [am_p, am_u_at, am_u_j, am_u_ne]; omega)) ?_)
      | (show am_V _ _ _ _ _ _ _; simp only [Int.reduceToNat])
      | (refine am_bt rfl (by first | omega | (simp (decide := true) only [am_u_at, am_u_j, am_u_ne]; omega)) (by first | omega | (simp (decide := true) only [am_u_at, am_u_j, am_u_ne]; omega)) ?_)
      | (refine am_bf rfl (by first | omega | (simp (decide := true) only [am_u_at, am_u_j, am_u_ne]; omega)) (by first | omega | (simp (decide := true) only [am_u_at, am_u_j, am_u_ne]; omega)) ?_)
      | (refine am_br rfl (by first | omega | (simp (decide := true) only [am_u_at, am_u_j, am_u_ne]; omega)) (fun h => ?_) (fun h => ?_))
      | (refine am_rt rfl (by first | exact True.intro | (refine And.intro ?_ ?_ <;> decide) | exact Or.inl rfl | exact Or.inr rfl | (show _ ∨ _; omega)) ?_))
    exact ⟨rfl, rfl⟩
  · have hb := es_jb3 (Q := es_Qc J) hM4 hN4 hi hj g c 1
    have e : min (es_fr (es_jb (es_Qc J) M N i j c 1 0)) (min (es_fr (es_jb (es_Qc J) M N i j c 1 1)) (es_fr (es_jb (es_Qc J) M N i j c 1 2))) = es_k1 (es_Qc J) M N (M - i) (N - j) c := by omega
    rw [← e]
    clear hb kr e
    repeat' (first
      | (refine am_gp 80 [] rfl (by first | exact True.intro | (refine And.intro ?_ ?_ <;> decide) | exact Or.inl rfl | exact Or.inr rfl | (simp (decide := true) only [am_p, am_u_at, am_u_j, am_u_ne]; omega) | (simp (decide := true) only [am_p, and_true, true_and, true_or, or_true, am_u_at, am_u_j, am_u_ne]; omega) | (simp (decide := true) [am_p, am_u_at, am_u_j, am_u_ne]; omega)) ?_)
      | (show am_V _ _ _ _ _ _ _; simp only [Int.reduceToNat])
      | (refine am_bt rfl (by first | omega | (simp (decide := true) only [am_u_at, am_u_j, am_u_ne]; omega)) (by first | omega | (simp (decide := true) only [am_u_at, am_u_j, am_u_ne]; omega)) ?_)
      | (refine am_bf rfl (by first | omega | (simp (decide := true) only [am_u_at, am_u_j, am_u_ne]; omega)) (by first | omega | (simp (decide := true) only [am_u_at, am_u_j, am_u_ne]; omega)) ?_)
      | (refine am_br rfl (by first | omega | (simp (decide := true) only [am_u_at, am_u_j, am_u_ne]; omega)) (fun h => ?_) (fun h => ?_))
      | (refine am_cV (y' := Y_ju_byHit) rfl lk_ju_89 ok_ju_byHit rfl rfl rfl (c_ju_byHit _ _ _ _ _ J M N heq hn hM hN (by first | omega | (simp (decide := true) only [am_u_at, am_u_j, am_u_ne]; omega)) (by first | omega | (simp (decide := true) only [am_u_at, am_u_j, am_u_ne]; omega)) (by first | omega | (simp (decide := true) only [am_u_at, am_u_j, am_u_ne]; omega)) h3) ?_; rintro r I ⟨rfl, rfl⟩)
      | (refine am_cV (y' := Y_ju_byLost) rfl lk_ju_92 ok_ju_byLost rfl rfl rfl (c_ju_byLost _ _ _ _ _ J M N heq hn hM hN (by first | omega | (simp (decide := true) only [am_u_at, am_u_j, am_u_ne]; omega)) (by first | omega | (simp (decide := true) only [am_u_at, am_u_j, am_u_ne]; omega)) (by first | omega | (simp (decide := true) only [am_u_at, am_u_j, am_u_ne]; omega)) h3) ?_; rintro r I ⟨rfl, rfl⟩)
      | (refine am_cV (y' := Y_ju_byMore) rfl lk_ju_95 ok_ju_byMore rfl rfl rfl (c_ju_byMore _ _ _ _ _ J M N heq hn hM hN (by first | omega | (simp (decide := true) only [am_u_at, am_u_j, am_u_ne]; omega)) (by first | omega | (simp (decide := true) only [am_u_at, am_u_j, am_u_ne]; omega)) (by first | omega | (simp (decide := true) only [am_u_at, am_u_j, am_u_ne]; omega)) h3) ?_; rintro r I ⟨rfl, rfl⟩)
      | (refine am_mini rfl mk_ju_80 rfl (by first | omega | (simp (decide := true) only [am_u_at, am_u_j, am_u_ne]; omega)) ?_)
      | (refine am_rt rfl (by first | exact True.intro | (refine And.intro ?_ ?_ <;> decide) | exact Or.inl rfl | exact Or.inr rfl | (show _ ∨ _; omega)) ?_))
    all_goals exact ⟨rfl, rfl⟩
