def es_Qc (I : am_I) : Nat → Nat → Int := es_Q (I 4 2).toNat (I 1 2).toNat (I 5) (I 6) (I 2) (I 3)
def es_nc (I : am_I) : Prop := (0 ≤ I 4 2 ∧ I 4 2 ≤ 24) ∧ (0 ≤ I 1 2 ∧ I 1 2 ≤ 24) ∧ (∀ j : Nat, (j : Int) < I 4 2 → (0 ≤ I 5 j ∧ I 5 j ≤ 127) ∧ (0 ≤ I 6 j ∧ I 6 j ≤ 96)) ∧ (∀ j : Nat, (j : Int) < I 1 2 → (0 ≤ I 2 j ∧ I 2 j ≤ 127) ∧ (0 ≤ I 3 j ∧ I 3 j ≤ 96))
def es_eqc (I J : am_I) : Prop := (I 2 = J 2 ∧ I 3 = J 3 ∧ I 5 = J 5 ∧ I 6 = J 6) ∧ I 1 2 = J 1 2 ∧ I 4 2 = J 4 2
theorem es_Qc0 (J : am_I) {j : Nat} (h : (j : Int) < J 4 2) : es_Qc J 0 j = J 5 j := by
  show (if j < (J 4 2).toNat then J 5 j else 0) = J 5 j
  exact if_pos (by omega)
theorem es_Qc1 (J : am_I) {j : Nat} (h : (j : Int) < J 4 2) : es_Qc J 1 j = J 6 j := by
  show (if j < (J 4 2).toNat then J 6 j else 0) = J 6 j
  exact if_pos (by omega)
theorem es_Qc2 (J : am_I) {j : Nat} (h : (j : Int) < J 1 2) : es_Qc J 2 j = J 2 j := by
  show (if j < (J 1 2).toNat then J 2 j else 0) = J 2 j
  exact if_pos (by omega)
theorem es_Qc3 (J : am_I) {j : Nat} (h : (j : Int) < J 1 2) : es_Qc J 3 j = J 3 j := by
  show (if j < (J 1 2).toNat then J 3 j else 0) = J 3 j
  exact if_pos (by omega)
theorem c_ju_len (d : Nat) (i j : Nat) (I J : am_I) (heq : es_eqc I J) (hn : es_nc J) (hi : (i : Int) < J 4 2) (hj : (j : Int) < J 1 2) : am_C d Y_ju_lengthCost [.inr (.inr 23), .inl i, .inl j] I (fun r I' => I' = I ∧ r = some (.inl (if J 3 j = J 6 i then 0 else 1))) := by
  refine am_enter ok_ju_lengthCost rfl ?_
  obtain ⟨⟨q1, q2, q3, q4⟩, q5, q6⟩ := heq
  obtain ⟨n1, n2, n3, n4⟩ := hn
  have ei : (i : Int).toNat = i := by omega
  have ej : (j : Int).toNat = j := by omega
  have r1 := n3 i hi
  have r2 := n4 j hj
  have f2 : I 3 (j : Int).toNat = J 3 j := by rw [ej, q2]
  have f4 : I 6 (i : Int).toNat = J 6 i := by rw [ei, q4]
  repeat' (first
    | (refine am_gp 80 [] rfl (by first | exact True.intro | (refine And.intro ?_ ?_ <;> decide) | exact Or.inl rfl | exact Or.inr rfl | (simp (decide := true) only [am_p, am_u_at, am_u_j, am_u_ne]; omega) | (simp (decide := true) only [am_p, and_true, true_and, true_or, or_true, am_u_at, am_u_j, am_u_ne]; omega) | (simp (decide := true) [am_p, am_u_at, am_u_j, am_u_ne]; omega)) ?_)
    | (show am_V _ _ _ _ _ _ _; simp only [Int.reduceToNat])
    | (refine am_bt rfl (by first | omega | (simp (decide := true) only [am_u_at, am_u_j, am_u_ne]; omega)) (by first | omega | (simp (decide := true) only [am_u_at, am_u_j, am_u_ne]; omega)) ?_)
    | (refine am_bf rfl (by first | omega | (simp (decide := true) only [am_u_at, am_u_j, am_u_ne]; omega)) (by first | omega | (simp (decide := true) only [am_u_at, am_u_j, am_u_ne]; omega)) ?_)
    | (refine am_br rfl (by first | omega | (simp (decide := true) only [am_u_at, am_u_j, am_u_ne]; omega)) (fun h => ?_) (fun h => ?_))
    | (refine am_rt rfl (by first | exact True.intro | (refine And.intro ?_ ?_ <;> decide) | exact Or.inl rfl | exact Or.inr rfl | (show _ ∨ _; omega)) ?_))
  all_goals (refine ⟨rfl, ?_⟩)
  all_goals (first | rw [if_pos (by omega)] | rw [if_neg (by omega)])
theorem c_ju_hit (d : Nat) (i j : Nat) (c : Int) (I J : am_I) (heq : es_eqc I J) (hn : es_nc J) (hi : (i : Int) < J 4 2) (hj : (j : Int) < J 1 2) (hc : -12 ≤ c ∧ c ≤ 12) : am_C (d + 1) Y_ju_hitCost [.inr (.inr 23), .inl i, .inl j, .inl c] I (fun r I' => I' = I ∧ r = some (.inl (es_jh (es_Qc J) i j c))) := by
  refine am_enter ok_ju_hitCost rfl ?_
  obtain ⟨⟨q1, q2, q3, q4⟩, q5, q6⟩ := id heq
  obtain ⟨n1, n2, n3, n4⟩ := id hn
  have ei : (i : Int).toNat = i := by omega
  have ej : (j : Int).toNat = j := by omega
  have r1 := n3 i hi
  have r2 := n4 j hj
  unfold es_jh
  rw [es_Qc0 J hi, es_Qc1 J hi, es_Qc2 J hj, es_Qc3 J hj]
  have f1 : I 2 (j : Int).toNat = J 2 j := by rw [ej, q1]
  have f3 : I 5 (i : Int).toNat = J 5 i := by rw [ei, q3]
  repeat' (first
    | (refine am_gp 80 [] rfl (by first | exact True.intro | (refine And.intro ?_ ?_ <;> decide) | exact Or.inl rfl | exact Or.inr rfl | (simp (decide := true) only [am_p, am_u_at, am_u_j, am_u_ne]; omega) | (simp (decide := true) only [am_p, and_true, true_and, true_or, or_true, am_u_at, am_u_j, am_u_ne]; omega) | (simp (decide := true) [am_p, am_u_at, am_u_j, am_u_ne]; omega)) ?_)
    | (show am_V _ _ _ _ _ _ _; simp only [Int.reduceToNat])
    | (refine am_bt rfl (by first | omega | (simp (decide := true) only [am_u_at, am_u_j, am_u_ne]; omega)) (by first | omega | (simp (decide := true) only [am_u_at, am_u_j, am_u_ne]; omega)) ?_)
    | (refine am_bf rfl (by first | omega | (simp (decide := true) only [am_u_at, am_u_j, am_u_ne]; omega)) (by first | omega | (simp (decide := true) only [am_u_at, am_u_j, am_u_ne]; omega)) ?_)
    | (refine am_br rfl (by first | omega | (simp (decide := true) only [am_u_at, am_u_j, am_u_ne]; omega)) (fun h => ?_) (fun h => ?_))
    | (refine am_cV (y' := Y_ju_lengthCost) rfl lk_ju_71 ok_ju_lengthCost rfl rfl rfl (c_ju_len _ _ _ _ J heq hn (by first | omega | (simp (decide := true) only [am_u_at, am_u_j, am_u_ne]; omega)) (by first | omega | (simp (decide := true) only [am_u_at, am_u_j, am_u_ne]; omega))) ?_; rintro r I ⟨rfl, rfl⟩)
    | (refine am_rt rfl (by first | exact True.intro | (refine And.intro ?_ ?_ <;> decide) | exact Or.inl rfl | exact Or.inr rfl | (show _ ∨ _; omega)) ?_))
  all_goals (refine ⟨rfl, ?_⟩)
  all_goals first
    | (rw [if_pos (show J 2 j = J 5 i + c by omega)]; rw [Int.add_comm])
    | (rw [if_neg (show ¬ J 2 j = J 5 i + c by omega)]; rw [Int.add_comm])
theorem c_ju_more (d : Nat) (j : Nat) (I J : am_I) (heq : es_eqc I J) (hn : es_nc J) (hj : (j : Int) < J 1 2) : am_C d Y_ju_moreCost [.inr (.inr 23), .inl j] I (fun r I' => I' = I ∧ r = some (.inl (es_jm (es_Qc J) j))) := by
  refine am_enter ok_ju_moreCost rfl ?_
  obtain ⟨⟨q1, q2, q3, q4⟩, q5, q6⟩ := heq
  obtain ⟨n1, n2, n3, n4⟩ := hn
  have ej : (j : Int).toNat = j := by omega
  have ek : ((j : Int) - 1).toNat = j - 1 := by omega
  have r2 := n4 j hj
  have r3 := n4 (j - 1) (by omega)
  unfold es_jm
  rw [es_Qc2 J hj, es_Qc3 J hj, es_Qc2 J (j := j - 1) (by omega), es_Qc3 J (j := j - 1) (by omega)]
  have f1 : I 2 (j : Int).toNat = J 2 j := by rw [ej, q1]
  have f2 : I 3 (j : Int).toNat = J 3 j := by rw [ej, q2]
  have f3 : I 2 ((j : Int) - 1).toNat = J 2 (j - 1) := by rw [ek, q1]
  have f4 : I 3 ((j : Int) - 1).toNat = J 3 (j - 1) := by rw [ek, q2]
  repeat' (first
    | (refine am_gp 80 [] rfl (by first | exact True.intro | (refine And.intro ?_ ?_ <;> decide) | exact Or.inl rfl | exact Or.inr rfl | (simp (decide := true) only [am_p, am_u_at, am_u_j, am_u_ne]; omega) | (simp (decide := true) only [am_p, and_true, true_and, true_or, or_true, am_u_at, am_u_j, am_u_ne]; omega) | (simp (decide := true) [am_p, am_u_at, am_u_j, am_u_ne]; omega)) ?_)
    | (show am_V _ _ _ _ _ _ _; simp only [Int.reduceToNat])
    | (refine am_bt rfl (by first | omega | (simp (decide := true) only [am_u_at, am_u_j, am_u_ne]; omega)) (by first | omega | (simp (decide := true) only [am_u_at, am_u_j, am_u_ne]; omega)) ?_)
    | (refine am_bf rfl (by first | omega | (simp (decide := true) only [am_u_at, am_u_j, am_u_ne]; omega)) (by first | omega | (simp (decide := true) only [am_u_at, am_u_j, am_u_ne]; omega)) ?_)
    | (refine am_br rfl (by first | omega | (simp (decide := true) only [am_u_at, am_u_j, am_u_ne]; omega)) (fun h => ?_) (fun h => ?_))
    | (refine am_rt rfl (by first | exact True.intro | (refine And.intro ?_ ?_ <;> decide) | exact Or.inl rfl | exact Or.inr rfl | (show _ ∨ _; omega)) ?_))
  all_goals (refine ⟨rfl, ?_⟩)
  all_goals (first | rw [if_pos (by omega)] | rw [if_neg (by omega)])
theorem c_ju_index (d : Nat) (i j c : Int) (I : am_I) : am_C d Y_ju_index [.inr (.inr 23), .inl i, .inl j, .inl c] I (fun r I' => I' = I ∧ r = some (.inl ((i * 25 + j) * 25 + c + 12))) := by
  refine am_enter ok_ju_index rfl ?_
  repeat' (first
    | (refine am_gp 80 [] rfl (by first | exact True.intro | (refine And.intro ?_ ?_ <;> decide) | exact Or.inl rfl | exact Or.inr rfl | (simp (decide := true) only [am_p, am_u_at, am_u_j, am_u_ne]; omega) | (simp (decide := true) only [am_p, and_true, true_and, true_or, or_true, am_u_at, am_u_j, am_u_ne]; omega) | (simp (decide := true) [am_p, am_u_at, am_u_j, am_u_ne]; omega)) ?_)
    | (show am_V _ _ _ _ _ _ _; simp only [Int.reduceToNat])
    | (refine am_bt rfl (by first | omega | (simp (decide := true) only [am_u_at, am_u_j, am_u_ne]; omega)) (by first | omega | (simp (decide := true) only [am_u_at, am_u_j, am_u_ne]; omega)) ?_)
    | (refine am_bf rfl (by first | omega | (simp (decide := true) only [am_u_at, am_u_j, am_u_ne]; omega)) (by first | omega | (simp (decide := true) only [am_u_at, am_u_j, am_u_ne]; omega)) ?_)
    | (refine am_br rfl (by first | omega | (simp (decide := true) only [am_u_at, am_u_j, am_u_ne]; omega)) (fun h => ?_) (fun h => ?_))
    | (refine am_rt rfl (by first | exact True.intro | (refine And.intro ?_ ?_ <;> decide) | exact Or.inl rfl | exact Or.inr rfl | (show _ ∨ _; omega)) ?_))
  exact ⟨rfl, rfl⟩
theorem c_ju_from (d : Nat) (i j c : Int) (I : am_I) (h : 0 ≤ (i * 25 + j) * 25 + c + 12 ∧ (i * 25 + j) * 25 + c + 12 < 15625) : am_C (d + 1) Y_ju_from [.inr (.inr 23), .inl i, .inl j, .inl c] I (fun r I' => I' = I ∧ r = some (.inl (I 24 ((i * 25 + j) * 25 + c + 12).toNat))) := by
  refine am_enter ok_ju_from rfl ?_
  repeat' (first
    | (refine am_gp 80 [] rfl (by first | exact True.intro | (refine And.intro ?_ ?_ <;> decide) | exact Or.inl rfl | exact Or.inr rfl | (simp (decide := true) only [am_p, am_u_at, am_u_j, am_u_ne]; omega) | (simp (decide := true) only [am_p, and_true, true_and, true_or, or_true, am_u_at, am_u_j, am_u_ne]; omega) | (simp (decide := true) [am_p, am_u_at, am_u_j, am_u_ne]; omega)) ?_)
    | (show am_V _ _ _ _ _ _ _; simp only [Int.reduceToNat])
    | (refine am_bt rfl (by first | omega | (simp (decide := true) only [am_u_at, am_u_j, am_u_ne]; omega)) (by first | omega | (simp (decide := true) only [am_u_at, am_u_j, am_u_ne]; omega)) ?_)
    | (refine am_bf rfl (by first | omega | (simp (decide := true) only [am_u_at, am_u_j, am_u_ne]; omega)) (by first | omega | (simp (decide := true) only [am_u_at, am_u_j, am_u_ne]; omega)) ?_)
    | (refine am_br rfl (by first | omega | (simp (decide := true) only [am_u_at, am_u_j, am_u_ne]; omega)) (fun h => ?_) (fun h => ?_))
    | (refine am_cV (y' := Y_ju_index) rfl lk_ju_62 ok_ju_index rfl rfl rfl (c_ju_index _ _ _ _ _) ?_; rintro r I ⟨rfl, rfl⟩)
    | (refine am_cN (y' := Y_es_outside) rfl lk_ju_85 ok_es_outside rfl rfl (c_outside _ _ _ _ _ (by first | omega | (simp (decide := true) only [am_u_at, am_u_j, am_u_ne]; omega)) (by first | omega | (simp (decide := true) only [am_u_at, am_u_j, am_u_ne]; omega)) (by first | omega | (simp (decide := true) only [am_u_at, am_u_j, am_u_ne]; omega))) ?_; rintro r I ⟨rfl, (⟨rfl, h⟩ | ⟨rfl, h⟩)⟩ <;> (try (exfalso; omega)))
    | (refine am_rt rfl (by first | exact True.intro | (refine And.intro ?_ ?_ <;> decide) | exact Or.inl rfl | exact Or.inr rfl | (show _ ∨ _; omega)) ?_))
  exact ⟨rfl, rfl⟩
theorem c_ju_push (d : Nat) (a i j c : Int) (I : am_I) (hn : 0 ≤ I 23 7 ∧ I 23 7 < 96) : am_C d Y_ju_push [.inr (.inr 23), .inl a, .inl i, .inl j, .inl c] I (fun r I' => r = none ∧ I' = am_u (am_u (am_u (am_u (am_u I 25 (I 23 7).toNat a) 26 (I 23 7).toNat i) 27 (I 23 7).toNat j) 28 (I 23 7).toNat c) 23 7 (I 23 7 + 1)) := by
  refine am_enter ok_ju_push rfl ?_
  repeat' (first
    | (refine am_gp 80 [] rfl (by first | exact True.intro | (refine And.intro ?_ ?_ <;> decide) | exact Or.inl rfl | exact Or.inr rfl | (simp (decide := true) only [am_p, am_u_at, am_u_j, am_u_ne]; omega) | (simp (decide := true) only [am_p, and_true, true_and, true_or, or_true, am_u_at, am_u_j, am_u_ne]; omega) | (simp (decide := true) [am_p, am_u_at, am_u_j, am_u_ne]; omega)) ?_)
    | (show am_V _ _ _ _ _ _ _; simp only [Int.reduceToNat])
    | (refine am_bt rfl (by first | omega | (simp (decide := true) only [am_u_at, am_u_j, am_u_ne]; omega)) (by first | omega | (simp (decide := true) only [am_u_at, am_u_j, am_u_ne]; omega)) ?_)
    | (refine am_bf rfl (by first | omega | (simp (decide := true) only [am_u_at, am_u_j, am_u_ne]; omega)) (by first | omega | (simp (decide := true) only [am_u_at, am_u_j, am_u_ne]; omega)) ?_)
    | (refine am_br rfl (by first | omega | (simp (decide := true) only [am_u_at, am_u_j, am_u_ne]; omega)) (fun h => ?_) (fun h => ?_))
    | (refine am_rt rfl (by first | exact True.intro | (refine And.intro ?_ ?_ <;> decide) | exact Or.inl rfl | exact Or.inr rfl | (show _ ∨ _; omega)) ?_))
  refine ⟨rfl, ?_⟩
  simp (decide := true) only [am_u_at, am_u_j, am_u_ne]
