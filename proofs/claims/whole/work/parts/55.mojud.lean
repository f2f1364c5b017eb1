def es_Qm (I : am_I) : Nat → Nat → Int := es_Q (I 44 3).toNat (I 44 0).toNat (I 47) (I 48) (I 45) (I 46)
def es_nm (I : am_I) : Prop := (0 ≤ I 44 3 ∧ I 44 3 ≤ 24) ∧ (0 ≤ I 44 0 ∧ I 44 0 ≤ 24) ∧ (∀ j : Nat, (j : Int) < I 44 3 → (0 ≤ I 47 j ∧ I 47 j ≤ 127) ∧ (0 ≤ I 48 j ∧ I 48 j ≤ 96)) ∧ (∀ j : Nat, (j : Int) < I 44 0 → (0 ≤ I 45 j ∧ I 45 j ≤ 127) ∧ (0 ≤ I 46 j ∧ I 46 j ≤ 96))
def es_eqm (I J : am_I) : Prop := (I 45 = J 45 ∧ I 46 = J 46 ∧ I 47 = J 47 ∧ I 48 = J 48) ∧ I 44 0 = J 44 0 ∧ I 44 3 = J 44 3
theorem es_Qm0 (J : am_I) {j : Nat} (h : (j : Int) < J 44 3) : es_Qm J 0 j = J 47 j := by
  show (if j < (J 44 3).toNat then J 47 j else 0) = J 47 j
  exact if_pos (by omega)
theorem es_Qm1 (J : am_I) {j : Nat} (h : (j : Int) < J 44 3) : es_Qm J 1 j = J 48 j := by
  show (if j < (J 44 3).toNat then J 48 j else 0) = J 48 j
  exact if_pos (by omega)
theorem es_Qm2 (J : am_I) {j : Nat} (h : (j : Int) < J 44 0) : es_Qm J 2 j = J 45 j := by
  show (if j < (J 44 0).toNat then J 45 j else 0) = J 45 j
  exact if_pos (by omega)
theorem es_Qm3 (J : am_I) {j : Nat} (h : (j : Int) < J 44 0) : es_Qm J 3 j = J 46 j := by
  show (if j < (J 44 0).toNat then J 46 j else 0) = J 46 j
  exact if_pos (by omega)
theorem c_mo_hit (d : Nat) (i j : Nat) (c : Int) (I J : am_I) (heq : es_eqm I J) (hn : es_nm J) (hi : (i : Int) < J 44 3) (hj : (j : Int) < J 44 0) (hc : -12 ≤ c ∧ c ≤ 12) : am_C d Y_mo_hitCost [.inr (.inr 44), .inl i, .inl j, .inl c] I (fun r I' => I' = I ∧ r = some (.inl (es_jh (es_Qm J) i j c))) := by
  refine am_enter ok_mo_hitCost rfl ?_
  obtain ⟨⟨q1, q2, q3, q4⟩, q5, q6⟩ := heq
  obtain ⟨n1, n2, n3, n4⟩ := hn
  have ei : (i : Int).toNat = i := by omega
  have ej : (j : Int).toNat = j := by omega
  have r1 := n3 i hi
  have r2 := n4 j hj
  unfold es_jh
  rw [es_Qm0 J hi, es_Qm1 J hi, es_Qm2 J hj, es_Qm3 J hj]
  have f1 : I 45 (j : Int).toNat = J 45 j := by rw [ej, q1]
  have f2 : I 46 (j : Int).toNat = J 46 j := by rw [ej, q2]
  have f3 : I 47 (i : Int).toNat = J 47 i := by rw [ei, q3]
  have f4 : I 48 (i : Int).toNat = J 48 i := by rw [ei, q4]
  repeat' (first
    | (refine am_gp 80 [] rfl (by first | exact True.intro | (refine And.intro ?_ ?_ <;> decide) | exact Or.inl rfl | exact Or.inr rfl | (simp (decide := true) only [am_p, am_u_at, am_u_j, am_u_ne]; omega) | (simp (decide := true) only [am_p, and_true, true_and, true_or, or_true, am_u_at, am_u_j, am_u_ne]; omega) | (simp (decide := true) [am_p, am_u_at, am_u_j, am_u_ne]; omega)) ?_)
    | (show am_V _ _ _ _ _ _ _; simp only [Int.reduceToNat])
    | (refine am_bt rfl (by first | omega | (simp (decide := true) only [am_u_at, am_u_j, am_u_ne]; omega)) (by first | omega | (simp (decide := true) only [am_u_at, am_u_j, am_u_ne]; omega)) ?_)
    | (refine am_bf rfl (by first | omega | (simp (decide := true) only [am_u_at, am_u_j, am_u_ne]; omega)) (by first | omega | (simp (decide := true) only [am_u_at, am_u_j, am_u_ne]; omega)) ?_)
    | (refine am_br rfl (by first | omega | (simp (decide := true) only [am_u_at, am_u_j, am_u_ne]; omega)) (fun h => ?_) (fun h => ?_))
    | (refine am_rt rfl (by first | exact True.intro | (refine And.intro ?_ ?_ <;> decide) | exact Or.inl rfl | exact Or.inr rfl | (show _ ∨ _; omega)) ?_))
  all_goals (refine ⟨rfl, ?_⟩)
  all_goals (first | rw [if_pos (by omega), if_pos (by omega)] | rw [if_pos (by omega), if_neg (by omega)] | rw [if_neg (by omega), if_pos (by omega)] | rw [if_neg (by omega), if_neg (by omega)])
theorem c_mo_more (d : Nat) (j : Nat) (I J : am_I) (heq : es_eqm I J) (hn : es_nm J) (hj : (j : Int) < J 44 0) : am_C d Y_mo_moreCost [.inr (.inr 44), .inl j] I (fun r I' => I' = I ∧ r = some (.inl (es_jm (es_Qm J) j))) := by
  refine am_enter ok_mo_moreCost rfl ?_
  obtain ⟨⟨q1, q2, q3, q4⟩, q5, q6⟩ := heq
  obtain ⟨n1, n2, n3, n4⟩ := hn
  have ej : (j : Int).toNat = j := by omega
  have ek : ((j : Int) - 1).toNat = j - 1 := by omega
  have r2 := n4 j hj
  have r3 := n4 (j - 1) (by omega)
  unfold es_jm
  rw [es_Qm2 J hj, es_Qm3 J hj, es_Qm2 J (j := j - 1) (by omega), es_Qm3 J (j := j - 1) (by omega)]
  have f1 : I 45 (j : Int).toNat = J 45 j := by rw [ej, q1]
  have f2 : I 46 (j : Int).toNat = J 46 j := by rw [ej, q2]
  have f3 : I 45 ((j : Int) - 1).toNat = J 45 (j - 1) := by rw [ek, q1]
  have f4 : I 46 ((j : Int) - 1).toNat = J 46 (j - 1) := by rw [ek, q2]
  repeat' (first
    | (refine am_gp 80 [] rfl (by first | exact True.intro | (refine And.intro ?_ ?_ <;> decide) | exact Or.inl rfl | exact Or.inr rfl | (simp (decide := true) only [am_p, am_u_at, am_u_j, am_u_ne]; omega) | (simp (decide := true) only [am_p, and_true, true_and, true_or, or_true, am_u_at, am_u_j, am_u_ne]; omega) | (simp (decide := true) [am_p, am_u_at, am_u_j, am_u_ne]; omega)) ?_)
    | (show am_V _ _ _ _ _ _ _; simp only [Int.reduceToNat])
    | (refine am_bt rfl (by first | omega | (simp (decide := true) only [am_u_at, am_u_j, am_u_ne]; omega)) (by first | omega | (simp (decide := true) only [am_u_at, am_u_j, am_u_ne]; omega)) ?_)
    | (refine am_bf rfl (by first | omega | (simp (decide := true) only [am_u_at, am_u_j, am_u_ne]; omega)) (by first | omega | (simp (decide := true) only [am_u_at, am_u_j, am_u_ne]; omega)) ?_)
    | (refine am_br rfl (by first | omega | (simp (decide := true) only [am_u_at, am_u_j, am_u_ne]; omega)) (fun h => ?_) (fun h => ?_))
    | (refine am_rt rfl (by first | exact True.intro | (refine And.intro ?_ ?_ <;> decide) | exact Or.inl rfl | exact Or.inr rfl | (show _ ∨ _; omega)) ?_))
  all_goals (refine ⟨rfl, ?_⟩)
  all_goals (first | rw [if_pos (by omega)] | rw [if_neg (by omega)])
def es_h4 (T : Nat → Int) (Q : Nat → Nat → Int) (M N i j : Nat) (told : Int) : Prop := ∀ c : Int, -12 ≤ c → c ≤ 12 → (i < M → j < N → T (((25 * ((i : Int) + 1) + ((j : Int) + 1)) * 25 + c + 12) * 2 + 0).toNat = es_k0 Q M N (M - i - 1) (N - j - 1) c) ∧ (i < M → T (((25 * ((i : Int) + 1) + (j : Int)) * 25 + c + 12) * 2 + 0).toNat = es_k0 Q M N (M - i - 1) (N - j) c) ∧ (j < N → T (((25 * (i : Int) + ((j : Int) + 1)) * 25 + c + 12) * 2 + 0).toNat = es_k0 Q M N (M - i) (N - j - 1) c) ∧ (told = 0 → i < M → T (((25 * (i : Int) + (j : Int)) * 25 + c + 12) * 2 + 1).toNat = es_k1 Q M N (M - i) (N - j) c)
theorem es_jb_a0 {Q : Nat → Nat → Int} {M N i j : Nat} {c told act : Int} (e : act = 0) (h : i < M ∧ j < N) : es_jb Q M N i j c told act = es_jh Q i j c + es_k0 Q M N (M - i - 1) (N - j - 1) c := by
  unfold es_jb
  rw [if_pos e, if_pos h]
theorem es_jb_b0 {Q : Nat → Nat → Int} {M N i j : Nat} {c told act : Int} (e : act = 0) (h : ¬ (i < M ∧ j < N)) : es_jb Q M N i j c told act = 10000 := by
  unfold es_jb
  rw [if_pos e, if_neg h]
theorem es_jb_a1 {Q : Nat → Nat → Int} {M N i j : Nat} {c told act : Int} (e : act = 1) (h : i < M) : es_jb Q M N i j c told act = 3 + es_k0 Q M N (M - i - 1) (N - j) c := by
  unfold es_jb
  rw [if_neg (by omega), if_pos e, if_pos h]
theorem es_jb_b1 {Q : Nat → Nat → Int} {M N i j : Nat} {c told act : Int} (e : act = 1) (h : ¬ i < M) : es_jb Q M N i j c told act = 10000 := by
  unfold es_jb
  rw [if_neg (by omega), if_pos e, if_neg h]
theorem es_jb_a2 {Q : Nat → Nat → Int} {M N i j : Nat} {c told act : Int} (e : act = 2) (h : j < N) : es_jb Q M N i j c told act = es_jm Q j + es_k0 Q M N (M - i) (N - j - 1) c := by
  unfold es_jb
  rw [if_neg (by omega), if_neg (by omega), if_pos e, if_pos h]
theorem es_jb_b2 {Q : Nat → Nat → Int} {M N i j : Nat} {c told act : Int} (e : act = 2) (h : ¬ j < N) : es_jb Q M N i j c told act = 10000 := by
  unfold es_jb
  rw [if_neg (by omega), if_neg (by omega), if_pos e, if_neg h]
theorem es_jb_a3 {Q : Nat → Nat → Int} {M N i j : Nat} {c told act : Int} (e : 2 < act) (h : told = 0 ∧ i < M ∧ act - 15 ≠ c) : es_jb Q M N i j c told act = 3 + es_k1 Q M N (M - i) (N - j) (act - 15) := by
  unfold es_jb
  rw [if_neg (by omega), if_neg (by omega), if_neg (by omega), if_pos h]
theorem es_jb_b3 {Q : Nat → Nat → Int} {M N i j : Nat} {c told act : Int} (e : 2 < act) (h : ¬ (told = 0 ∧ i < M ∧ act - 15 ≠ c)) : es_jb Q M N i j c told act = 10000 := by
  unfold es_jb
  rw [if_neg (by omega), if_neg (by omega), if_neg (by omega), if_neg h]
theorem c_mo_by (d : Nat) (act : Int) (i j : Nat) (c told : Int) (I J : am_I) (M N : Nat) (heq : es_eqm I J) (hn : es_nm J) (hM : J 44 3 = (M : Int)) (hN : J 44 0 = (N : Int)) (ha : 0 ≤ act ∧ act ≤ 27) (hi : i ≤ M) (hj : j ≤ N) (hc : -12 ≤ c ∧ c ≤ 12) (ht : told = 0 ∨ told = 1) (h4 : es_h4 (I 59) (es_Qm J) M N i j told) : am_C (d + 1) Y_mo_by [.inr (.inr 44), .inl act, .inl i, .inl j, .inl c, .inl told] I (fun r I' => I' = I ∧ r = some (.inl (es_jb (es_Qm J) M N i j c told act))) := by
  refine am_enter ok_mo_by rfl ?_
  obtain ⟨q, q5, q6⟩ := id heq
  rw [hN] at q5
  rw [hM] at q6
  have hM4 : M ≤ 24 := by have := hn.1; omega
  have hN4 : N ≤ 24 := by have := hn.2.1; omega
  have hh := h4 c hc.1 hc.2
  by_cases a0 : act = 0
  · by_cases g : i < M ∧ j < N
    · have h5 := hh.1 g.1 g.2
      rw [es_jb_a0 a0 g, ← h5]
      have a1 := (es_k_r (es_Qm J) M N (M - i - 1) (N - j - 1)).1 c
      rw [← h5] at a1
      have a5 := es_jh_r (es_Qm J) i j c
      clear h4 hh h5
      repeat' (first
        | (refine am_gp 80 [] rfl (by first | exact True.intro | (refine And.intro ?_ ?_ <;> decide) | exact Or.inl rfl | exact Or.inr rfl | (simp (decide := true) only [am_p, am_u_at, am_u_j, am_u_ne]; omega) | (simp (decide := true) only [am_p, and_true, true_and, true_or, or_true, am_u_at, am_u_j, am_u_ne]; omega) | (simp (decide := true) [am_p, am_u_at, am_u_j, am_u_ne]; omega)) ?_)
        | (show am_V _ _ _ _ _ _ _; simp only [Int.reduceToNat])
        | (refine am_bt rfl (by first | omega | (simp (decide := true) only [am_u_at, am_u_j, am_u_ne]; omega)) (by first | omega | (simp (decide := true) only [am_u_at, am_u_j, am_u_ne]; omega)) ?_)
        | (refine am_bf rfl (by first | omega | (simp (decide := true) only [am_u_at, am_u_j, am_u_ne]; omega)) (by first | omega | (simp (decide := true) only [am_u_at, am_u_j, am_u_ne]; omega)) ?_)
        | (refine am_br rfl (by first | omega | (simp (decide := true) only [am_u_at, am_u_j, am_u_ne]; omega)) (fun h => ?_) (fun h => ?_))
        | (refine am_cV (y' := Y_mo_hitCost) rfl lk_mo_223 ok_mo_hitCost rfl rfl rfl (c_mo_hit _ _ _ _ _ J heq hn (by first | omega | (simp (decide := true) only [am_u_at, am_u_j, am_u_ne]; omega)) (by first | omega | (simp (decide := true) only [am_u_at, am_u_j, am_u_ne]; omega)) (by first | omega | (simp (decide := true) only [am_u_at, am_u_j, am_u_ne]; omega))) ?_; rintro r I ⟨rfl, rfl⟩)
        | (refine am_cS (y' := Y_mo_costAt) rfl lk_mo_226 ok_mo_costAt rfl rfl (c_costAt _ _ _ _ _ _) ?_; rintro r I ⟨rfl, rfl⟩)
        | (refine am_rt rfl (by first | exact True.intro | (refine And.intro ?_ ?_ <;> decide) | exact Or.inl rfl | exact Or.inr rfl | (show _ ∨ _; omega)) ?_))
      exact ⟨rfl, rfl⟩
    · rw [es_jb_b0 a0 g]
      clear h4 hh
      repeat' (first
        | (refine am_gp 80 [] rfl (by first | exact True.intro | (refine And.intro ?_ ?_ <;> decide) | exact Or.inl rfl | exact Or.inr rfl | (simp (decide := true) only [am_p, am_u_at, am_u_j, am_u_ne]; omega) | (simp (decide := true) only [am_p, and_true, true_and, true_or, or_true, am_u_at, am_u_j, am_u_ne]; omega) | (simp (decide := true) [am_p, am_u_at, am_u_j, am_u_ne]; omega)) ?_)
        | (show am_V _ _ _ _ _ _ _; simp only [Int.reduceToNat])
        | (refine am_bt rfl (by first | omega | (simp (decide := true) only [am_u_at, am_u_j, am_u_ne]; omega)) (by first | omega | (simp (decide := true) only [am_u_at, am_u_j, am_u_ne]; omega)) ?_)
        | (refine am_bf rfl (by first | omega | (simp (decide := true) only [am_u_at, am_u_j, am_u_ne]; omega)) (by first | omega | (simp (decide := true) only [am_u_at, am_u_j, am_u_ne]; omega)) ?_)
        | (refine am_br rfl (by first | omega | (simp (decide := true) only [am_u_at, am_u_j, am_u_ne]; omega)) (fun h => ?_) (fun h => ?_))
        | (refine am_rt rfl (by first | exact True.intro | (refine And.intro ?_ ?_ <;> decide) | exact Or.inl rfl | exact Or.inr rfl | (show _ ∨ _; omega)) ?_))
      all_goals exact ⟨rfl, rfl⟩
  · by_cases a1 : act = 1
    · by_cases g : i < M
      · have h5 := hh.2.1 g
        rw [es_jb_a1 a1 g, ← h5]
        have b1 := (es_k_r (es_Qm J) M N (M - i - 1) (N - j)).1 c
        rw [← h5] at b1
        clear h4 hh h5
        repeat' (first
          | (refine am_gp 80 [] rfl (by first | exact True.intro | (refine And.intro ?_ ?_ <;> decide) | exact Or.inl rfl | exact Or.inr rfl | (simp (decide := true) only [am_p, am_u_at, am_u_j, am_u_ne]; omega) | (simp (decide := true) only [am_p, and_true, true_and, true_or, or_true, am_u_at, am_u_j, am_u_ne]; omega) | (simp (decide := true) [am_p, am_u_at, am_u_j, am_u_ne]; omega)) ?_)
          | (show am_V _ _ _ _ _ _ _; simp only [Int.reduceToNat])
          | (refine am_bt rfl (by first | omega | (simp (decide := true) only [am_u_at, am_u_j, am_u_ne]; omega)) (by first | omega | (simp (decide := true) only [am_u_at, am_u_j, am_u_ne]; omega)) ?_)
          | (refine am_bf rfl (by first | omega | (simp (decide := true) only [am_u_at, am_u_j, am_u_ne]; omega)) (by first | omega | (simp (decide := true) only [am_u_at, am_u_j, am_u_ne]; omega)) ?_)
          | (refine am_br rfl (by first | omega | (simp (decide := true) only [am_u_at, am_u_j, am_u_ne]; omega)) (fun h => ?_) (fun h => ?_))
          | (refine am_cS (y' := Y_mo_costAt) rfl lk_mo_226 ok_mo_costAt rfl rfl (c_costAt _ _ _ _ _ _) ?_; rintro r I ⟨rfl, rfl⟩)
          | (refine am_rt rfl (by first | exact True.intro | (refine And.intro ?_ ?_ <;> decide) | exact Or.inl rfl | exact Or.inr rfl | (show _ ∨ _; omega)) ?_))
        exact ⟨rfl, rfl⟩
      · rw [es_jb_b1 a1 g]
        clear h4 hh
        repeat' (first
          | (refine am_gp 80 [] rfl (by first | exact True.intro | (refine And.intro ?_ ?_ <;> decide) | exact Or.inl rfl | exact Or.inr rfl | (simp (decide := true) only [am_p, am_u_at, am_u_j, am_u_ne]; omega) | (simp (decide := true) only [am_p, and_true, true_and, true_or, or_true, am_u_at, am_u_j, am_u_ne]; omega) | (simp (decide := true) [am_p, am_u_at, am_u_j, am_u_ne]; omega)) ?_)
          | (show am_V _ _ _ _ _ _ _; simp only [Int.reduceToNat])
          | (refine am_bt rfl (by first | omega | (simp (decide := true) only [am_u_at, am_u_j, am_u_ne]; omega)) (by first | omega | (simp (decide := true) only [am_u_at, am_u_j, am_u_ne]; omega)) ?_)
          | (refine am_bf rfl (by first | omega | (simp (decide := true) only [am_u_at, am_u_j, am_u_ne]; omega)) (by first | omega | (simp (decide := true) only [am_u_at, am_u_j, am_u_ne]; omega)) ?_)
          | (refine am_br rfl (by first | omega | (simp (decide := true) only [am_u_at, am_u_j, am_u_ne]; omega)) (fun h => ?_) (fun h => ?_))
          | (refine am_rt rfl (by first | exact True.intro | (refine And.intro ?_ ?_ <;> decide) | exact Or.inl rfl | exact Or.inr rfl | (show _ ∨ _; omega)) ?_))
        all_goals exact ⟨rfl, rfl⟩
    · by_cases a2 : act = 2
      · by_cases g : j < N
        · have h5 := hh.2.2.1 g
          rw [es_jb_a2 a2 g, ← h5]
          have b1 := (es_k_r (es_Qm J) M N (M - i) (N - j - 1)).1 c
          rw [← h5] at b1
          have a6 := es_jm_r (es_Qm J) j
          clear h4 hh h5
          repeat' (first
            | (refine am_gp 80 [] rfl (by first | exact True.intro | (refine And.intro ?_ ?_ <;> decide) | exact Or.inl rfl | exact Or.inr rfl | (simp (decide := true) only [am_p, am_u_at, am_u_j, am_u_ne]; omega) | (simp (decide := true) only [am_p, and_true, true_and, true_or, or_true, am_u_at, am_u_j, am_u_ne]; omega) | (simp (decide := true) [am_p, am_u_at, am_u_j, am_u_ne]; omega)) ?_)
            | (show am_V _ _ _ _ _ _ _; simp only [Int.reduceToNat])
            | (refine am_bt rfl (by first | omega | (simp (decide := true) only [am_u_at, am_u_j, am_u_ne]; omega)) (by first | omega | (simp (decide := true) only [am_u_at, am_u_j, am_u_ne]; omega)) ?_)
            | (refine am_bf rfl (by first | omega | (simp (decide := true) only [am_u_at, am_u_j, am_u_ne]; omega)) (by first | omega | (simp (decide := true) only [am_u_at, am_u_j, am_u_ne]; omega)) ?_)
            | (refine am_br rfl (by first | omega | (simp (decide := true) only [am_u_at, am_u_j, am_u_ne]; omega)) (fun h => ?_) (fun h => ?_))
            | (refine am_cV (y' := Y_mo_moreCost) rfl lk_mo_230 ok_mo_moreCost rfl rfl rfl (c_mo_more _ _ _ J heq hn (by first | omega | (simp (decide := true) only [am_u_at, am_u_j, am_u_ne]; omega))) ?_; rintro r I ⟨rfl, rfl⟩)
            | (refine am_cS (y' := Y_mo_costAt) rfl lk_mo_226 ok_mo_costAt rfl rfl (c_costAt _ _ _ _ _ _) ?_; rintro r I ⟨rfl, rfl⟩)
            | (refine am_rt rfl (by first | exact True.intro | (refine And.intro ?_ ?_ <;> decide) | exact Or.inl rfl | exact Or.inr rfl | (show _ ∨ _; omega)) ?_))
          exact ⟨rfl, rfl⟩
        · rw [es_jb_b2 a2 g]
          clear h4 hh
          repeat' (first
            | (refine am_gp 80 [] rfl (by first | exact True.intro | (refine And.intro ?_ ?_ <;> decide) | exact Or.inl rfl | exact Or.inr rfl | (simp (decide := true) only [am_p, am_u_at, am_u_j, am_u_ne]; omega) | (simp (decide := true) only [am_p, and_true, true_and, true_or, or_true, am_u_at, am_u_j, am_u_ne]; omega) | (simp (decide := true) [am_p, am_u_at, am_u_j, am_u_ne]; omega)) ?_)
            | (show am_V _ _ _ _ _ _ _; simp only [Int.reduceToNat])
            | (refine am_bt rfl (by first | omega | (simp (decide := true) only [am_u_at, am_u_j, am_u_ne]; omega)) (by first | omega | (simp (decide := true) only [am_u_at, am_u_j, am_u_ne]; omega)) ?_)
            | (refine am_bf rfl (by first | omega | (simp (decide := true) only [am_u_at, am_u_j, am_u_ne]; omega)) (by first | omega | (simp (decide := true) only [am_u_at, am_u_j, am_u_ne]; omega)) ?_)
            | (refine am_br rfl (by first | omega | (simp (decide := true) only [am_u_at, am_u_j, am_u_ne]; omega)) (fun h => ?_) (fun h => ?_))
            | (refine am_rt rfl (by first | exact True.intro | (refine And.intro ?_ ?_ <;> decide) | exact Or.inl rfl | exact Or.inr rfl | (show _ ∨ _; omega)) ?_))
          all_goals exact ⟨rfl, rfl⟩
      · by_cases g : told = 0 ∧ i < M ∧ act - 15 ≠ c
        · have h5 := (h4 (act - 15) (by omega) (by omega)).2.2.2 g.1 g.2.1
          rw [es_jb_a3 (by omega) g, ← h5]
          have b1 := (es_k_r (es_Qm J) M N (M - i) (N - j)).2 (act - 15)
          rw [← h5] at b1
          clear h4 hh h5
          repeat' (first
            | (refine am_gp 80 [] rfl (by first | exact True.intro | (refine And.intro ?_ ?_ <;> decide) | exact Or.inl rfl | exact Or.inr rfl | (simp (decide := true) only [am_p, am_u_at, am_u_j, am_u_ne]; omega) | (simp (decide := true) only [am_p, and_true, true_and, true_or, or_true, am_u_at, am_u_j, am_u_ne]; omega) | (simp (decide := true) [am_p, am_u_at, am_u_j, am_u_ne]; omega)) ?_)
            | (show am_V _ _ _ _ _ _ _; simp only [Int.reduceToNat])
            | (refine am_bt rfl (by first | omega | (simp (decide := true) only [am_u_at, am_u_j, am_u_ne]; omega)) (by first | omega | (simp (decide := true) only [am_u_at, am_u_j, am_u_ne]; omega)) ?_)
            | (refine am_bf rfl (by first | omega | (simp (decide := true) only [am_u_at, am_u_j, am_u_ne]; omega)) (by first | omega | (simp (decide := true) only [am_u_at, am_u_j, am_u_ne]; omega)) ?_)
            | (refine am_br rfl (by first | omega | (simp (decide := true) only [am_u_at, am_u_j, am_u_ne]; omega)) (fun h => ?_) (fun h => ?_))
            | (refine am_cS (y' := Y_mo_costAt) rfl lk_mo_226 ok_mo_costAt rfl rfl (c_costAt _ _ _ _ _ _) ?_; rintro r I ⟨rfl, rfl⟩)
            | (refine am_rt rfl (by first | exact True.intro | (refine And.intro ?_ ?_ <;> decide) | exact Or.inl rfl | exact Or.inr rfl | (show _ ∨ _; omega)) ?_))
          exact ⟨rfl, rfl⟩
        · rw [es_jb_b3 (by omega) g]
          clear h4 hh
          repeat' (first
            | (refine am_gp 80 [] rfl (by first | exact True.intro | (refine And.intro ?_ ?_ <;> decide) | exact Or.inl rfl | exact Or.inr rfl | (simp (decide := true) only [am_p, am_u_at, am_u_j, am_u_ne]; omega) | (simp (decide := true) only [am_p, and_true, true_and, true_or, or_true, am_u_at, am_u_j, am_u_ne]; omega) | (simp (decide := true) [am_p, am_u_at, am_u_j, am_u_ne]; omega)) ?_)
            | (show am_V _ _ _ _ _ _ _; simp only [Int.reduceToNat])
            | (refine am_bt rfl (by first | omega | (simp (decide := true) only [am_u_at, am_u_j, am_u_ne]; omega)) (by first | omega | (simp (decide := true) only [am_u_at, am_u_j, am_u_ne]; omega)) ?_)
            | (refine am_bf rfl (by first | omega | (simp (decide := true) only [am_u_at, am_u_j, am_u_ne]; omega)) (by first | omega | (simp (decide := true) only [am_u_at, am_u_j, am_u_ne]; omega)) ?_)
            | (refine am_br rfl (by first | omega | (simp (decide := true) only [am_u_at, am_u_j, am_u_ne]; omega)) (fun h => ?_) (fun h => ?_))
            | (refine am_rt rfl (by first | exact True.intro | (refine And.intro ?_ ?_ <;> decide) | exact Or.inl rfl | exact Or.inr rfl | (show _ ∨ _; omega)) ?_))
          all_goals exact ⟨rfl, rfl⟩
theorem c_mo_least (d : Nat) (i j : Nat) (c told : Int) (I J : am_I) (M N : Nat) (heq : es_eqm I J) (hn : es_nm J) (hM : J 44 3 = (M : Int)) (hN : J 44 0 = (N : Int)) (hi : i ≤ M) (hj : j ≤ N) (hc : -12 ≤ c ∧ c ≤ 12) (ht : told = 0 ∨ told = 1) (h4 : es_h4 (I 59) (es_Qm J) M N i j told) : am_C (d + 2) Y_mo_leastAt [.inr (.inr 44), .inl i, .inl j, .inl c, .inl told] I (fun r I' => I' = I ∧ r = some (.inl (es_kt (es_Qm J) M N told (M - i) (N - j) c))) := by
  refine am_enter ok_mo_leastAt rfl ?_
  obtain ⟨q, q5, q6⟩ := id heq
  rw [hN] at q5
  rw [hM] at q6
  have hM4 : M ≤ 24 := by have := hn.1; omega
  have hN4 : N ≤ 24 := by have := hn.2.1; omega
  have loop : ∀ (m k : Nat), ¬ (i = M ∧ j = N) → k ≤ 28 → 28 - k < m → am_V (d + 2) Y_mo_leastAt (fun r I' => I' = I ∧ r = some (.inl (es_kt (es_Qm J) M N told (M - i) (N - j) c))) 26 [(0, .inr (.inr 44)), (1, .inl i), (2, .inl j), (3, .inl c), (4, .inl told), (5, .inl (es_fd es_on 10000 (es_jb (es_Qm J) M N i j c told) 0 k)), (6, .inl k)] [] I := by
    intro m
    induction m with
    | zero => intro k h0 h1 h2; omega
    | succ m ih =>
      intro k h0 h1 h2
      have hb := es_jb_le (Q := es_Qm J) (i := i) (j := j) hM4 hN4 c told (k : Int)
      have hk := es_fn_le (f := es_jb (es_Qm J) M N i j c told) (a := 0) k
      have hk2 := es_fn_ge (f := es_jb (es_Qm J) M N i j c told) (a := 0) (b := 0) (by omega) (fun x => (es_jb_le hM4 hN4 c told x).1) k
      have e9 : es_fd es_on 10000 (es_jb (es_Qm J) M N i j c told) 0 (k + 1) = min (es_fd es_on 10000 (es_jb (es_Qm J) M N i j c told) 0 k) (es_jb (es_Qm J) M N i j c told (k : Int)) := by
        show min _ (es_jb (es_Qm J) M N i j c told (0 + (k : Int))) = _
        rw [show 0 + (k : Int) = k by omega]
      have h9 : k < 28 → _ := fun h => ih (k + 1) h0 (by omega) (by omega)
      rw [e9, show ((k + 1 : Nat) : Int) = (k : Int) + 1 by omega] at h9
      have hmin := es_jb_min (Q := es_Qm J) hM4 hN4 hi hj h0 hc ht
      refine am_go 1 [] rfl trivial ?_
      repeat' (first
        | (refine am_gp 80 [26] rfl (by first | exact True.intro | (refine And.intro ?_ ?_ <;> decide) | exact Or.inl rfl | exact Or.inr rfl | (simp (decide := true) only [am_p, am_u_at, am_u_j, am_u_ne]; omega) | (simp (decide := true) only [am_p, and_true, true_and, true_or, or_true, am_u_at, am_u_j, am_u_ne]; omega) | (simp (decide := true) [am_p, am_u_at, am_u_j, am_u_ne]; omega)) ?_)
        | (show am_V _ _ _ _ _ _ _; simp only [Int.reduceToNat])
        | (refine am_bt rfl (by first | omega | (simp (decide := true) only [am_u_at, am_u_j, am_u_ne]; omega)) (by first | omega | (simp (decide := true) only [am_u_at, am_u_j, am_u_ne]; omega)) ?_)
        | (refine am_bf rfl (by first | omega | (simp (decide := true) only [am_u_at, am_u_j, am_u_ne]; omega)) (by first | omega | (simp (decide := true) only [am_u_at, am_u_j, am_u_ne]; omega)) ?_)
        | (refine am_br rfl (by first | omega | (simp (decide := true) only [am_u_at, am_u_j, am_u_ne]; omega)) (fun h => ?_) (fun h => ?_))
        | (refine am_cV (y' := Y_mo_by) rfl lk_mo_234 ok_mo_by rfl rfl rfl (c_mo_by _ _ _ _ _ _ _ J M N heq hn hM hN (by first | omega | (simp (decide := true) only [am_u_at, am_u_j, am_u_ne]; omega)) (by first | omega | (simp (decide := true) only [am_u_at, am_u_j, am_u_ne]; omega)) (by first | omega | (simp (decide := true) only [am_u_at, am_u_j, am_u_ne]; omega)) (by first | omega | (simp (decide := true) only [am_u_at, am_u_j, am_u_ne]; omega)) (by first | omega | (simp (decide := true) only [am_u_at, am_u_j, am_u_ne]; omega)) h4) ?_; rintro r I ⟨rfl, rfl⟩)
        | (refine am_rt rfl (by first | exact True.intro | (refine And.intro ?_ ?_ <;> decide) | exact Or.inl rfl | exact Or.inr rfl | (show _ ∨ _; omega)) ?_))
      · have ek : k = 28 := by omega
        refine ⟨rfl, ?_⟩
        rw [← hmin, ek]
      · refine am_wk [7] ?_
        have h8 := h9 (by omega)
        rw [show min (es_fd es_on 10000 (es_jb (es_Qm J) M N i j c told) 0 k) (es_jb (es_Qm J) M N i j c told (k : Int)) = es_fd es_on 10000 (es_jb (es_Qm J) M N i j c told) 0 k by omega] at h8
        exact h8
      · refine am_wk [7] ?_
        have h8 := h9 (by omega)
        rw [show min (es_fd es_on 10000 (es_jb (es_Qm J) M N i j c told) 0 k) (es_jb (es_Qm J) M N i j c told (k : Int)) = es_jb (es_Qm J) M N i j c told (k : Int) by omega] at h8
        exact h8
  repeat' (first
    | (refine am_gp 80 [26] rfl (by first | exact True.intro | (refine And.intro ?_ ?_ <;> decide) | exact Or.inl rfl | exact Or.inr rfl | (simp (decide := true) only [am_p, am_u_at, am_u_j, am_u_ne]; omega) | (simp (decide := true) only [am_p, and_true, true_and, true_or, or_true, am_u_at, am_u_j, am_u_ne]; omega) | (simp (decide := true) [am_p, am_u_at, am_u_j, am_u_ne]; omega)) ?_)
    | (show am_V _ _ _ _ _ _ _; simp only [Int.reduceToNat])
    | (refine am_bt rfl (by first | omega | (simp (decide := true) only [am_u_at, am_u_j, am_u_ne]; omega)) (by first | omega | (simp (decide := true) only [am_u_at, am_u_j, am_u_ne]; omega)) ?_)
    | (refine am_bf rfl (by first | omega | (simp (decide := true) only [am_u_at, am_u_j, am_u_ne]; omega)) (by first | omega | (simp (decide := true) only [am_u_at, am_u_j, am_u_ne]; omega)) ?_)
    | (refine am_br rfl (by first | omega | (simp (decide := true) only [am_u_at, am_u_j, am_u_ne]; omega)) (fun h => ?_) (fun h => ?_))
    | (refine am_rt rfl (by first | exact True.intro | (refine And.intro ?_ ?_ <;> decide) | exact Or.inl rfl | exact Or.inr rfl | (show _ ∨ _; omega)) ?_))
  · exact loop 30 0 (by omega) (by omega) (by omega)
  · exact loop 30 0 (by omega) (by omega) (by omega)
  · refine ⟨rfl, ?_⟩
    unfold es_kt
    rw [show M - i = 0 by omega, show N - j = 0 by omega, es_k0_0, es_k1_0]
    split <;> rfl
theorem c_layAct (d : Nat) (act i j c cost : Int) (I : am_I) (ha : 0 ≤ act ∧ act ≤ 27) (hn : 0 ≤ I 44 32 ∧ I 44 32 < 100) : am_C d Y_mo_layAct [.inr (.inr 44), .inl act, .inl i, .inl j, .inl c, .inl cost] I (fun r I' => r = none ∧ I' = am_u (am_u (am_u (am_u (am_u (am_u I 60 (I 44 32).toNat act) 61 (I 44 32).toNat (if act < 2 then i else -1)) 62 (I 44 32).toNat (if act = 0 ∨ act = 2 then j else -1)) 63 (I 44 32).toNat cost) 64 (I 44 32).toNat c) 44 32 (I 44 32 + 1)) := by
  refine am_enter ok_mo_layAct rfl ?_
  repeat' (first
    | (refine am_gp 80 [] rfl (by first | exact True.intro | (refine And.intro ?_ ?_ <;> decide) | exact Or.inl rfl | exact Or.inr rfl | (simp (decide := true) only [am_p, am_u_at, am_u_j, am_u_ne]; omega) | (simp (decide := true) only [am_p, and_true, true_and, true_or, or_true, am_u_at, am_u_j, am_u_ne]; omega) | (simp (decide := true) [am_p, am_u_at, am_u_j, am_u_ne]; omega)) ?_)
    | (show am_V _ _ _ _ _ _ _; simp only [Int.reduceToNat])
    | (refine am_bt rfl (by first | omega | (simp (decide := true) only [am_u_at, am_u_j, am_u_ne]; omega)) (by first | omega | (simp (decide := true) only [am_u_at, am_u_j, am_u_ne]; omega)) ?_)
    | (refine am_bf rfl (by first | omega | (simp (decide := true) only [am_u_at, am_u_j, am_u_ne]; omega)) (by first | omega | (simp (decide := true) only [am_u_at, am_u_j, am_u_ne]; omega)) ?_)
    | (refine am_br rfl (by first | omega | (simp (decide := true) only [am_u_at, am_u_j, am_u_ne]; omega)) (fun h => ?_) (fun h => ?_))
    | (refine am_rt rfl (by first | exact True.intro | (refine And.intro ?_ ?_ <;> decide) | exact Or.inl rfl | exact Or.inr rfl | (show _ ∨ _; omega)) ?_))
  all_goals (refine ⟨rfl, ?_⟩)
  all_goals (simp (decide := true) only [am_u_at, am_u_j, am_u_ne])
  all_goals (first | rw [if_pos (by omega), if_pos (by omega)] | rw [if_pos (by omega), if_neg (by omega)] | rw [if_neg (by omega), if_pos (by omega)] | rw [if_neg (by omega), if_neg (by omega)])
