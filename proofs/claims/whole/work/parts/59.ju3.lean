theorem c_ju_border (d : Nat) (i j : Nat) (I0 J : am_I) (M N : Nat) (heq : es_eqc I0 J) (hn : es_nc J) (hM : J 4 2 = (M : Int)) (hN : J 1 2 = (N : Int)) (hi : i ≤ M) (hj : j ≤ N) (hb : i = M ∨ j = N) (h3 : es_h3 (I0 24) (es_Qc J) M N i j) : am_C (d + 4) Y_ju_fillBorder [.inr (.inr 23), .inl i, .inl j] I0 (fun r I' => r = none ∧ am_fr I0 I' [24] ∧ (∀ x : Nat, ¬ (((i : Int) * 25 + (j : Int)) * 25 ≤ (x : Int) ∧ (x : Int) < ((i : Int) * 25 + (j : Int)) * 25 + 25) → I' 24 x = I0 24 x) ∧ ∀ c : Int, -12 ≤ c → c ≤ 12 → I' 24 (((i : Int) * 25 + (j : Int)) * 25 + c + 12).toNat = es_k0 (es_Qc J) M N (M - i) (N - j) c) := by
  refine am_enter ok_ju_fillBorder rfl ?_
  have hM4 : M ≤ 24 := by have := hn.1; omega
  have hN4 : N ≤ 24 := by have := hn.2.1; omega
  have hk : ∀ c : Int, es_k0 (es_Qc J) M N (M - i) (N - j) c = es_k1 (es_Qc J) M N (M - i) (N - j) 0 := by
    intro c
    rcases hb with e | e
    · rw [show M - i = 0 by omega]
      rfl
    · rw [show N - j = 0 by omega, es_k0_0, es_k1_0]
  have loop : ∀ (m : Nat) (c : Int) (I : am_I), 0 ≤ c → c ≤ 25 → 25 - c < m → am_fr I0 I [24] → (∀ x : Nat, ¬ (((i : Int) * 25 + (j : Int)) * 25 ≤ (x : Int) ∧ (x : Int) < ((i : Int) * 25 + (j : Int)) * 25 + 25) → I 24 x = I0 24 x) → (∀ y : Int, 0 ≤ y → y < c → I 24 (((i : Int) * 25 + (j : Int)) * 25 + y).toNat = es_k1 (es_Qc J) M N (M - i) (N - j) 0) → am_V (d + 4) Y_ju_fillBorder (fun r I' => r = none ∧ am_fr I0 I' [24] ∧ (∀ x : Nat, ¬ (((i : Int) * 25 + (j : Int)) * 25 ≤ (x : Int) ∧ (x : Int) < ((i : Int) * 25 + (j : Int)) * 25 + 25) → I' 24 x = I0 24 x) ∧ ∀ c : Int, -12 ≤ c → c ≤ 12 → I' 24 (((i : Int) * 25 + (j : Int)) * 25 + c + 12).toNat = es_k0 (es_Qc J) M N (M - i) (N - j) c) 21 [(0, .inr (.inr 23)), (1, .inl i), (2, .inl j), (3, .inl (((i : Int) * 25 + (j : Int)) * 25)), (4, .inl (es_k1 (es_Qc J) M N (M - i) (N - j) 0)), (5, .inl c)] [] I := by
    intro m
    induction m with
    | zero => intro c I h1 h2 h3; omega
    | succ m ih =>
      intro c I h1 h2 h3 hf hou hin
      refine am_go 1 [] rfl trivial ?_
      repeat' (first
        | (refine am_gp 80 [21] rfl (by first | exact True.intro | (refine And.intro ?_ ?_ <;> decide) | exact Or.inl rfl | exact Or.inr rfl | (simp (decide := true) only [am_p, am_u_at, am_u_j, am_u_ne]; omega) | (simp (decide := true) only [am_p, and_true, true_and, true_or, or_true, am_u_at, am_u_j, am_u_ne]; omega) | (simp (decide := true) [am_p, am_u_at, am_u_j, am_u_ne]; omega)) ?_)
        | (show am_V _ _ _ _ _ _ _; simp only [Int.reduceToNat])
        | (refine am_bt rfl (by first | omega | (simp (decide := true) only [am_u_at, am_u_j, am_u_ne]; omega)) (by first | omega | (simp (decide := true) only [am_u_at, am_u_j, am_u_ne]; omega)) ?_)
        | (refine am_bf rfl (by first | omega | (simp (decide := true) only [am_u_at, am_u_j, am_u_ne]; omega)) (by first | omega | (simp (decide := true) only [am_u_at, am_u_j, am_u_ne]; omega)) ?_)
        | (refine am_br rfl (by first | omega | (simp (decide := true) only [am_u_at, am_u_j, am_u_ne]; omega)) (fun h => ?_) (fun h => ?_))
        | (refine am_rt rfl (by first | exact True.intro | (refine And.intro ?_ ?_ <;> decide) | exact Or.inl rfl | exact Or.inr rfl | (show _ ∨ _; omega)) ?_))
      · refine ⟨rfl, hf, hou, fun y y1 y2 => ?_⟩
        rw [hk y, show ((i : Int) * 25 + (j : Int)) * 25 + y + 12 = ((i : Int) * 25 + (j : Int)) * 25 + (y + 12) by omega]
        exact hin (y + 12) (by omega) (by omega)
      · refine ih (c + 1) _ (by omega) (by omega) (by omega) (hf.u _ _ rfl) ?_ ?_
        · intro x hx
          rw [am_u_eq, am_up_ne (by omega)]
          exact hou x hx
        · intro y y1 y2
          rw [am_u_eq]
          by_cases e : y = c
          · rw [e, am_up_eq]
          · rw [am_up_ne (by omega)]
            exact hin y y1 (by omega)
  repeat' (first
    | (refine am_gp 80 [21] rfl (by first | exact True.intro | (refine And.intro ?_ ?_ <;> decide) | exact Or.inl rfl | exact Or.inr rfl | (simp (decide := true) only [am_p, am_u_at, am_u_j, am_u_ne]; omega) | (simp (decide := true) only [am_p, and_true, true_and, true_or, or_true, am_u_at, am_u_j, am_u_ne]; omega) | (simp (decide := true) [am_p, am_u_at, am_u_j, am_u_ne]; omega)) ?_)
    | (show am_V _ _ _ _ _ _ _; simp only [Int.reduceToNat])
    | (refine am_bt rfl (by first | omega | (simp (decide := true) only [am_u_at, am_u_j, am_u_ne]; omega)) (by first | omega | (simp (decide := true) only [am_u_at, am_u_j, am_u_ne]; omega)) ?_)
    | (refine am_bf rfl (by first | omega | (simp (decide := true) only [am_u_at, am_u_j, am_u_ne]; omega)) (by first | omega | (simp (decide := true) only [am_u_at, am_u_j, am_u_ne]; omega)) ?_)
    | (refine am_br rfl (by first | omega | (simp (decide := true) only [am_u_at, am_u_j, am_u_ne]; omega)) (fun h => ?_) (fun h => ?_))
    | (refine am_cV (y' := Y_ju_index) rfl lk_ju_62 ok_ju_index rfl rfl rfl (c_ju_index _ _ _ _ _) ?_; rintro r I0 ⟨rfl, rfl⟩)
    | (refine am_cV (y' := Y_ju_unshifted) rfl lk_ju_65 ok_ju_unshifted rfl rfl rfl (c_ju_unsh _ _ _ _ _ J M N heq hn hM hN (by first | omega | (simp (decide := true) only [am_u_at, am_u_j, am_u_ne]; omega)) (by first | omega | (simp (decide := true) only [am_u_at, am_u_j, am_u_ne]; omega)) (by first | omega | (simp (decide := true) only [am_u_at, am_u_j, am_u_ne]; omega)) h3) ?_; rintro r I0 ⟨rfl, rfl⟩)
    | (refine am_rt rfl (by first | exact True.intro | (refine And.intro ?_ ?_ <;> decide) | exact Or.inl rfl | exact Or.inr rfl | (show _ ∨ _; omega)) ?_))
  rw [show ((i : Int) * 25 + (j : Int)) * 25 + -12 + 12 = ((i : Int) * 25 + (j : Int)) * 25 by omega]
  exact loop 27 0 _ (by omega) (by omega) (by omega) am_fr.rf (fun x _ => rfl) (fun y y1 y2 => by omega)
