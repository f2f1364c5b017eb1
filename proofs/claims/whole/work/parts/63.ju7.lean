theorem c_ju_settle (d : Nat) (J : am_I) (M N : Nat) (hn : es_nc J) (hM : J 4 2 = (M : Int)) (hN : J 1 2 = (N : Int)) (hst : 0 ≤ J 23 9 ∧ J 23 9 ≤ 1) : am_C (d + 6) Y_ju_settle [.inr (.inr 23)] J (fun r I' => (J 23 9 = 1 ∧ r = none ∧ I' = J) ∨ (J 23 9 = 0 ∧ r = none ∧ am_fr J I' [23, 24, 25, 26, 27, 28] ∧ es_exN (fun T => T ≤ 96 ∧ es_jT (es_Qc J) M N T ∧ I' 23 = am_up (am_up (am_up (J 23) 7 (T : Int)) 8 (es_k0 (es_Qc J) M N M N 0)) 9 1 ∧ ∀ k : Nat, k < T → es_axc (es_Qc J) M N I' k))) := by
  refine am_enter ok_ju_settle rfl ?_
  have hM4 : M ≤ 24 := by have := hn.1; omega
  have hN4 : N ≤ 24 := by have := hn.2.1; omega
  by_cases h9 : J 23 9 = 1
  · skip
    repeat' (first
      | (refine am_gp 80 [] rfl (by first | exact True.intro | (refine And.intro ?_ ?_ <;> decide) | exact Or.inl rfl | exact Or.inr rfl | (simp (decide := true) only [am_p, am_u_at, am_u_j, am_u_ne]; omega) | (simp (decide := true) only [am_p, and_true, true_and, true_or, or_true, am_u_at, am_u_j, am_u_ne]; omega) | (simp (decide := true) [am_p, am_u_at, am_u_j, am_u_ne]; omega)) ?_)
      | (show am_V _ _ _ _ _ _ _; simp only [Int.reduceToNat])
      | (refine am_bt rfl (by first | omega | (simp (decide := true) only [am_u_at, am_u_j, am_u_ne]; omega)) (by first | omega | (simp (decide := true) only [am_u_at, am_u_j, am_u_ne]; omega)) ?_)
      | (refine am_bf rfl (by first | omega | (simp (decide := true) only [am_u_at, am_u_j, am_u_ne]; omega)) (by first | omega | (simp (decide := true) only [am_u_at, am_u_j, am_u_ne]; omega)) ?_)
      | (refine am_br rfl (by first | omega | (simp (decide := true) only [am_u_at, am_u_j, am_u_ne]; omega)) (fun h => ?_) (fun h => ?_))
      | (refine am_rt rfl (by first | exact True.intro | (refine And.intro ?_ ?_ <;> decide) | exact Or.inl rfl | exact Or.inr rfl | (show _ ∨ _; omega)) ?_))
    exact Or.inl ⟨h9, rfl, rfl⟩
  · have h0 : J 23 9 = 0 := by omega
    have mid : ∀ I : am_I, am_fr J I [24] → es_Dt (I 24) (es_Qc J) M N (-1) 0 → am_V (d + 6) Y_ju_settle (fun r I' => (J 23 9 = 1 ∧ r = none ∧ I' = J) ∨ (J 23 9 = 0 ∧ r = none ∧ am_fr J I' [23, 24, 25, 26, 27, 28] ∧ es_exN (fun T => T ≤ 96 ∧ es_jT (es_Qc J) M N T ∧ I' 23 = am_up (am_up (am_up (J 23) 7 (T : Int)) 8 (es_k0 (es_Qc J) M N M N 0)) 9 1 ∧ ∀ k : Nat, k < T → es_axc (es_Qc J) M N I' k))) 81 [(0, .inr (.inr 23))] [] I := by
      intro I1 hf hD
      have heq : es_eqc I1 J := ⟨⟨hf 2 rfl, hf 3 rfl, hf 5 rfl, hf 6 rfl⟩, by rw [hf 1 rfl], by rw [hf 4 rfl]⟩
      have h5 : I1 24 12 = es_k0 (es_Qc J) M N M N 0 := hD 0 0 0 (by omega) (by omega) (by omega) (by omega) (Or.inl (by omega))
      have e23 : I1 23 = J 23 := hf 23 rfl
      repeat' (first
        | (refine am_gp 80 [] rfl (by first | exact True.intro | (refine And.intro ?_ ?_ <;> decide) | exact Or.inl rfl | exact Or.inr rfl | (simp (decide := true) only [am_p, am_u_at, am_u_j, am_u_ne]; omega) | (simp (decide := true) only [am_p, and_true, true_and, true_or, or_true, am_u_at, am_u_j, am_u_ne]; omega) | (simp (decide := true) [am_p, am_u_at, am_u_j, am_u_ne]; omega)) ?_)
        | (show am_V _ _ _ _ _ _ _; simp only [Int.reduceToNat])
        | (refine am_bt rfl (by first | omega | (simp (decide := true) only [am_u_at, am_u_j, am_u_ne]; omega)) (by first | omega | (simp (decide := true) only [am_u_at, am_u_j, am_u_ne]; omega)) ?_)
        | (refine am_bf rfl (by first | omega | (simp (decide := true) only [am_u_at, am_u_j, am_u_ne]; omega)) (by first | omega | (simp (decide := true) only [am_u_at, am_u_j, am_u_ne]; omega)) ?_)
        | (refine am_br rfl (by first | omega | (simp (decide := true) only [am_u_at, am_u_j, am_u_ne]; omega)) (fun h => ?_) (fun h => ?_))
        | (refine am_cV (y' := Y_ju_readActs) rfl lk_ju_55 ok_ju_readActs rfl rfl rfl (c_ju_read _ _ J M N heq hn hM hN (by assumption)) ?_; rintro r I ⟨rfl, hfrR, TT, hTT, hjT, h23, haxR⟩)
        | (refine am_cV (y' := Y_ju_from) rfl lk_ju_58 ok_ju_from rfl rfl rfl (c_ju_from _ _ _ _ _ (by first | omega | (simp (decide := true) only [am_u_at, am_u_j, am_u_ne]; omega))) ?_; rintro r I ⟨rfl, rfl⟩)
        | (refine am_rt rfl (by first | exact True.intro | (refine And.intro ?_ ?_ <;> decide) | exact Or.inl rfl | exact Or.inr rfl | (show _ ∨ _; omega)) ?_))
      refine Or.inr ⟨h0, rfl, ?_, TT, hTT, hjT, ?_, ?_⟩
      · exact (((hf.wd rfl).tr (hfrR.wd rfl)).u _ _ rfl).u _ _ rfl
      · have e12 : I 24 = I1 24 := hfrR 24 rfl
        rw [am_u_eq, am_u_eq, h23, e23]
        congr 2
        show I 24 12 = _
        rw [e12, h5]
      · intro k hk
        have h6 := haxR k hk
        unfold es_axc at h6 ⊢
        rw [am_u_ne (by decide), am_u_ne (by decide), am_u_ne (by decide), am_u_ne (by decide), am_u_ne (by decide), am_u_ne (by decide), am_u_ne (by decide), am_u_ne (by decide)]
        exact h6
    have loopi : ∀ (m : Nat) (i : Int) (I : am_I), -1 ≤ i → i ≤ M → i + 1 < m → am_fr J I [24] → es_Dt (I 24) (es_Qc J) M N i N → am_V (d + 6) Y_ju_settle (fun r I' => (J 23 9 = 1 ∧ r = none ∧ I' = J) ∨ (J 23 9 = 0 ∧ r = none ∧ am_fr J I' [23, 24, 25, 26, 27, 28] ∧ es_exN (fun T => T ≤ 96 ∧ es_jT (es_Qc J) M N T ∧ I' 23 = am_up (am_up (am_up (J 23) 7 (T : Int)) 8 (es_k0 (es_Qc J) M N M N 0)) 9 1 ∧ ∀ k : Nat, k < T → es_axc (es_Qc J) M N I' k))) 16 [(0, .inr (.inr 23)), (1, .inl i)] [] I := by
      intro m
      induction m with
      | zero => intro i I h1 h2 h3; omega
      | succ m ih =>
        intro i I h1 h2 h3 hf hD
        have loopj : ∀ (m2 : Nat) (j : Int) (I : am_I), 0 ≤ i → -1 ≤ j → j ≤ N → j + 1 < m2 → am_fr J I [24] → es_Dt (I 24) (es_Qc J) M N i j → am_V (d + 6) Y_ju_settle (fun r I' => (J 23 9 = 1 ∧ r = none ∧ I' = J) ∨ (J 23 9 = 0 ∧ r = none ∧ am_fr J I' [23, 24, 25, 26, 27, 28] ∧ es_exN (fun T => T ≤ 96 ∧ es_jT (es_Qc J) M N T ∧ I' 23 = am_up (am_up (am_up (J 23) 7 (T : Int)) 8 (es_k0 (es_Qc J) M N M N 0)) 9 1 ∧ ∀ k : Nat, k < T → es_axc (es_Qc J) M N I' k))) 28 [(0, .inr (.inr 23)), (1, .inl i), (2, .inl j)] [] I := by
          intro m2
          induction m2 with
          | zero => intro j I g0 g1 g2 g3; omega
          | succ m2 ihj =>
            intro j I1 g0 g1 g2 g3 hf hD
            by_cases gj : j < 0
            · refine am_go 1 [] rfl trivial ?_
              clear ihj mid
              repeat' (first
                | (refine am_gp 80 [16] rfl (by first | exact True.intro | (refine And.intro ?_ ?_ <;> decide) | exact Or.inl rfl | exact Or.inr rfl | (simp (decide := true) only [am_p, am_u_at, am_u_j, am_u_ne]; omega) | (simp (decide := true) only [am_p, and_true, true_and, true_or, or_true, am_u_at, am_u_j, am_u_ne]; omega) | (simp (decide := true) [am_p, am_u_at, am_u_j, am_u_ne]; omega)) ?_)
                | (show am_V _ _ _ _ _ _ _; simp only [Int.reduceToNat])
                | (refine am_bt rfl (by first | omega | (simp (decide := true) only [am_u_at, am_u_j, am_u_ne]; omega)) (by first | omega | (simp (decide := true) only [am_u_at, am_u_j, am_u_ne]; omega)) ?_)
                | (refine am_bf rfl (by first | omega | (simp (decide := true) only [am_u_at, am_u_j, am_u_ne]; omega)) (by first | omega | (simp (decide := true) only [am_u_at, am_u_j, am_u_ne]; omega)) ?_)
                | (refine am_br rfl (by first | omega | (simp (decide := true) only [am_u_at, am_u_j, am_u_ne]; omega)) (fun h => ?_) (fun h => ?_))
                | (refine am_rt rfl (by first | exact True.intro | (refine And.intro ?_ ?_ <;> decide) | exact Or.inl rfl | exact Or.inr rfl | (show _ ∨ _; omega)) ?_))
              refine am_wk [2] ?_
              exact ih (i - 1) I1 (by omega) (by omega) (by omega) hf (es_Dt_w hD (fun i' j' _ _ _ => by omega))
            · obtain ⟨ii, hii⟩ : ∃ n : Nat, i = (n : Int) := ⟨i.toNat, by omega⟩
              obtain ⟨jj, hjj⟩ : ∃ n : Nat, j = (n : Int) := ⟨j.toNat, by omega⟩
              have heq : es_eqc I1 J := ⟨⟨hf 2 rfl, hf 3 rfl, hf 5 rfl, hf 6 rfl⟩, by rw [hf 1 rfl], by rw [hf 4 rfl]⟩
              have b1 : I1 1 2 = (N : Int) := heq.2.1.trans hN
              have b4 : I1 4 2 = (M : Int) := heq.2.2.trans hM
              have hii2 : ii ≤ M := by omega
              have hjj2 : jj ≤ N := by omega
              have step : ∀ I2 : am_I, am_fr I1 I2 [24] → (∀ x : Nat, ¬ (((ii : Int) * 25 + (jj : Int)) * 25 ≤ (x : Int) ∧ (x : Int) < ((ii : Int) * 25 + (jj : Int)) * 25 + 25) → I2 24 x = I1 24 x) → (∀ c : Int, -12 ≤ c → c ≤ 12 → I2 24 (((ii : Int) * 25 + (jj : Int)) * 25 + c + 12).toNat = es_k0 (es_Qc J) M N (M - ii) (N - jj) c) → am_V (d + 6) Y_ju_settle (fun r I' => (J 23 9 = 1 ∧ r = none ∧ I' = J) ∨ (J 23 9 = 0 ∧ r = none ∧ am_fr J I' [23, 24, 25, 26, 27, 28] ∧ es_exN (fun T => T ≤ 96 ∧ es_jT (es_Qc J) M N T ∧ I' 23 = am_up (am_up (am_up (J 23) 7 (T : Int)) 8 (es_k0 (es_Qc J) M N M N 0)) 9 1 ∧ ∀ k : Nat, k < T → es_axc (es_Qc J) M N I' k))) 28 [(0, .inr (.inr 23)), (1, .inl (ii : Int)), (2, .inl ((jj : Int) + -1))] [] I2 := by
                intro I2 f1 f2 f3
                have h8 := es_Dt_s (T' := I2 24) hM4 hN4 (by rw [← hii, ← hjj]; exact hD) hii2 hjj2 f2 f3
                rw [← hii, ← hjj] at h8 ⊢
                exact ihj (j + -1) I2 g0 (by omega) (by omega) (by omega) (hf.tr f1) h8
              rw [hii, hjj] at hD
              have h3 := es_Dt_h3 hD hii2 hjj2
              rw [hii, hjj]
              clear ihj ih mid hD
              refine am_go 1 [] rfl trivial ?_
              repeat' (first
                | (refine am_gp 80 [28] rfl (by first | exact True.intro | (refine And.intro ?_ ?_ <;> decide) | exact Or.inl rfl | exact Or.inr rfl | (simp (decide := true) only [am_p, am_u_at, am_u_j, am_u_ne]; omega) | (simp (decide := true) only [am_p, and_true, true_and, true_or, or_true, am_u_at, am_u_j, am_u_ne]; omega) | (simp (decide := true) [am_p, am_u_at, am_u_j, am_u_ne]; omega)) ?_)
                | (show am_V _ _ _ _ _ _ _; simp only [Int.reduceToNat])
                | (refine am_bt rfl (by first | omega | (simp (decide := true) only [am_u_at, am_u_j, am_u_ne]; omega)) (by first | omega | (simp (decide := true) only [am_u_at, am_u_j, am_u_ne]; omega)) ?_)
                | (refine am_bf rfl (by first | omega | (simp (decide := true) only [am_u_at, am_u_j, am_u_ne]; omega)) (by first | omega | (simp (decide := true) only [am_u_at, am_u_j, am_u_ne]; omega)) ?_)
                | (refine am_br rfl (by first | omega | (simp (decide := true) only [am_u_at, am_u_j, am_u_ne]; omega)) (fun h => ?_) (fun h => ?_))
                | (refine am_cV (y' := Y_ju_fillBorder) rfl lk_ju_48 ok_ju_fillBorder rfl rfl rfl (c_ju_border _ _ _ _ J M N heq hn hM hN (by first | omega | (simp (decide := true) only [am_u_at, am_u_j, am_u_ne]; omega)) (by first | omega | (simp (decide := true) only [am_u_at, am_u_j, am_u_ne]; omega)) (by first | omega | (simp (decide := true) only [am_u_at, am_u_j, am_u_ne]; omega)) h3) ?_; rintro r I ⟨rfl, hfr, hou, hin⟩)
                | (refine am_cV (y' := Y_ju_fillInside) rfl lk_ju_52 ok_ju_fillInside rfl rfl rfl (c_ju_inside _ _ _ _ J M N heq hn hM hN (by first | omega | (simp (decide := true) only [am_u_at, am_u_j, am_u_ne]; omega)) (by first | omega | (simp (decide := true) only [am_u_at, am_u_j, am_u_ne]; omega)) h3) ?_; rintro r I ⟨rfl, hfr, hou, hin⟩)
                | (refine am_rt rfl (by first | exact True.intro | (refine And.intro ?_ ?_ <;> decide) | exact Or.inl rfl | exact Or.inr rfl | (show _ ∨ _; omega)) ?_))
              all_goals exact step _ hfr hou hin
        have b1 : I 1 2 = (N : Int) := by rw [hf 1 rfl]; exact hN
        refine am_go 1 [] rfl trivial ?_
        clear ih
        repeat' (first
          | (refine am_gp 80 [28, 81] rfl (by first | exact True.intro | (refine And.intro ?_ ?_ <;> decide) | exact Or.inl rfl | exact Or.inr rfl | (simp (decide := true) only [am_p, am_u_at, am_u_j, am_u_ne]; omega) | (simp (decide := true) only [am_p, and_true, true_and, true_or, or_true, am_u_at, am_u_j, am_u_ne]; omega) | (simp (decide := true) [am_p, am_u_at, am_u_j, am_u_ne]; omega)) ?_)
          | (show am_V _ _ _ _ _ _ _; simp only [Int.reduceToNat])
          | (refine am_bt rfl (by first | omega | (simp (decide := true) only [am_u_at, am_u_j, am_u_ne]; omega)) (by first | omega | (simp (decide := true) only [am_u_at, am_u_j, am_u_ne]; omega)) ?_)
          | (refine am_bf rfl (by first | omega | (simp (decide := true) only [am_u_at, am_u_j, am_u_ne]; omega)) (by first | omega | (simp (decide := true) only [am_u_at, am_u_j, am_u_ne]; omega)) ?_)
          | (refine am_br rfl (by first | omega | (simp (decide := true) only [am_u_at, am_u_j, am_u_ne]; omega)) (fun h => ?_) (fun h => ?_))
          | (refine am_rt rfl (by first | exact True.intro | (refine And.intro ?_ ?_ <;> decide) | exact Or.inl rfl | exact Or.inr rfl | (show _ ∨ _; omega)) ?_))
        · refine am_wk [1] ?_
          exact mid I hf (es_Dt_w hD (fun i' j' _ _ _ => by omega))
        · rw [b1]
          exact loopj 26 (N : Int) I (by omega) (by omega) (by omega) (by omega) hf hD
    repeat' (first
      | (refine am_gp 80 [16] rfl (by first | exact True.intro | (refine And.intro ?_ ?_ <;> decide) | exact Or.inl rfl | exact Or.inr rfl | (simp (decide := true) only [am_p, am_u_at, am_u_j, am_u_ne]; omega) | (simp (decide := true) only [am_p, and_true, true_and, true_or, or_true, am_u_at, am_u_j, am_u_ne]; omega) | (simp (decide := true) [am_p, am_u_at, am_u_j, am_u_ne]; omega)) ?_)
      | (show am_V _ _ _ _ _ _ _; simp only [Int.reduceToNat])
      | (refine am_bt rfl (by first | omega | (simp (decide := true) only [am_u_at, am_u_j, am_u_ne]; omega)) (by first | omega | (simp (decide := true) only [am_u_at, am_u_j, am_u_ne]; omega)) ?_)
      | (refine am_bf rfl (by first | omega | (simp (decide := true) only [am_u_at, am_u_j, am_u_ne]; omega)) (by first | omega | (simp (decide := true) only [am_u_at, am_u_j, am_u_ne]; omega)) ?_)
      | (refine am_br rfl (by first | omega | (simp (decide := true) only [am_u_at, am_u_j, am_u_ne]; omega)) (fun h => ?_) (fun h => ?_))
      | (refine am_rt rfl (by first | exact True.intro | (refine And.intro ?_ ?_ <;> decide) | exact Or.inl rfl | exact Or.inr rfl | (show _ ∨ _; omega)) ?_))
    rw [hM]
    exact loopi 27 (M : Int) J (by omega) (by omega) (by omega) am_fr.rf (fun i' j' c' _ _ _ _ h => by omega)
theorem c_es_judge (d : Nat) (J : am_I) (M N : Nat) (hn : es_nc J) (hM : J 4 2 = (M : Int)) (hN : J 1 2 = (N : Int)) (hst : 0 ≤ J 23 9 ∧ J 23 9 ≤ 1) : am_C (d + 7) Y_es_judge [.inr (.inr 0)] J (fun r I' => (J 23 9 = 1 ∧ r = some (.inl (J 23 8)) ∧ I' = J) ∨ (J 23 9 = 0 ∧ r = some (.inl (es_k0 (es_Qc J) M N M N 0)) ∧ am_fr J I' [23, 24, 25, 26, 27, 28] ∧ es_exN (fun T => T ≤ 96 ∧ es_jT (es_Qc J) M N T ∧ I' 23 = am_up (am_up (am_up (J 23) 7 (T : Int)) 8 (es_k0 (es_Qc J) M N M N 0)) 9 1 ∧ ∀ k : Nat, k < T → es_axc (es_Qc J) M N I' k))) := by
  refine am_enter ok_es_judge rfl ?_
  repeat' (first
    | (refine am_gp 80 [] rfl (by first | exact True.intro | (refine And.intro ?_ ?_ <;> decide) | exact Or.inl rfl | exact Or.inr rfl | (simp (decide := true) only [am_p, am_u_at, am_u_j, am_u_ne]; omega) | (simp (decide := true) only [am_p, and_true, true_and, true_or, or_true, am_u_at, am_u_j, am_u_ne]; omega) | (simp (decide := true) [am_p, am_u_at, am_u_j, am_u_ne]; omega)) ?_)
    | (show am_V _ _ _ _ _ _ _; simp only [Int.reduceToNat])
    | (refine am_bt rfl (by first | omega | (simp (decide := true) only [am_u_at, am_u_j, am_u_ne]; omega)) (by first | omega | (simp (decide := true) only [am_u_at, am_u_j, am_u_ne]; omega)) ?_)
    | (refine am_bf rfl (by first | omega | (simp (decide := true) only [am_u_at, am_u_j, am_u_ne]; omega)) (by first | omega | (simp (decide := true) only [am_u_at, am_u_j, am_u_ne]; omega)) ?_)
    | (refine am_br rfl (by first | omega | (simp (decide := true) only [am_u_at, am_u_j, am_u_ne]; omega)) (fun h => ?_) (fun h => ?_))
    | (refine am_cV (y' := Y_ju_settle) rfl lk_es_187 ok_ju_settle rfl rfl rfl (c_ju_settle _ _ _ _ hn hM hN (by first | omega | (simp (decide := true) only [am_u_at, am_u_j, am_u_ne]; omega))) ?_; rintro r I (⟨hst, rfl, rfl⟩ | ⟨hst, rfl, hfrS, TT, hTT, hjT, h23, haxR⟩) <;> (try (exfalso; omega)))
    | (refine am_rt rfl (by first | exact True.intro | (refine And.intro ?_ ?_ <;> decide) | exact Or.inl rfl | exact Or.inr rfl | (show _ ∨ _; omega)) ?_))
  · exact Or.inl ⟨hst, rfl, rfl⟩
  · refine Or.inr ⟨hst, ?_, hfrS, TT, hTT, hjT, h23, haxR⟩
    rw [h23, am_up_ne (by decide), am_up_eq]
