def es_exN (P : Nat → Prop) : Prop := ∃ N : Nat, P N
def es_mr (R : Nat → Int) : Prop := (1 ≤ R 16 ∧ R 16 ≤ 6) ∧ (1 ≤ R 17 ∧ R 17 ≤ 96)
def es_b49 (I : am_I) : Prop := ∀ j : Nat, 0 ≤ I 49 j ∧ I 49 j ≤ 1
theorem c_goes (d : Nat) (t l : Int) (I : am_I) (ht : 0 ≤ t ∧ t ≤ 1000) (hl : 1 ≤ l ∧ l ≤ 96) (hb : 1 ≤ I 44 17 ∧ I 44 17 ≤ 96) (h49 : es_b49 I) : am_C d Y_mo_goes [.inr (.inr 44), .inl t, .inl l] I (fun r I' => I' = I ∧ ((r = some (.inl 1) ∧ (es_Sm I l ∧ t % I 44 17 + l ≤ I 44 17)) ∨ (r = some (.inl 0) ∧ ¬ (es_Sm I l ∧ t % I 44 17 + l ≤ I 44 17)))) := by
  refine am_enter ok_mo_goes rfl ?_
  have e0 := Int.emod_nonneg t (show I 44 17 ≠ 0 by omega)
  have e1 := Int.emod_lt_of_pos t (show 0 < I 44 17 by omega)
  have e2 := h49 l.toNat
  unfold es_Sm
  repeat' (first
    | (refine am_gp 80 [] rfl (by first | exact True.intro | (refine And.intro ?_ ?_ <;> decide) | exact Or.inl rfl | exact Or.inr rfl | (simp (decide := true) only [am_p, am_u_at, am_u_j, am_u_ne]; omega) | (simp (decide := true) only [am_p, and_true, true_and, true_or, or_true, am_u_at, am_u_j, am_u_ne]; omega) | (simp (decide := true) [am_p, am_u_at, am_u_j, am_u_ne]; omega)) ?_)
    | (show am_V _ _ _ _ _ _ _; simp only [Int.reduceToNat])
    | (refine am_bt rfl (by first | omega | (simp (decide := true) only [am_u_at, am_u_j, am_u_ne]; omega)) (by first | omega | (simp (decide := true) only [am_u_at, am_u_j, am_u_ne]; omega)) ?_)
    | (refine am_bf rfl (by first | omega | (simp (decide := true) only [am_u_at, am_u_j, am_u_ne]; omega)) (by first | omega | (simp (decide := true) only [am_u_at, am_u_j, am_u_ne]; omega)) ?_)
    | (refine am_br rfl (by first | omega | (simp (decide := true) only [am_u_at, am_u_j, am_u_ne]; omega)) (fun h => ?_) (fun h => ?_))
    | (refine am_rt rfl (by first | exact True.intro | (refine And.intro ?_ ?_ <;> decide) | exact Or.inl rfl | exact Or.inr rfl) ?_))
  all_goals first
    | exact ⟨rfl, Or.inl ⟨rfl, by omega⟩⟩
    | exact ⟨rfl, Or.inr ⟨rfl, by omega⟩⟩
theorem es_Sm_c {I J : am_I} (h : I 49 = J 49) : es_Sm I = es_Sm J := by
  funext l
  unfold es_Sm
  rw [h]
def es_fw (T : Nat → Int) (S : Int → Prop) (beat all t : Int) : Prop := ∀ k : Int, 0 ≤ k → k ≤ 24 → T (25 * t + k).toNat = es_F S beat all k.toNat t
theorem c_countFills (d : Nat) (I0 : am_I) (hmr : es_mr (I0 44)) (h49 : es_b49 I0) : am_C (d + 1) Y_mo_countFills [.inr (.inr 44)] I0 (fun r I' => r = none ∧ am_fr I0 I' [55] ∧ ∀ t : Int, 0 ≤ t → t ≤ (I0 44 16 * I0 44 17) → es_fw (I' 55) (es_Sm I0) (I0 44 17) (I0 44 16 * I0 44 17) t) := by
  refine am_enter ok_mo_countFills rfl ?_
  obtain ⟨m1, m2⟩ := id hmr
  have hall := es_all m1 m2
  have loopt : ∀ (m : Nat) (t : Int) (I : am_I), -1 ≤ t → t ≤ (I0 44 16 * I0 44 17) → t + 1 < m → am_fr I0 I [55] → (∀ t' : Int, t < t' → t' ≤ (I0 44 16 * I0 44 17) → es_fw (I 55) (es_Sm I0) (I0 44 17) (I0 44 16 * I0 44 17) t') → am_V (d + 1) Y_mo_countFills (fun r I' => r = none ∧ am_fr I0 I' [55] ∧ ∀ t : Int, 0 ≤ t → t ≤ (I0 44 16 * I0 44 17) → es_fw (I' 55) (es_Sm I0) (I0 44 17) (I0 44 16 * I0 44 17) t) 12 [(0, .inr (.inr 44)), (1, .inl (I0 44 16 * I0 44 17)), (2, .inl t)] [] I := by
    intro m
    induction m with
    | zero => intro t I h1 h2 h3; omega
    | succ m ih =>
      intro t I h1 h2 h3 hf hrw
      have loopk : ∀ (n : Nat) (k : Int) (I : am_I), 0 ≤ t → 0 ≤ k → k ≤ 25 → 25 - k < n → am_fr I0 I [55] → (∀ t' : Int, t < t' → t' ≤ (I0 44 16 * I0 44 17) → es_fw (I 55) (es_Sm I0) (I0 44 17) (I0 44 16 * I0 44 17) t') → (∀ x : Int, 0 ≤ x → x < k → I 55 (25 * t + x).toNat = es_F (es_Sm I0) (I0 44 17) (I0 44 16 * I0 44 17) x.toNat t) → am_V (d + 1) Y_mo_countFills (fun r I' => r = none ∧ am_fr I0 I' [55] ∧ ∀ t : Int, 0 ≤ t → t ≤ (I0 44 16 * I0 44 17) → es_fw (I' 55) (es_Sm I0) (I0 44 17) (I0 44 16 * I0 44 17) t) 18 [(0, .inr (.inr 44)), (1, .inl (I0 44 16 * I0 44 17)), (2, .inl t), (3, .inl k)] [] I := by
        intro n
        induction n with
        | zero => intro k I g0 g1 g2 g3; omega
        | succ n ihk =>
          intro k I g0 g1 g2 g3 hf hrw hin
          have e44 : I 44 = I0 44 := hf 44 rfl
          have e49 : I 49 = I0 49 := hf 49 rfl
          have b17 : I 44 17 = I0 44 17 := congrFun e44 17
          have hbo : es_b49 I := by unfold es_b49; rw [e49]; exact h49
          have eS := es_Sm_c e49
          have step : ∀ v : Int, k ≤ 24 → v = es_F (es_Sm I0) (I0 44 17) (I0 44 16 * I0 44 17) k.toNat t → am_V (d + 1) Y_mo_countFills (fun r I' => r = none ∧ am_fr I0 I' [55] ∧ ∀ t : Int, 0 ≤ t → t ≤ (I0 44 16 * I0 44 17) → es_fw (I' 55) (es_Sm I0) (I0 44 17) (I0 44 16 * I0 44 17) t) 18 [(0, .inr (.inr 44)), (1, .inl (I0 44 16 * I0 44 17)), (2, .inl t), (3, .inl (k + 1))] [] (am_u I 55 (25 * t + k).toNat v) := by
            intro v hk8 hv
            refine ihk (k + 1) _ g0 (by omega) (by omega) (by omega) (hf.u _ _ rfl) ?_ ?_
            · intro t' h5 h6 x x1 x2
              rw [am_u_eq, am_up_ne (by omega)]
              exact hrw t' h5 h6 x x1 x2
            · intro x x1 x2
              rw [am_u_eq]
              by_cases c : x = k
              · rw [c, am_up_eq]
                exact hv
              · rw [am_up_ne (by omega)]
                exact hin x x1 (by omega)
          have loopl : ∀ (q j : Nat), t < (I0 44 16 * I0 44 17) → 0 < k → k ≤ 24 → j ≤ 96 → 96 - j < q → am_V (d + 1) Y_mo_countFills (fun r I' => r = none ∧ am_fr I0 I' [55] ∧ ∀ t : Int, 0 ≤ t → t ≤ (I0 44 16 * I0 44 17) → es_fw (I' 55) (es_Sm I0) (I0 44 17) (I0 44 16 * I0 44 17) t) 39 [(0, .inr (.inr 44)), (1, .inl (I0 44 16 * I0 44 17)), (2, .inl t), (3, .inl k), (4, .inr (.inl (es_fd es_oc 0 (es_rf (es_Sm I0) (I0 44 17) (I0 44 16 * I0 44 17) (k - 1).toNat t) 1 j))), (6, .inl (1 + j))] [] I := by
            intro q
            induction q with
            | zero => intro j f0 f1 f2 f3 f4; omega
            | succ q ihl =>
              intro j f0 f1 f2 f3 f4
              have hk := es_fc_D (f := es_rf (es_Sm I0) (I0 44 17) (I0 44 16 * I0 44 17) (k - 1).toNat t) (fun l => es_rf_D _ _ _ _ _ _) 1 j
              have hrd := es_rf_D (es_Sm I0) (I0 44 17) (I0 44 16 * I0 44 17) (k - 1).toNat t (1 + j)
              have hrd2 : 0 ≤ es_rf (es_Sm I0) (I0 44 17) (I0 44 16 * I0 44 17) (k - 1).toNat t (1 + j) ∧ es_rf (es_Sm I0) (I0 44 17) (I0 44 16 * I0 44 17) (k - 1).toNat t (1 + j) ≤ 1000000000000000000 := hrd
              have hbar : t % (I0 44 17) + (1 + (j : Int)) ≤ (I0 44 17) → t + (1 + (j : Int)) ≤ (I0 44 16 * I0 44 17) := es_bar ⟨g0, f0⟩ (by omega)
              have hent : (es_Sm I (1 + j) ∧ t % I 44 17 + (1 + (j : Int)) ≤ I 44 17) → I 55 (25 * (t + (1 + (j : Int))) + k - 1).toNat = es_rf (es_Sm I0) (I0 44 17) (I0 44 16 * I0 44 17) (k - 1).toNat t (1 + j) ∧ t + (1 + (j : Int)) ≤ (I0 44 16 * I0 44 17) := by
                intro hg
                rw [b17, eS] at hg
                have h5 := hrw (t + (1 + (j : Int))) (by omega) (hbar hg.2) (k - 1) (by omega) (by omega)
                rw [show 25 * (t + (1 + (j : Int))) + k - 1 = 25 * (t + (1 + (j : Int))) + (k - 1) by omega, h5]
                unfold es_rf
                rw [es_if_t hg]
                exact ⟨rfl, hbar hg.2⟩
              have hno : ¬ (es_Sm I (1 + j) ∧ t % I 44 17 + (1 + (j : Int)) ≤ I 44 17) → es_rf (es_Sm I0) (I0 44 17) (I0 44 16 * I0 44 17) (k - 1).toNat t (1 + j) = 0 := by
                intro hg
                rw [b17, eS] at hg
                unfold es_rf
                rw [es_if_f hg]
              have e9 : es_fd es_oc 0 (es_rf (es_Sm I0) (I0 44 17) (I0 44 16 * I0 44 17) (k - 1).toNat t) 1 (j + 1) = es_oc (es_fd es_oc 0 (es_rf (es_Sm I0) (I0 44 17) (I0 44 16 * I0 44 17) (k - 1).toNat t) 1 j) (es_rf (es_Sm I0) (I0 44 17) (I0 44 16 * I0 44 17) (k - 1).toNat t (1 + j)) := rfl
              refine am_go 1 [] rfl trivial ?_
              repeat' (first
                | (refine am_gp 80 [39, 65, 18] rfl (by first | exact True.intro | (refine And.intro ?_ ?_ <;> decide) | exact Or.inl rfl | exact Or.inr rfl | (simp (decide := true) only [am_p, am_u_at, am_u_j, am_u_ne]; omega) | (simp (decide := true) only [am_p, and_true, true_and, true_or, or_true, am_u_at, am_u_j, am_u_ne]; omega) | (simp (decide := true) [am_p, am_u_at, am_u_j, am_u_ne]; omega)) ?_)
                | (show am_V _ _ _ _ _ _ _; simp only [Int.reduceToNat])
                | (refine am_bt rfl (by first | omega | (simp (decide := true) only [am_u_at, am_u_j, am_u_ne]; omega)) (by first | omega | (simp (decide := true) only [am_u_at, am_u_j, am_u_ne]; omega)) ?_)
                | (refine am_bf rfl (by first | omega | (simp (decide := true) only [am_u_at, am_u_j, am_u_ne]; omega)) (by first | omega | (simp (decide := true) only [am_u_at, am_u_j, am_u_ne]; omega)) ?_)
                | (refine am_br rfl (by first | omega | (simp (decide := true) only [am_u_at, am_u_j, am_u_ne]; omega)) (fun h => ?_) (fun h => ?_))
                | (refine am_cV (y' := Y_mo_goes) rfl lk_mo_188 ok_mo_goes rfl rfl rfl (c_goes _ _ _ _ (by first | omega | (simp (decide := true) only [am_u_at, am_u_j, am_u_ne]; omega)) (by first | omega | (simp (decide := true) only [am_u_at, am_u_j, am_u_ne]; omega)) (by first | omega | (simp (decide := true) only [am_u_at, am_u_j, am_u_ne]; omega)) (by assumption)) ?_; rintro r I ⟨rfl, (⟨rfl, hgo⟩ | ⟨rfl, hgo⟩)⟩ <;> (try (exfalso; omega)))
                | (refine am_rt rfl (by first | exact True.intro | (refine And.intro ?_ ?_ <;> decide) | exact Or.inl rfl | exact Or.inr rfl) ?_))
              · have ej : j = 96 := by omega
                refine am_wk [4, 6] ?_
                refine step _ (by omega) ?_
                rw [ej, show k.toNat = (k - 1).toNat + 1 by omega, es_F_on _ (by omega)]
              · obtain ⟨hen, hta⟩ := hent hgo
                repeat' (first
                  | (refine am_gp 80 [39] rfl (by first | exact True.intro | (refine And.intro ?_ ?_ <;> decide) | exact Or.inl rfl | exact Or.inr rfl | (simp (decide := true) only [am_p, am_u_at, am_u_j, am_u_ne]; omega) | (simp (decide := true) only [am_p, and_true, true_and, true_or, or_true, am_u_at, am_u_j, am_u_ne]; omega) | (simp (decide := true) [am_p, am_u_at, am_u_j, am_u_ne]; omega)) ?_)
                  | (show am_V _ _ _ _ _ _ _; simp only [Int.reduceToNat])
                  | (refine am_bt rfl (by first | omega | (simp (decide := true) only [am_u_at, am_u_j, am_u_ne]; omega)) (by first | omega | (simp (decide := true) only [am_u_at, am_u_j, am_u_ne]; omega)) ?_)
                  | (refine am_bf rfl (by first | omega | (simp (decide := true) only [am_u_at, am_u_j, am_u_ne]; omega)) (by first | omega | (simp (decide := true) only [am_u_at, am_u_j, am_u_ne]; omega)) ?_)
                  | (refine am_br rfl (by first | omega | (simp (decide := true) only [am_u_at, am_u_j, am_u_ne]; omega)) (fun h => ?_) (fun h => ?_))
                  | (refine am_cS (y' := Y_mo_plus) rfl lk_mo_162 ok_mo_plus rfl rfl (c_mo_plus _ _ _ _ (by first | omega | (simp (decide := true) only [am_u_at, am_u_j, am_u_ne]; omega)) (by first | omega | (simp (decide := true) only [am_u_at, am_u_j, am_u_ne]; omega))) ?_; rintro r I ⟨rfl, rfl⟩)
                  | (refine am_rt rfl (by first | exact True.intro | (refine And.intro ?_ ?_ <;> decide) | exact Or.inl rfl | exact Or.inr rfl) ?_))
                have h9 := ihl (j + 1) f0 f1 f2 (by omega) (by omega)
                rw [e9, show 1 + ((j + 1 : Nat) : Int) = 1 + (j : Int) + 1 by omega, ← hen] at h9
                exact h9
              · have h9 := ihl (j + 1) f0 f1 f2 (by omega) (by omega)
                rw [e9, hno hgo, es_mn_r es_mc hk, show 1 + ((j + 1 : Nat) : Int) = 1 + (j : Int) + 1 by omega] at h9
                exact h9
          refine am_go 1 [] rfl trivial ?_
          repeat' (first
            | (refine am_gp 80 [12, 39] rfl (by first | exact True.intro | (refine And.intro ?_ ?_ <;> decide) | exact Or.inl rfl | exact Or.inr rfl | (simp (decide := true) only [am_p, am_u_at, am_u_j, am_u_ne]; omega) | (simp (decide := true) only [am_p, and_true, true_and, true_or, or_true, am_u_at, am_u_j, am_u_ne]; omega) | (simp (decide := true) [am_p, am_u_at, am_u_j, am_u_ne]; omega)) ?_)
            | (show am_V _ _ _ _ _ _ _; simp only [Int.reduceToNat])
            | (refine am_bt rfl (by first | omega | (simp (decide := true) only [am_u_at, am_u_j, am_u_ne]; omega)) (by first | omega | (simp (decide := true) only [am_u_at, am_u_j, am_u_ne]; omega)) ?_)
            | (refine am_bf rfl (by first | omega | (simp (decide := true) only [am_u_at, am_u_j, am_u_ne]; omega)) (by first | omega | (simp (decide := true) only [am_u_at, am_u_j, am_u_ne]; omega)) ?_)
            | (refine am_br rfl (by first | omega | (simp (decide := true) only [am_u_at, am_u_j, am_u_ne]; omega)) (fun h => ?_) (fun h => ?_))
            | (refine am_rt rfl (by first | exact True.intro | (refine And.intro ?_ ?_ <;> decide) | exact Or.inl rfl | exact Or.inr rfl) ?_))
          · refine am_wk [3] ?_
            refine ih (t - 1) _ (by omega) (by omega) (by omega) hf ?_
            intro t' h5 h6
            by_cases c : t' = t
            · rw [c]
              exact fun x x1 x2 => hin x x1 (by omega)
            · exact hrw t' (by omega) h6
          · by_cases c : 0 < k
            · exact loopl 98 0 (by omega) c (by omega) (by omega) (by omega)
            · refine am_go 1 [] rfl trivial ?_
              repeat' (first
                | (refine am_gp 80 [18] rfl (by first | exact True.intro | (refine And.intro ?_ ?_ <;> decide) | exact Or.inl rfl | exact Or.inr rfl | (simp (decide := true) only [am_p, am_u_at, am_u_j, am_u_ne]; omega) | (simp (decide := true) only [am_p, and_true, true_and, true_or, or_true, am_u_at, am_u_j, am_u_ne]; omega) | (simp (decide := true) [am_p, am_u_at, am_u_j, am_u_ne]; omega)) ?_)
                | (show am_V _ _ _ _ _ _ _; simp only [Int.reduceToNat])
                | (refine am_bt rfl (by first | omega | (simp (decide := true) only [am_u_at, am_u_j, am_u_ne]; omega)) (by first | omega | (simp (decide := true) only [am_u_at, am_u_j, am_u_ne]; omega)) ?_)
                | (refine am_bf rfl (by first | omega | (simp (decide := true) only [am_u_at, am_u_j, am_u_ne]; omega)) (by first | omega | (simp (decide := true) only [am_u_at, am_u_j, am_u_ne]; omega)) ?_)
                | (refine am_br rfl (by first | omega | (simp (decide := true) only [am_u_at, am_u_j, am_u_ne]; omega)) (fun h => ?_) (fun h => ?_))
                | (refine am_rt rfl (by first | exact True.intro | (refine And.intro ?_ ?_ <;> decide) | exact Or.inl rfl | exact Or.inr rfl) ?_))
              refine am_wk [4, 6] ?_
              refine step _ (by omega) ?_
              rw [show k.toNat = 0 by omega, es_F_z (by omega)]
          · refine am_go 1 [] rfl trivial ?_
            repeat' (first
              | (refine am_gp 80 [18] rfl (by first | exact True.intro | (refine And.intro ?_ ?_ <;> decide) | exact Or.inl rfl | exact Or.inr rfl | (simp (decide := true) only [am_p, am_u_at, am_u_j, am_u_ne]; omega) | (simp (decide := true) only [am_p, and_true, true_and, true_or, or_true, am_u_at, am_u_j, am_u_ne]; omega) | (simp (decide := true) [am_p, am_u_at, am_u_j, am_u_ne]; omega)) ?_)
              | (show am_V _ _ _ _ _ _ _; simp only [Int.reduceToNat])
              | (refine am_bt rfl (by first | omega | (simp (decide := true) only [am_u_at, am_u_j, am_u_ne]; omega)) (by first | omega | (simp (decide := true) only [am_u_at, am_u_j, am_u_ne]; omega)) ?_)
              | (refine am_bf rfl (by first | omega | (simp (decide := true) only [am_u_at, am_u_j, am_u_ne]; omega)) (by first | omega | (simp (decide := true) only [am_u_at, am_u_j, am_u_ne]; omega)) ?_)
              | (refine am_br rfl (by first | omega | (simp (decide := true) only [am_u_at, am_u_j, am_u_ne]; omega)) (fun h => ?_) (fun h => ?_))
              | (refine am_rt rfl (by first | exact True.intro | (refine And.intro ?_ ?_ <;> decide) | exact Or.inl rfl | exact Or.inr rfl) ?_))
            refine am_wk [4, 6] ?_
            refine step _ (by omega) ?_
            rw [show t = (I0 44 16 * I0 44 17) by omega, es_F_all]
      refine am_go 1 [] rfl trivial ?_
      repeat' (first
        | (refine am_gp 80 [18] rfl (by first | exact True.intro | (refine And.intro ?_ ?_ <;> decide) | exact Or.inl rfl | exact Or.inr rfl | (simp (decide := true) only [am_p, am_u_at, am_u_j, am_u_ne]; omega) | (simp (decide := true) only [am_p, and_true, true_and, true_or, or_true, am_u_at, am_u_j, am_u_ne]; omega) | (simp (decide := true) [am_p, am_u_at, am_u_j, am_u_ne]; omega)) ?_)
        | (show am_V _ _ _ _ _ _ _; simp only [Int.reduceToNat])
        | (refine am_bt rfl (by first | omega | (simp (decide := true) only [am_u_at, am_u_j, am_u_ne]; omega)) (by first | omega | (simp (decide := true) only [am_u_at, am_u_j, am_u_ne]; omega)) ?_)
        | (refine am_bf rfl (by first | omega | (simp (decide := true) only [am_u_at, am_u_j, am_u_ne]; omega)) (by first | omega | (simp (decide := true) only [am_u_at, am_u_j, am_u_ne]; omega)) ?_)
        | (refine am_br rfl (by first | omega | (simp (decide := true) only [am_u_at, am_u_j, am_u_ne]; omega)) (fun h => ?_) (fun h => ?_))
        | (refine am_rt rfl (by first | exact True.intro | (refine And.intro ?_ ?_ <;> decide) | exact Or.inl rfl | exact Or.inr rfl) ?_))
      · exact ⟨rfl, hf, fun t' h5 h6 => hrw t' (by omega) h6⟩
      · exact loopk 27 0 I (by omega) (by omega) (by omega) (by omega) hf hrw (fun x x1 x2 => by omega)
  repeat' (first
    | (refine am_gp 80 [12] rfl (by first | exact True.intro | (refine And.intro ?_ ?_ <;> decide) | exact Or.inl rfl | exact Or.inr rfl | (simp (decide := true) only [am_p, am_u_at, am_u_j, am_u_ne]; omega) | (simp (decide := true) only [am_p, and_true, true_and, true_or, or_true, am_u_at, am_u_j, am_u_ne]; omega) | (simp (decide := true) [am_p, am_u_at, am_u_j, am_u_ne]; omega)) ?_)
    | (show am_V _ _ _ _ _ _ _; simp only [Int.reduceToNat])
    | (refine am_bt rfl (by first | omega | (simp (decide := true) only [am_u_at, am_u_j, am_u_ne]; omega)) (by first | omega | (simp (decide := true) only [am_u_at, am_u_j, am_u_ne]; omega)) ?_)
    | (refine am_bf rfl (by first | omega | (simp (decide := true) only [am_u_at, am_u_j, am_u_ne]; omega)) (by first | omega | (simp (decide := true) only [am_u_at, am_u_j, am_u_ne]; omega)) ?_)
    | (refine am_br rfl (by first | omega | (simp (decide := true) only [am_u_at, am_u_j, am_u_ne]; omega)) (fun h => ?_) (fun h => ?_))
    | (refine am_rt rfl (by first | exact True.intro | (refine And.intro ?_ ?_ <;> decide) | exact Or.inl rfl | exact Or.inr rfl) ?_))
  exact loopt 578 (I0 44 16 * I0 44 17) I0 (by omega) (by omega) (by omega) am_fr.rf (fun t' h5 h6 => by omega)
theorem c_mo_rhythms (d : Nat) (I0 : am_I) (hmr : es_mr (I0 44)) (h49 : es_b49 I0) : am_C (d + 2) Y_mo_rhythms [.inr (.inr 44)] I0 (fun r I' => r = some (.inr (.inl (es_F (es_Sm I0) (I0 44 17) (I0 44 16 * I0 44 17) 24 0))) ∧ am_fr I0 I' [55] ∧ ∀ t : Int, 0 ≤ t → t ≤ (I0 44 16 * I0 44 17) → es_fw (I' 55) (es_Sm I0) (I0 44 17) (I0 44 16 * I0 44 17) t) := by
  refine am_enter ok_mo_rhythms rfl ?_
  obtain ⟨m1, m2⟩ := id hmr
  have hall := es_all m1 m2
  repeat' (first
    | (refine am_gp 80 [] rfl (by first | exact True.intro | (refine And.intro ?_ ?_ <;> decide) | exact Or.inl rfl | exact Or.inr rfl | (simp (decide := true) only [am_p, am_u_at, am_u_j, am_u_ne]; omega) | (simp (decide := true) only [am_p, and_true, true_and, true_or, or_true, am_u_at, am_u_j, am_u_ne]; omega) | (simp (decide := true) [am_p, am_u_at, am_u_j, am_u_ne]; omega)) ?_)
    | (show am_V _ _ _ _ _ _ _; simp only [Int.reduceToNat])
    | (refine am_bt rfl (by first | omega | (simp (decide := true) only [am_u_at, am_u_j, am_u_ne]; omega)) (by first | omega | (simp (decide := true) only [am_u_at, am_u_j, am_u_ne]; omega)) ?_)
    | (refine am_bf rfl (by first | omega | (simp (decide := true) only [am_u_at, am_u_j, am_u_ne]; omega)) (by first | omega | (simp (decide := true) only [am_u_at, am_u_j, am_u_ne]; omega)) ?_)
    | (refine am_br rfl (by first | omega | (simp (decide := true) only [am_u_at, am_u_j, am_u_ne]; omega)) (fun h => ?_) (fun h => ?_))
    | (refine am_cV (y' := Y_mo_countFills) rfl lk_mo_191 ok_mo_countFills rfl rfl rfl (c_countFills _ I0 hmr h49) ?_; rintro r I ⟨rfl, hfr, hrows⟩)
    | (refine am_rt rfl (by first | exact True.intro | (refine And.intro ?_ ?_ <;> decide) | exact Or.inl rfl | exact Or.inr rfl) ?_))
  refine ⟨?_, hfr, hrows⟩
  have h5 := hrows 0 (by omega) (by omega) 24 (by omega) (by omega)
  rw [show (25 * 0 + 24 : Int).toNat = 24 by omega, show (24 : Int).toNat = 24 by omega] at h5
  rw [h5]
theorem c_mo_rhythm (d : Nat) (k : Int) (I0 : am_I) (hk : -9223372036854775808 ≤ k ∧ k < 9223372036854775808) (hmr : es_mr (I0 44)) (h49 : es_b49 I0) : am_C (d + 3) Y_mo_rhythm [.inr (.inr 44), .inr (.inl k)] I0 (fun r I' => (k < 0 ∧ r = some (.inl (-2)) ∧ I' = I0) ∨ ((0 ≤ k ∧ es_F (es_Sm I0) (I0 44 17) (I0 44 16 * I0 44 17) 24 0 ≤ k) ∧ r = some (.inl (-1)) ∧ am_fr I0 I' [55]) ∨ ((0 ≤ k ∧ k < es_F (es_Sm I0) (I0 44 17) (I0 44 16 * I0 44 17) 24 0) ∧ am_fr I0 I' [44, 45, 46, 55] ∧ es_exN (fun N => N ≤ 24 ∧ es_rN (es_Sm I0) (I0 44 17) (I0 44 16 * I0 44 17) k N ∧ r = some (.inl (N : Int)) ∧ I' 44 = am_up (am_up (I0 44) 0 (N : Int)) 6 0 ∧ ∀ j : Nat, j < N → I' 45 j = 60 ∧ I' 46 j = (es_rs (es_Sm I0) (I0 44 17) (I0 44 16 * I0 44 17) k (j + 1)).1 - (es_rs (es_Sm I0) (I0 44 17) (I0 44 16 * I0 44 17) k j).1))) := by
  refine am_enter ok_mo_rhythm rfl ?_
  obtain ⟨m1, m2⟩ := id hmr
  have hall := es_all m1 m2
  have htd := es_F_D (S := (es_Sm I0)) (beat := (I0 44 17)) (all := (I0 44 16 * I0 44 17)) 24 0
  have hS : ∀ l, es_Sm I0 l → 1 ≤ l ∧ l ≤ 96 := fun l h => h.1
  have main : ∀ I1 : am_I, am_fr I0 I1 [55] → (∀ t : Int, 0 ≤ t → t ≤ (I0 44 16 * I0 44 17) → es_fw (I1 55) (es_Sm I0) (I0 44 17) (I0 44 16 * I0 44 17) t) → (0 ≤ k ∧ k < es_F (es_Sm I0) (I0 44 17) (I0 44 16 * I0 44 17) 24 0) → am_V (d + 3) Y_mo_rhythm (fun r I' => (k < 0 ∧ r = some (.inl (-2)) ∧ I' = I0) ∨ ((0 ≤ k ∧ es_F (es_Sm I0) (I0 44 17) (I0 44 16 * I0 44 17) 24 0 ≤ k) ∧ r = some (.inl (-1)) ∧ am_fr I0 I' [55]) ∨ ((0 ≤ k ∧ k < es_F (es_Sm I0) (I0 44 17) (I0 44 16 * I0 44 17) 24 0) ∧ am_fr I0 I' [44, 45, 46, 55] ∧ es_exN (fun N => N ≤ 24 ∧ es_rN (es_Sm I0) (I0 44 17) (I0 44 16 * I0 44 17) k N ∧ r = some (.inl (N : Int)) ∧ I' 44 = am_up (am_up (I0 44) 0 (N : Int)) 6 0 ∧ ∀ j : Nat, j < N → I' 45 j = 60 ∧ I' 46 j = (es_rs (es_Sm I0) (I0 44 17) (I0 44 16 * I0 44 17) k (j + 1)).1 - (es_rs (es_Sm I0) (I0 44 17) (I0 44 16 * I0 44 17) k j).1))) 36 [(0, .inr (.inr 44)), (1, .inr (.inl k)), (3, .inr (.inl k)), (5, .inl 0), (6, .inl 0)] [] I1 := by
    intro I1 hfr hrows hkt
    have loopi : ∀ (m i : Nat) (I : am_I), i ≤ 24 → 24 - i < m → am_fr I0 I [45, 46, 55] → I 55 = I1 55 → es_ra (es_Sm I0) (I0 44 17) (I0 44 16 * I0 44 17) i (es_rs (es_Sm I0) (I0 44 17) (I0 44 16 * I0 44 17) k i) → (∀ j : Nat, j < i → (es_rs (es_Sm I0) (I0 44 17) (I0 44 16 * I0 44 17) k j).1 ≠ (I0 44 16 * I0 44 17)) → (∀ j : Nat, j < i → I 45 j = 60 ∧ I 46 j = (es_rs (es_Sm I0) (I0 44 17) (I0 44 16 * I0 44 17) k (j + 1)).1 - (es_rs (es_Sm I0) (I0 44 17) (I0 44 16 * I0 44 17) k j).1) → am_V (d + 3) Y_mo_rhythm (fun r I' => (k < 0 ∧ r = some (.inl (-2)) ∧ I' = I0) ∨ ((0 ≤ k ∧ es_F (es_Sm I0) (I0 44 17) (I0 44 16 * I0 44 17) 24 0 ≤ k) ∧ r = some (.inl (-1)) ∧ am_fr I0 I' [55]) ∨ ((0 ≤ k ∧ k < es_F (es_Sm I0) (I0 44 17) (I0 44 16 * I0 44 17) 24 0) ∧ am_fr I0 I' [44, 45, 46, 55] ∧ es_exN (fun N => N ≤ 24 ∧ es_rN (es_Sm I0) (I0 44 17) (I0 44 16 * I0 44 17) k N ∧ r = some (.inl (N : Int)) ∧ I' 44 = am_up (am_up (I0 44) 0 (N : Int)) 6 0 ∧ ∀ j : Nat, j < N → I' 45 j = 60 ∧ I' 46 j = (es_rs (es_Sm I0) (I0 44 17) (I0 44 16 * I0 44 17) k (j + 1)).1 - (es_rs (es_Sm I0) (I0 44 17) (I0 44 16 * I0 44 17) k j).1))) 36 [(0, .inr (.inr 44)), (1, .inr (.inl k)), (3, .inr (.inl (es_rs (es_Sm I0) (I0 44 17) (I0 44 16 * I0 44 17) k i).2)), (5, .inl (es_rs (es_Sm I0) (I0 44 17) (I0 44 16 * I0 44 17) k i).1), (6, .inl i)] [] I := by
      intro m
      induction m with
      | zero => intro i I h1 h2; omega
      | succ m ih =>
        intro i I h1 h2 hf h55 ha hne hin
        have e44 : I 44 = I0 44 := hf 44 rfl
        have e49 : I 49 = I0 49 := hf 49 rfl
        have b16 : I 44 16 = I0 44 16 := congrFun e44 16
        have b17 : I 44 17 = I0 44 17 := congrFun e44 17
        have bA : I 44 16 * I 44 17 = (I0 44 16 * I0 44 17) := by rw [b16, b17]
        have hbo : es_b49 I := by unfold es_b49; rw [e49]; exact h49
        have eS := es_Sm_c e49
        have hst : (es_rs (es_Sm I0) (I0 44 17) (I0 44 16 * I0 44 17) k i).1 ≠ (I0 44 16 * I0 44 17) → _ := fun h => es_rs_st (n := I0 44 16) (k := k) (by omega) hS h1 ha h
        have hrs : es_rs (es_Sm I0) (I0 44 17) (I0 44 16 * I0 44 17) k (i + 1) = ((es_rs (es_Sm I0) (I0 44 17) (I0 44 16 * I0 44 17) k i).1 + (es_pk (es_rf (es_Sm I0) (I0 44 17) (I0 44 16 * I0 44 17) (23 - i) (es_rs (es_Sm I0) (I0 44 17) (I0 44 16 * I0 44 17) k i).1) 1 96 (es_rs (es_Sm I0) (I0 44 17) (I0 44 16 * I0 44 17) k i).2).1, (es_pk (es_rf (es_Sm I0) (I0 44 17) (I0 44 16 * I0 44 17) (23 - i) (es_rs (es_Sm I0) (I0 44 17) (I0 44 16 * I0 44 17) k i).1) 1 96 (es_rs (es_Sm I0) (I0 44 17) (I0 44 16 * I0 44 17) k i).2).2) := rfl
        have hne2 : (es_rs (es_Sm I0) (I0 44 17) (I0 44 16 * I0 44 17) k i).1 ≠ (I0 44 16 * I0 44 17) → ∀ j : Nat, j < i + 1 → (es_rs (es_Sm I0) (I0 44 17) (I0 44 16 * I0 44 17) k j).1 ≠ (I0 44 16 * I0 44 17) := by
          intro h j hj
          by_cases c : j = i
          · rw [c]; exact h
          · exact hne j (by omega)
        obtain ⟨a1, a2, a3⟩ := ha
        have hx2 : (es_rs (es_Sm I0) (I0 44 17) (I0 44 16 * I0 44 17) k i).2 ≤ 1000000000000000000 := by
          have := (es_F_D (S := (es_Sm I0)) (beat := (I0 44 17)) (all := (I0 44 16 * I0 44 17)) (24 - i) (es_rs (es_Sm I0) (I0 44 17) (I0 44 16 * I0 44 17) k i).1).2
          omega
        have fin : ∀ (len l q : Int), (es_rs (es_Sm I0) (I0 44 17) (I0 44 16 * I0 44 17) k i).1 ≠ (I0 44 16 * I0 44 17) → es_pk (es_rf (es_Sm I0) (I0 44 17) (I0 44 16 * I0 44 17) (23 - i) (es_rs (es_Sm I0) (I0 44 17) (I0 44 16 * I0 44 17) k i).1) 1 96 (es_rs (es_Sm I0) (I0 44 17) (I0 44 16 * I0 44 17) k i).2 = (len, l) → (0 ≤ q ∧ q ≤ 1000) → am_V (d + 3) Y_mo_rhythm (fun r I' => (k < 0 ∧ r = some (.inl (-2)) ∧ I' = I0) ∨ ((0 ≤ k ∧ es_F (es_Sm I0) (I0 44 17) (I0 44 16 * I0 44 17) 24 0 ≤ k) ∧ r = some (.inl (-1)) ∧ am_fr I0 I' [55]) ∨ ((0 ≤ k ∧ k < es_F (es_Sm I0) (I0 44 17) (I0 44 16 * I0 44 17) 24 0) ∧ am_fr I0 I' [44, 45, 46, 55] ∧ es_exN (fun N => N ≤ 24 ∧ es_rN (es_Sm I0) (I0 44 17) (I0 44 16 * I0 44 17) k N ∧ r = some (.inl (N : Int)) ∧ I' 44 = am_up (am_up (I0 44) 0 (N : Int)) 6 0 ∧ ∀ j : Nat, j < N → I' 45 j = 60 ∧ I' 46 j = (es_rs (es_Sm I0) (I0 44 17) (I0 44 16 * I0 44 17) k (j + 1)).1 - (es_rs (es_Sm I0) (I0 44 17) (I0 44 16 * I0 44 17) k j).1))) 56 [(0, .inr (.inr 44)), (1, .inr (.inl k)), (3, .inr (.inl l)), (5, .inl (es_rs (es_Sm I0) (I0 44 17) (I0 44 16 * I0 44 17) k i).1), (6, .inl i), (7, .inl len), (8, .inl q)] [] I := by
          intro len l q hxa hpk hq
          obtain ⟨s1, s2, s3, s4, s5⟩ := hst hxa
          rw [hpk] at hrs s2
          have s2' : 1 ≤ len ∧ len ≤ 96 := s2
          clear hpk s2 s3
          have hg : am_V (d + 3) Y_mo_rhythm (fun r I' => (k < 0 ∧ r = some (.inl (-2)) ∧ I' = I0) ∨ ((0 ≤ k ∧ es_F (es_Sm I0) (I0 44 17) (I0 44 16 * I0 44 17) 24 0 ≤ k) ∧ r = some (.inl (-1)) ∧ am_fr I0 I' [55]) ∨ ((0 ≤ k ∧ k < es_F (es_Sm I0) (I0 44 17) (I0 44 16 * I0 44 17) 24 0) ∧ am_fr I0 I' [44, 45, 46, 55] ∧ es_exN (fun N => N ≤ 24 ∧ es_rN (es_Sm I0) (I0 44 17) (I0 44 16 * I0 44 17) k N ∧ r = some (.inl (N : Int)) ∧ I' 44 = am_up (am_up (I0 44) 0 (N : Int)) 6 0 ∧ ∀ j : Nat, j < N → I' 45 j = 60 ∧ I' 46 j = (es_rs (es_Sm I0) (I0 44 17) (I0 44 16 * I0 44 17) k (j + 1)).1 - (es_rs (es_Sm I0) (I0 44 17) (I0 44 16 * I0 44 17) k j).1))) 131 [(0, .inr (.inr 44)), (1, .inr (.inl k)), (3, .inr (.inl l)), (5, .inl (es_rs (es_Sm I0) (I0 44 17) (I0 44 16 * I0 44 17) k i).1), (6, .inl i), (7, .inl len)] [] I := by
            have ei : (i : Int).toNat = i := by omega
            repeat' (first
              | (refine am_gp 80 [36] rfl (by first | exact True.intro | (refine And.intro ?_ ?_ <;> decide) | exact Or.inl rfl | exact Or.inr rfl | (simp (decide := true) only [am_p, am_u_at, am_u_j, am_u_ne]; omega) | (simp (decide := true) only [am_p, and_true, true_and, true_or, or_true, am_u_at, am_u_j, am_u_ne]; omega) | (simp (decide := true) [am_p, am_u_at, am_u_j, am_u_ne]; omega)) ?_)
              | (show am_V _ _ _ _ _ _ _; simp only [Int.reduceToNat])
              | (refine am_bt rfl (by first | omega | (simp (decide := true) only [am_u_at, am_u_j, am_u_ne]; omega)) (by first | omega | (simp (decide := true) only [am_u_at, am_u_j, am_u_ne]; omega)) ?_)
              | (refine am_bf rfl (by first | omega | (simp (decide := true) only [am_u_at, am_u_j, am_u_ne]; omega)) (by first | omega | (simp (decide := true) only [am_u_at, am_u_j, am_u_ne]; omega)) ?_)
              | (refine am_br rfl (by first | omega | (simp (decide := true) only [am_u_at, am_u_j, am_u_ne]; omega)) (fun h => ?_) (fun h => ?_))
              | (refine am_cV (y' := Y_mo_lay) rfl lk_mo_173 ok_mo_lay rfl rfl rfl (c_lay _ _ _ _ _ (by first | omega | (simp (decide := true) only [am_u_at, am_u_j, am_u_ne]; omega))) ?_; rintro r I ⟨rfl, rfl⟩)
              | (refine am_rt rfl (by first | exact True.intro | (refine And.intro ?_ ?_ <;> decide) | exact Or.inl rfl | exact Or.inr rfl) ?_))
            refine am_wk [7] ?_
            have h9 := ih (i + 1) (am_u (am_u I 45 (i : Int).toNat 60) 46 (i : Int).toNat len) (by omega) (by omega) ((hf.u _ _ rfl).u _ _ rfl) (by rw [am_u_ne (by decide), am_u_ne (by decide)]; exact h55) s5 (hne2 hxa) ?_
            · rw [hrs, show ((i + 1 : Nat) : Int) = (i : Int) + 1 by omega] at h9
              exact h9
            · intro j hj
              simp (decide := true) only [am_u_at, am_u_j, am_u_ne]
              rw [am_u_eq, am_u_eq, ei]
              by_cases c : j = i
              · rw [c, am_up_eq, am_up_eq, hrs]
                refine ⟨rfl, ?_⟩
                show len = (es_rs (es_Sm I0) (I0 44 17) (I0 44 16 * I0 44 17) k i).1 + len - (es_rs (es_Sm I0) (I0 44 17) (I0 44 16 * I0 44 17) k i).1
                omega
              · rw [am_up_ne c, am_up_ne c]
                exact hin j (by omega)
          repeat' (first
            | (refine am_gp 80 [131] rfl (by first | exact True.intro | (refine And.intro ?_ ?_ <;> decide) | exact Or.inl rfl | exact Or.inr rfl | (simp (decide := true) only [am_p, am_u_at, am_u_j, am_u_ne]; omega) | (simp (decide := true) only [am_p, and_true, true_and, true_or, or_true, am_u_at, am_u_j, am_u_ne]; omega) | (simp (decide := true) [am_p, am_u_at, am_u_j, am_u_ne]; omega)) ?_)
            | (show am_V _ _ _ _ _ _ _; simp only [Int.reduceToNat])
            | (refine am_bt rfl (by first | omega | (simp (decide := true) only [am_u_at, am_u_j, am_u_ne]; omega)) (by first | omega | (simp (decide := true) only [am_u_at, am_u_j, am_u_ne]; omega)) ?_)
            | (refine am_bf rfl (by first | omega | (simp (decide := true) only [am_u_at, am_u_j, am_u_ne]; omega)) (by first | omega | (simp (decide := true) only [am_u_at, am_u_j, am_u_ne]; omega)) ?_)
            | (refine am_br rfl (by first | omega | (simp (decide := true) only [am_u_at, am_u_j, am_u_ne]; omega)) (fun h => ?_) (fun h => ?_))
            | (refine am_rt rfl (by first | exact True.intro | (refine And.intro ?_ ?_ <;> decide) | exact Or.inl rfl | exact Or.inr rfl) ?_))
          · exact am_wk [8] hg
          · exact am_wk [8] hg
        have loopl : ∀ (n : Nat) (q l : Int), (es_rs (es_Sm I0) (I0 44 17) (I0 44 16 * I0 44 17) k i).1 ≠ (I0 44 16 * I0 44 17) → 1 ≤ q → q ≤ 97 → 97 - q < n → 0 ≤ l → l ≤ 1000000000000000000 → l < es_fd es_oc 0 (es_rf (es_Sm I0) (I0 44 17) (I0 44 16 * I0 44 17) (23 - i) (es_rs (es_Sm I0) (I0 44 17) (I0 44 16 * I0 44 17) k i).1) q (97 - q).toNat → es_pk (es_rf (es_Sm I0) (I0 44 17) (I0 44 16 * I0 44 17) (23 - i) (es_rs (es_Sm I0) (I0 44 17) (I0 44 16 * I0 44 17) k i).1) q (97 - q).toNat l = es_pk (es_rf (es_Sm I0) (I0 44 17) (I0 44 16 * I0 44 17) (23 - i) (es_rs (es_Sm I0) (I0 44 17) (I0 44 16 * I0 44 17) k i).1) 1 96 (es_rs (es_Sm I0) (I0 44 17) (I0 44 16 * I0 44 17) k i).2 → am_V (d + 3) Y_mo_rhythm (fun r I' => (k < 0 ∧ r = some (.inl (-2)) ∧ I' = I0) ∨ ((0 ≤ k ∧ es_F (es_Sm I0) (I0 44 17) (I0 44 16 * I0 44 17) 24 0 ≤ k) ∧ r = some (.inl (-1)) ∧ am_fr I0 I' [55]) ∨ ((0 ≤ k ∧ k < es_F (es_Sm I0) (I0 44 17) (I0 44 16 * I0 44 17) 24 0) ∧ am_fr I0 I' [44, 45, 46, 55] ∧ es_exN (fun N => N ≤ 24 ∧ es_rN (es_Sm I0) (I0 44 17) (I0 44 16 * I0 44 17) k N ∧ r = some (.inl (N : Int)) ∧ I' 44 = am_up (am_up (I0 44) 0 (N : Int)) 6 0 ∧ ∀ j : Nat, j < N → I' 45 j = 60 ∧ I' 46 j = (es_rs (es_Sm I0) (I0 44 17) (I0 44 16 * I0 44 17) k (j + 1)).1 - (es_rs (es_Sm I0) (I0 44 17) (I0 44 16 * I0 44 17) k j).1))) 56 [(0, .inr (.inr 44)), (1, .inr (.inl k)), (3, .inr (.inl l)), (5, .inl (es_rs (es_Sm I0) (I0 44 17) (I0 44 16 * I0 44 17) k i).1), (6, .inl i), (7, .inl 0), (8, .inl q)] [] I := by
          intro n
          induction n with
          | zero => intro q l g0 g1 g2 g3; omega
          | succ n ihq =>
            intro q l g0 g1 g2 g3 g4 g5 g6 g7
            have hi24 := (hst g0).1
            have hq8 : q ≤ 96 := by
              refine Classical.byContradiction (fun c => ?_)
              rw [show (97 - q).toNat = 0 by omega] at g6
              have e3 : es_fd es_oc 0 (es_rf (es_Sm I0) (I0 44 17) (I0 44 16 * I0 44 17) (23 - i) (es_rs (es_Sm I0) (I0 44 17) (I0 44 16 * I0 44 17) k i).1) q 0 = 0 := rfl
              omega
            have hwd := es_rf_D (es_Sm I0) (I0 44 17) (I0 44 16 * I0 44 17) (23 - i) (es_rs (es_Sm I0) (I0 44 17) (I0 44 16 * I0 44 17) k i).1 q
            unfold es_Dc at hwd
            have em : (97 - q).toNat = (97 - (q + 1)).toNat + 1 := by omega
            rw [em, es_fd_l es_mc (fun z => es_rf_D _ _ _ _ _ _)] at g6
            have g6' : l < min 1000000000000000000 (es_rf (es_Sm I0) (I0 44 17) (I0 44 16 * I0 44 17) (23 - i) (es_rs (es_Sm I0) (I0 44 17) (I0 44 16 * I0 44 17) k i).1 q + es_fd es_oc 0 (es_rf (es_Sm I0) (I0 44 17) (I0 44 16 * I0 44 17) (23 - i) (es_rs (es_Sm I0) (I0 44 17) (I0 44 16 * I0 44 17) k i).1) (q + 1) (97 - (q + 1)).toNat) := g6
            rw [em] at g7
            have done : l < es_rf (es_Sm I0) (I0 44 17) (I0 44 16 * I0 44 17) (23 - i) (es_rs (es_Sm I0) (I0 44 17) (I0 44 16 * I0 44 17) k i).1 q → es_pk (es_rf (es_Sm I0) (I0 44 17) (I0 44 16 * I0 44 17) (23 - i) (es_rs (es_Sm I0) (I0 44 17) (I0 44 16 * I0 44 17) k i).1) 1 96 (es_rs (es_Sm I0) (I0 44 17) (I0 44 16 * I0 44 17) k i).2 = (q, l) := by
              intro hl
              rw [← g7]
              show (if l < es_rf (es_Sm I0) (I0 44 17) (I0 44 16 * I0 44 17) (23 - i) (es_rs (es_Sm I0) (I0 44 17) (I0 44 16 * I0 44 17) k i).1 q then (q, l) else _) = _
              rw [if_pos hl]
            have cont : ¬ l < es_rf (es_Sm I0) (I0 44 17) (I0 44 16 * I0 44 17) (23 - i) (es_rs (es_Sm I0) (I0 44 17) (I0 44 16 * I0 44 17) k i).1 q → am_V (d + 3) Y_mo_rhythm (fun r I' => (k < 0 ∧ r = some (.inl (-2)) ∧ I' = I0) ∨ ((0 ≤ k ∧ es_F (es_Sm I0) (I0 44 17) (I0 44 16 * I0 44 17) 24 0 ≤ k) ∧ r = some (.inl (-1)) ∧ am_fr I0 I' [55]) ∨ ((0 ≤ k ∧ k < es_F (es_Sm I0) (I0 44 17) (I0 44 16 * I0 44 17) 24 0) ∧ am_fr I0 I' [44, 45, 46, 55] ∧ es_exN (fun N => N ≤ 24 ∧ es_rN (es_Sm I0) (I0 44 17) (I0 44 16 * I0 44 17) k N ∧ r = some (.inl (N : Int)) ∧ I' 44 = am_up (am_up (I0 44) 0 (N : Int)) 6 0 ∧ ∀ j : Nat, j < N → I' 45 j = 60 ∧ I' 46 j = (es_rs (es_Sm I0) (I0 44 17) (I0 44 16 * I0 44 17) k (j + 1)).1 - (es_rs (es_Sm I0) (I0 44 17) (I0 44 16 * I0 44 17) k j).1))) 56 [(0, .inr (.inr 44)), (1, .inr (.inl k)), (3, .inr (.inl (l - es_rf (es_Sm I0) (I0 44 17) (I0 44 16 * I0 44 17) (23 - i) (es_rs (es_Sm I0) (I0 44 17) (I0 44 16 * I0 44 17) k i).1 q))), (5, .inl (es_rs (es_Sm I0) (I0 44 17) (I0 44 16 * I0 44 17) k i).1), (6, .inl i), (7, .inl 0), (8, .inl (q + 1))] [] I := by
              intro hl
              have g8 : es_pk (es_rf (es_Sm I0) (I0 44 17) (I0 44 16 * I0 44 17) (23 - i) (es_rs (es_Sm I0) (I0 44 17) (I0 44 16 * I0 44 17) k i).1) q ((97 - (q + 1)).toNat + 1) l = es_pk (es_rf (es_Sm I0) (I0 44 17) (I0 44 16 * I0 44 17) (23 - i) (es_rs (es_Sm I0) (I0 44 17) (I0 44 16 * I0 44 17) k i).1) (q + 1) (97 - (q + 1)).toNat (l - es_rf (es_Sm I0) (I0 44 17) (I0 44 16 * I0 44 17) (23 - i) (es_rs (es_Sm I0) (I0 44 17) (I0 44 16 * I0 44 17) k i).1 q) := by
                show (if l < es_rf (es_Sm I0) (I0 44 17) (I0 44 16 * I0 44 17) (23 - i) (es_rs (es_Sm I0) (I0 44 17) (I0 44 16 * I0 44 17) k i).1 q then (q, l) else _) = _
                rw [if_neg hl]
              exact ihq (q + 1) _ g0 (by omega) (by omega) (by omega) (by omega) (by omega) (by omega) (g8.symm.trans g7)
            have hbar : (es_rs (es_Sm I0) (I0 44 17) (I0 44 16 * I0 44 17) k i).1 % (I0 44 17) + q ≤ (I0 44 17) → (es_rs (es_Sm I0) (I0 44 17) (I0 44 16 * I0 44 17) k i).1 + q ≤ (I0 44 16 * I0 44 17) := es_bar ⟨a1.1, by omega⟩ (by omega)
            have hent : (es_Sm I q ∧ (es_rs (es_Sm I0) (I0 44 17) (I0 44 16 * I0 44 17) k i).1 % I 44 17 + q ≤ I 44 17) → I 55 (25 * ((es_rs (es_Sm I0) (I0 44 17) (I0 44 16 * I0 44 17) k i).1 + q) + 24 - (i : Int) - 1).toNat = es_rf (es_Sm I0) (I0 44 17) (I0 44 16 * I0 44 17) (23 - i) (es_rs (es_Sm I0) (I0 44 17) (I0 44 16 * I0 44 17) k i).1 q ∧ (es_rs (es_Sm I0) (I0 44 17) (I0 44 16 * I0 44 17) k i).1 + q ≤ (I0 44 16 * I0 44 17) := by
              intro hg
              rw [b17, eS] at hg
              have h5 := hrows ((es_rs (es_Sm I0) (I0 44 17) (I0 44 16 * I0 44 17) k i).1 + q) (by omega) (hbar hg.2) (23 - (i : Int)) (by omega) (by omega)
              rw [show 25 * ((es_rs (es_Sm I0) (I0 44 17) (I0 44 16 * I0 44 17) k i).1 + q) + 24 - (i : Int) - 1 = 25 * ((es_rs (es_Sm I0) (I0 44 17) (I0 44 16 * I0 44 17) k i).1 + q) + (23 - (i : Int)) by omega, h55, h5]
              unfold es_rf
              rw [es_if_t hg, show (23 - (i : Int)).toNat = 23 - i by omega]
              exact ⟨rfl, hbar hg.2⟩
            have hno : ¬ (es_Sm I q ∧ (es_rs (es_Sm I0) (I0 44 17) (I0 44 16 * I0 44 17) k i).1 % I 44 17 + q ≤ I 44 17) → es_rf (es_Sm I0) (I0 44 17) (I0 44 16 * I0 44 17) (23 - i) (es_rs (es_Sm I0) (I0 44 17) (I0 44 16 * I0 44 17) k i).1 q = 0 := by
              intro hg
              rw [b17, eS] at hg
              unfold es_rf
              rw [es_if_f hg]
            refine am_go 1 [] rfl trivial ?_
            repeat' (first
              | (refine am_gp 80 [56, 79, 103] rfl (by first | exact True.intro | (refine And.intro ?_ ?_ <;> decide) | exact Or.inl rfl | exact Or.inr rfl | (simp (decide := true) only [am_p, am_u_at, am_u_j, am_u_ne]; omega) | (simp (decide := true) only [am_p, and_true, true_and, true_or, or_true, am_u_at, am_u_j, am_u_ne]; omega) | (simp (decide := true) [am_p, am_u_at, am_u_j, am_u_ne]; omega)) ?_)
              | (show am_V _ _ _ _ _ _ _; simp only [Int.reduceToNat])
              | (refine am_bt rfl (by first | omega | (simp (decide := true) only [am_u_at, am_u_j, am_u_ne]; omega)) (by first | omega | (simp (decide := true) only [am_u_at, am_u_j, am_u_ne]; omega)) ?_)
              | (refine am_bf rfl (by first | omega | (simp (decide := true) only [am_u_at, am_u_j, am_u_ne]; omega)) (by first | omega | (simp (decide := true) only [am_u_at, am_u_j, am_u_ne]; omega)) ?_)
              | (refine am_br rfl (by first | omega | (simp (decide := true) only [am_u_at, am_u_j, am_u_ne]; omega)) (fun h => ?_) (fun h => ?_))
              | (refine am_cV (y' := Y_mo_goes) rfl lk_mo_188 ok_mo_goes rfl rfl rfl (c_goes _ _ _ _ (by first | omega | (simp (decide := true) only [am_u_at, am_u_j, am_u_ne]; omega)) (by first | omega | (simp (decide := true) only [am_u_at, am_u_j, am_u_ne]; omega)) (by first | omega | (simp (decide := true) only [am_u_at, am_u_j, am_u_ne]; omega)) (by assumption)) ?_; rintro r I ⟨rfl, (⟨rfl, hgo⟩ | ⟨rfl, hgo⟩)⟩ <;> (try (exfalso; omega)))
              | (refine am_rt rfl (by first | exact True.intro | (refine And.intro ?_ ?_ <;> decide) | exact Or.inl rfl | exact Or.inr rfl) ?_))
            · obtain ⟨hen, hta⟩ := hent hgo
              repeat' (first
                | (refine am_gp 80 [56] rfl (by first | exact True.intro | (refine And.intro ?_ ?_ <;> decide) | exact Or.inl rfl | exact Or.inr rfl | (simp (decide := true) only [am_p, am_u_at, am_u_j, am_u_ne]; omega) | (simp (decide := true) only [am_p, and_true, true_and, true_or, or_true, am_u_at, am_u_j, am_u_ne]; omega) | (simp (decide := true) [am_p, am_u_at, am_u_j, am_u_ne]; omega)) ?_)
                | (show am_V _ _ _ _ _ _ _; simp only [Int.reduceToNat])
                | (refine am_bt rfl (by first | omega | (simp (decide := true) only [am_u_at, am_u_j, am_u_ne]; omega)) (by first | omega | (simp (decide := true) only [am_u_at, am_u_j, am_u_ne]; omega)) ?_)
                | (refine am_bf rfl (by first | omega | (simp (decide := true) only [am_u_at, am_u_j, am_u_ne]; omega)) (by first | omega | (simp (decide := true) only [am_u_at, am_u_j, am_u_ne]; omega)) ?_)
                | (refine am_br rfl (by first | omega | (simp (decide := true) only [am_u_at, am_u_j, am_u_ne]; omega)) (fun h => ?_) (fun h => ?_))
                | (refine am_rt rfl (by first | exact True.intro | (refine And.intro ?_ ?_ <;> decide) | exact Or.inl rfl | exact Or.inr rfl) ?_))
              · refine am_wk [9] ?_
                rw [hen]
                exact cont (by omega)
              · refine am_wk [9] ?_
                exact fin q l (q + 1) g0 (done (by omega)) (by omega)
            · have hz := hno hgo
              repeat' (first
                | (refine am_gp 80 [56] rfl (by first | exact True.intro | (refine And.intro ?_ ?_ <;> decide) | exact Or.inl rfl | exact Or.inr rfl | (simp (decide := true) only [am_p, am_u_at, am_u_j, am_u_ne]; omega) | (simp (decide := true) only [am_p, and_true, true_and, true_or, or_true, am_u_at, am_u_j, am_u_ne]; omega) | (simp (decide := true) [am_p, am_u_at, am_u_j, am_u_ne]; omega)) ?_)
                | (show am_V _ _ _ _ _ _ _; simp only [Int.reduceToNat])
                | (refine am_bt rfl (by first | omega | (simp (decide := true) only [am_u_at, am_u_j, am_u_ne]; omega)) (by first | omega | (simp (decide := true) only [am_u_at, am_u_j, am_u_ne]; omega)) ?_)
                | (refine am_bf rfl (by first | omega | (simp (decide := true) only [am_u_at, am_u_j, am_u_ne]; omega)) (by first | omega | (simp (decide := true) only [am_u_at, am_u_j, am_u_ne]; omega)) ?_)
                | (refine am_br rfl (by first | omega | (simp (decide := true) only [am_u_at, am_u_j, am_u_ne]; omega)) (fun h => ?_) (fun h => ?_))
                | (refine am_rt rfl (by first | exact True.intro | (refine And.intro ?_ ?_ <;> decide) | exact Or.inl rfl | exact Or.inr rfl) ?_))
              refine am_wk [9] ?_
              have h9 := cont (by omega)
              rw [hz] at h9
              exact h9
        refine am_go 1 [] rfl trivial ?_
        repeat' (first
          | (refine am_gp 80 [56] rfl (by first | exact True.intro | (refine And.intro ?_ ?_ <;> decide) | exact Or.inl rfl | exact Or.inr rfl | (simp (decide := true) only [am_p, am_u_at, am_u_j, am_u_ne]; omega) | (simp (decide := true) only [am_p, and_true, true_and, true_or, or_true, am_u_at, am_u_j, am_u_ne]; omega) | (simp (decide := true) [am_p, am_u_at, am_u_j, am_u_ne]; omega)) ?_)
          | (show am_V _ _ _ _ _ _ _; simp only [Int.reduceToNat])
          | (refine am_bt rfl (by first | omega | (simp (decide := true) only [am_u_at, am_u_j, am_u_ne]; omega)) (by first | omega | (simp (decide := true) only [am_u_at, am_u_j, am_u_ne]; omega)) ?_)
          | (refine am_bf rfl (by first | omega | (simp (decide := true) only [am_u_at, am_u_j, am_u_ne]; omega)) (by first | omega | (simp (decide := true) only [am_u_at, am_u_j, am_u_ne]; omega)) ?_)
          | (refine am_br rfl (by first | omega | (simp (decide := true) only [am_u_at, am_u_j, am_u_ne]; omega)) (fun h => ?_) (fun h => ?_))
          | (refine am_cV (y' := Y_mo_laid) rfl lk_mo_177 ok_mo_laid rfl rfl rfl (c_laid _ _ _) ?_; rintro r I ⟨rfl, rfl⟩)
          | (refine am_rt rfl (by first | exact True.intro | (refine And.intro ?_ ?_ <;> decide) | exact Or.inl rfl | exact Or.inr rfl) ?_))
        · have exa : (es_rs (es_Sm I0) (I0 44 17) (I0 44 16 * I0 44 17) k i).1 = (I0 44 16 * I0 44 17) := by omega
          refine Or.inr (Or.inr ⟨hkt, ((hf.wd rfl).u _ _ rfl).u _ _ rfl, i, h1, ⟨exa, hne⟩, rfl, ?_, ?_⟩)
          · rw [am_u_eq, am_u_eq, e44]
          · intro j hj
            rw [am_u_ne (by decide), am_u_ne (by decide), am_u_ne (by decide), am_u_ne (by decide)]
            exact hin j hj
        · have hxa : (es_rs (es_Sm I0) (I0 44 17) (I0 44 16 * I0 44 17) k i).1 ≠ (I0 44 16 * I0 44 17) := by omega
          obtain ⟨s1, s2, s3, s4, s5⟩ := hst hxa
          exact loopl 98 1 (es_rs (es_Sm I0) (I0 44 17) (I0 44 16 * I0 44 17) k i).2 hxa (by omega) (by omega) (by omega) a2 hx2 s4 rfl
    refine loopi 26 0 I1 (by omega) (by omega) (hfr.wd rfl) rfl ⟨?_, ?_, ?_⟩ (fun j hj => by omega) (fun j hj => by omega)
    · show (0 : Int) ≤ 0 ∧ 0 ≤ (I0 44 16 * I0 44 17)
      omega
    · exact hkt.1
    · exact hkt.2
  repeat' (first
    | (refine am_gp 80 [36] rfl (by first | exact True.intro | (refine And.intro ?_ ?_ <;> decide) | exact Or.inl rfl | exact Or.inr rfl | (simp (decide := true) only [am_p, am_u_at, am_u_j, am_u_ne]; omega) | (simp (decide := true) only [am_p, and_true, true_and, true_or, or_true, am_u_at, am_u_j, am_u_ne]; omega) | (simp (decide := true) [am_p, am_u_at, am_u_j, am_u_ne]; omega)) ?_)
    | (show am_V _ _ _ _ _ _ _; simp only [Int.reduceToNat])
    | (refine am_bt rfl (by first | omega | (simp (decide := true) only [am_u_at, am_u_j, am_u_ne]; omega)) (by first | omega | (simp (decide := true) only [am_u_at, am_u_j, am_u_ne]; omega)) ?_)
    | (refine am_bf rfl (by first | omega | (simp (decide := true) only [am_u_at, am_u_j, am_u_ne]; omega)) (by first | omega | (simp (decide := true) only [am_u_at, am_u_j, am_u_ne]; omega)) ?_)
    | (refine am_br rfl (by first | omega | (simp (decide := true) only [am_u_at, am_u_j, am_u_ne]; omega)) (fun h => ?_) (fun h => ?_))
    | (refine am_cV (y' := Y_mo_rhythms) rfl lk_mo_194 ok_mo_rhythms rfl rfl rfl (c_mo_rhythms _ I0 hmr h49) ?_; rintro r I ⟨rfl, hfr, hrows⟩)
    | (refine am_rt rfl (by first | exact True.intro | (refine And.intro ?_ ?_ <;> decide) | exact Or.inl rfl | exact Or.inr rfl) ?_))
  · exact Or.inr (Or.inl ⟨⟨by omega, by omega⟩, rfl, hfr⟩)
  · exact main _ hfr hrows ⟨by omega, by omega⟩
  · exact Or.inl ⟨by omega, rfl, rfl⟩
