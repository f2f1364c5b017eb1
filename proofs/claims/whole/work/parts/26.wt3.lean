theorem c_wt_fillStates (d : Nat) (p q v : Int) (I0 : am_I) (hi : 0 ≤ (p * 37 + q - I0 7 1) * 18 ∧ (p * 37 + q - I0 7 1) * 18 + 18 ≤ 10656) : am_C (d + 2) Y_mt_fillStates [.inr (.inr 11), .inl p, .inl q, .inr (.inl v)] I0 (fun r I' => r = none ∧ am_fr I0 I' [12] ∧ ∀ j : Nat, I' 12 j = if (p * 37 + q - I0 7 1) * 18 ≤ j ∧ (j : Int) < (p * 37 + q - I0 7 1) * 18 + 18 then v else I0 12 j) := by
  refine am_enter ok_mt_fillStates rfl ?_
  have loop : ∀ (m : Nat) (t : Int) (I : am_I), 0 ≤ t → t ≤ 18 → 18 - t < m → am_fr I0 I [12] → (∀ j : Nat, I 12 j = if (p * 37 + q - I0 7 1) * 18 ≤ j ∧ (j : Int) < (p * 37 + q - I0 7 1) * 18 + t then v else I0 12 j) → am_V (d + 2) Y_mt_fillStates (fun r I' => r = none ∧ am_fr I0 I' [12] ∧ ∀ j : Nat, I' 12 j = if (p * 37 + q - I0 7 1) * 18 ≤ j ∧ (j : Int) < (p * 37 + q - I0 7 1) * 18 + 18 then v else I0 12 j) 3 [(0, .inr (.inr 11)), (1, .inl p), (2, .inl q), (3, .inr (.inl v)), (5, .inl t)] [] I := by
    intro m
    induction m with
    | zero => intro t I h1 h2 h3; omega
    | succ m ih =>
      intro t I h1 h2 h3 hf h5
      have e7 : I 7 1 = I0 7 1 := by rw [hf 7 rfl]
      refine am_go 1 [] rfl trivial ?_
      repeat' (first
        | (refine am_gp 80 [3] rfl (by first | trivial | exact Or.inl rfl | exact Or.inr rfl | (simp (decide := true) only [am_p, am_u_at, am_u_j, am_u_ne]; omega) | (simp (decide := true) only [am_p, and_true, true_and, true_or, or_true, am_u_at, am_u_j, am_u_ne]; omega) | (simp (decide := true) [am_p, am_u_at, am_u_j, am_u_ne]; omega)) ?_)
        | (show am_V _ _ _ _ _ _ _; simp only [Int.reduceToNat])
        | (refine am_bt rfl (by first | omega | (simp (decide := true) only [am_u_at, am_u_j, am_u_ne]; omega)) (by first | omega | (simp (decide := true) only [am_u_at, am_u_j, am_u_ne]; omega)) ?_)
        | (refine am_bf rfl (by first | omega | (simp (decide := true) only [am_u_at, am_u_j, am_u_ne]; omega)) (by first | omega | (simp (decide := true) only [am_u_at, am_u_j, am_u_ne]; omega)) ?_)
        | (refine am_br rfl (by first | omega | (simp (decide := true) only [am_u_at, am_u_j, am_u_ne]; omega)) (fun h => ?_) (fun h => ?_))
        | (refine am_cV (y' := Y_mt_put) rfl lk_mt_71_wt ok_mt_put rfl rfl rfl (c_wt_put _ _ _ _ _ _ (by first | omega | (simp (decide := true) only [am_u_at, am_u_j, am_u_ne]; omega))) ?_; rintro r I ⟨rfl, rfl⟩)
        | (refine am_rt rfl (by first | trivial | exact Or.inl rfl | exact Or.inr rfl) ?_))
      · have et : t = 18 := by omega
        subst et
        exact ⟨rfl, hf, h5⟩
      · refine ih (t + 1) _ (by omega) (by omega) (by omega) (hf.u _ _ rfl) ?_
        intro j
        rw [am_u_eq, e7]
        by_cases c : j = ((p * 37 + q - I0 7 1) * 18 + t).toNat
        · rw [c, am_up_eq, if_pos (by omega)]
        · rw [am_up_ne c, h5 j]
          by_cases c2 : (p * 37 + q - I0 7 1) * 18 ≤ j ∧ (j : Int) < (p * 37 + q - I0 7 1) * 18 + t
          · rw [if_pos c2, if_pos (by omega)]
          · rw [if_neg c2, if_neg (by omega)]
  repeat' (first
    | (refine am_gp 80 [3] rfl (by first | trivial | exact Or.inl rfl | exact Or.inr rfl | (simp (decide := true) only [am_p, am_u_at, am_u_j, am_u_ne]; omega) | (simp (decide := true) only [am_p, and_true, true_and, true_or, or_true, am_u_at, am_u_j, am_u_ne]; omega) | (simp (decide := true) [am_p, am_u_at, am_u_j, am_u_ne]; omega)) ?_)
    | (show am_V _ _ _ _ _ _ _; simp only [Int.reduceToNat])
    | (refine am_bt rfl (by first | omega | (simp (decide := true) only [am_u_at, am_u_j, am_u_ne]; omega)) (by first | omega | (simp (decide := true) only [am_u_at, am_u_j, am_u_ne]; omega)) ?_)
    | (refine am_bf rfl (by first | omega | (simp (decide := true) only [am_u_at, am_u_j, am_u_ne]; omega)) (by first | omega | (simp (decide := true) only [am_u_at, am_u_j, am_u_ne]; omega)) ?_)
    | (refine am_br rfl (by first | omega | (simp (decide := true) only [am_u_at, am_u_j, am_u_ne]; omega)) (fun h => ?_) (fun h => ?_))
    | (refine am_rt rfl (by first | trivial | exact Or.inl rfl | exact Or.inr rfl) ?_))
  refine loop 19 0 _ (by omega) (by omega) (by omega) am_fr.rf ?_
  intro j
  rw [if_neg (by omega)]
def es_mf (f : Int → Int) (a : Int) : Nat → Int
  | 0 => -1
  | m + 1 => max (es_mf f a m) (f (a + m))
theorem es_mf_rng {f : Int → Int} {a : Int} (hf : ∀ x, -1 ≤ f x ∧ f x ≤ 1000000000000000000) : ∀ m : Nat, -1 ≤ es_mf f a m ∧ es_mf f a m ≤ 1000000000000000000
  | 0 => by unfold es_mf; omega
  | m + 1 => by
    have h1 := es_mf_rng (a := a) hf m
    have h2 := hf (a + m)
    unfold es_mf
    omega
theorem c_wt_total (d : Nat) (I : am_I) (hr : es_rb I) (hv : ∀ j : Nat, -1 ≤ I 12 j ∧ I 12 j ≤ 1000000000000000000) : am_C (d + 3) Y_mt_total [.inr (.inr 11)] I (fun r I' => I' = I ∧ r = some (.inr (.inl (es_mf (fun x => I 12 ((0 * 37 + x - I 7 1) * 18 + 0).toNat) (I 7 1) (I 7 2 + 1 - I 7 1).toNat)))) := by
  refine am_enter ok_mt_total rfl ?_
  obtain ⟨r1, r2, r3, r4⟩ := id hr
  have hfr := es_mf_rng (a := I 7 1) (f := fun x => I 12 ((0 * 37 + x - I 7 1) * 18 + 0).toNat) (fun x => hv _)
  have loop : ∀ (m k : Nat), I 7 1 + k ≤ I 7 2 + 1 → I 7 2 + 1 - (I 7 1 + k) < m → am_V (d + 3) Y_mt_total (fun r I' => I' = I ∧ r = some (.inr (.inl (es_mf (fun x => I 12 ((0 * 37 + x - I 7 1) * 18 + 0).toNat) (I 7 1) (I 7 2 + 1 - I 7 1).toNat)))) 13 [(0, .inr (.inr 11)), (1, .inr (.inl (es_mf (fun x => I 12 ((0 * 37 + x - I 7 1) * 18 + 0).toNat) (I 7 1) k))), (3, .inl (I 7 1 + k))] [] I := by
    intro m
    induction m with
    | zero => intro k h1 h2; omega
    | succ m ih =>
      intro k h1 h2
      have hk := hfr k
      have hv1 := hv ((0 * 37 + (I 7 1 + k) - I 7 1) * 18 + 0).toNat
      refine am_go 1 [] rfl trivial ?_
      repeat' (first
        | (refine am_gp 80 [13] rfl (by first | trivial | exact Or.inl rfl | exact Or.inr rfl | (simp (decide := true) only [am_p, am_u_at, am_u_j, am_u_ne]; omega) | (simp (decide := true) only [am_p, and_true, true_and, true_or, or_true, am_u_at, am_u_j, am_u_ne]; omega) | (simp (decide := true) [am_p, am_u_at, am_u_j, am_u_ne]; omega)) ?_)
        | (show am_V _ _ _ _ _ _ _; simp only [Int.reduceToNat])
        | (refine am_bt rfl (by first | omega | (simp (decide := true) only [am_u_at, am_u_j, am_u_ne]; omega)) (by first | omega | (simp (decide := true) only [am_u_at, am_u_j, am_u_ne]; omega)) ?_)
        | (refine am_bf rfl (by first | omega | (simp (decide := true) only [am_u_at, am_u_j, am_u_ne]; omega)) (by first | omega | (simp (decide := true) only [am_u_at, am_u_j, am_u_ne]; omega)) ?_)
        | (refine am_br rfl (by first | omega | (simp (decide := true) only [am_u_at, am_u_j, am_u_ne]; omega)) (fun h => ?_) (fun h => ?_))
        | (refine am_cU (y' := Y_mt_from) rfl lk_mt_89_wt ok_mt_from rfl rfl rfl (c_wt_from _ _ _ _ _ (by first | omega | (simp (decide := true) only [am_u_at, am_u_j, am_u_ne]; omega))) ?_; rintro r I ⟨rfl, rfl⟩)
        | (refine am_cU (y' := Y_wt_together) rfl lk_mt_58_wt ok_wt_together rfl rfl rfl (c_wt_together _ _ _ _ (by first | omega | (simp (decide := true) only [am_u_at, am_u_j, am_u_ne]; omega)) (by first | omega | (simp (decide := true) only [am_u_at, am_u_j, am_u_ne]; omega))) ?_; rintro r I ⟨rfl, rfl⟩)
        | (refine am_rt rfl (by first | trivial | exact Or.inl rfl | exact Or.inr rfl) ?_))
      · have ek : (I 7 2 + 1 - I 7 1).toNat = k := by omega
        rw [ek]
        exact ⟨rfl, rfl⟩
      · have h9 := ih (k + 1) (by omega) (by omega)
        rw [show I 7 1 + ((k + 1 : Nat) : Int) = I 7 1 + (k : Int) + 1 by omega] at h9
        exact h9
  repeat' (first
    | (refine am_gp 80 [13] rfl (by first | trivial | exact Or.inl rfl | exact Or.inr rfl | (simp (decide := true) only [am_p, am_u_at, am_u_j, am_u_ne]; omega) | (simp (decide := true) only [am_p, and_true, true_and, true_or, or_true, am_u_at, am_u_j, am_u_ne]; omega) | (simp (decide := true) [am_p, am_u_at, am_u_j, am_u_ne]; omega)) ?_)
    | (show am_V _ _ _ _ _ _ _; simp only [Int.reduceToNat])
    | (refine am_bt rfl (by first | omega | (simp (decide := true) only [am_u_at, am_u_j, am_u_ne]; omega)) (by first | omega | (simp (decide := true) only [am_u_at, am_u_j, am_u_ne]; omega)) ?_)
    | (refine am_bf rfl (by first | omega | (simp (decide := true) only [am_u_at, am_u_j, am_u_ne]; omega)) (by first | omega | (simp (decide := true) only [am_u_at, am_u_j, am_u_ne]; omega)) ?_)
    | (refine am_br rfl (by first | omega | (simp (decide := true) only [am_u_at, am_u_j, am_u_ne]; omega)) (fun h => ?_) (fun h => ?_))
    | (refine am_cU (y' := Y_wt_ofNone) rfl lk_mt_43_wt ok_wt_ofNone rfl rfl rfl (c_wt_ofNone _ _) ?_; rintro r I ⟨rfl, rfl⟩)
    | (refine am_rt rfl (by first | trivial | exact Or.inl rfl | exact Or.inr rfl) ?_))
  have h9 := loop 200 0 (by omega) (by omega)
  rw [show I 7 1 + ((0 : Nat) : Int) = I 7 1 by omega] at h9
  exact h9
