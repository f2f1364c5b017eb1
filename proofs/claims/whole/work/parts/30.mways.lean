noncomputable def es_g_mo (R : Nat → Int) : Nat → Int → Int → Int := es_G es_oc 0 1 es_id (R 7) (R 8) (R 9) (R 10) (R 11) (R 12) (R 13) (R 14) (R 15)
def es_rm (R : Nat → Int) : Prop := (0 ≤ R 7 ∧ R 7 ≤ R 8 ∧ R 8 ≤ 127 ∧ R 8 - R 7 ≤ 36) ∧ (1 ≤ R 9 ∧ R 9 ≤ 16) ∧ (1 ≤ R 14 ∧ R 14 ≤ 13) ∧ (0 ≤ R 15 ∧ R 15 ≤ 15)
def es_row_mo (R W : Nat → Int) (i : Int) : Prop := ∀ q u : Int, R 7 ≤ q → q ≤ R 8 → 0 ≤ u → u ≤ 17 → W ((37 * i + (q - R 7)) * 18 + u).toNat = es_g_mo R (R 9 - 1 - i).toNat q u
noncomputable def es_f_mo (R : Nat → Int) (m : Nat) (u p q : Int) : Int := if es_bh (R 13) (R 14) (R 15) u (q - p) = -1 then 0 else es_id (q - p) (es_g_mo R m q (es_bh (R 13) (R 14) (R 15) u (q - p)))
theorem es_bh_rng (stp lp rp u s : Int) (hr : 0 ≤ rp ∧ rp ≤ 15) (hu : 0 ≤ u ∧ u ≤ 17) : -1 ≤ es_bh stp lp rp u s ∧ es_bh stp lp rp u s ≤ 17 := by
  unfold es_bh
  repeat' split
  all_goals omega
theorem es_g_mo_D (R : Nat → Int) (m : Nat) (q u : Int) : 0 ≤ es_g_mo R m q u ∧ es_g_mo R m q u ≤ 1000000000000000000 := es_Gc_D m q u
theorem es_f_mo_D (R : Nat → Int) (m : Nat) (u p q : Int) : es_Dc (es_f_mo R m u p q) := by
  unfold es_f_mo es_Dc
  split
  · omega
  · exact es_g_mo_D R m q _
theorem es_fc_D {f : Int → Int} (hf : ∀ x, es_Dc (f x)) (a : Int) (k : Nat) : 0 ≤ es_fd es_oc 0 f a k ∧ es_fd es_oc 0 f a k ≤ 1000000000000000000 := es_fd_D es_mc hf k
theorem c_waysOn (d : Nat) (i p u : Int) (I : am_I) (hr : es_rm (I 44)) (hi : 0 ≤ i ∧ i < I 44 9 - 1) (hp : I 44 7 ≤ p ∧ p ≤ I 44 8) (hu : 0 ≤ u ∧ u ≤ 17) (hrow : es_row_mo (I 44) (I 54) (i + 1)) : am_C (d + 2) Y_mo_waysOn [.inr (.inr 44), .inl i, .inl p, .inl u] I (fun r I' => I' = I ∧ r = some (.inr (.inl (es_fd es_oc 0 (fun q => es_f_mo (I 44) (I 44 9 - 2 - i).toNat u p q) (I 44 7) (I 44 8 + 1 - I 44 7).toNat)))) := by
  refine am_enter ok_mo_waysOn rfl ?_
  obtain ⟨r1, r2, r3, r4⟩ := id hr
  have loop : ∀ (m k : Nat), I 44 7 + k ≤ I 44 8 + 1 → I 44 8 + 1 - (I 44 7 + k) < m → am_V (d + 2) Y_mo_waysOn (fun r I' => I' = I ∧ r = some (.inr (.inl (es_fd es_oc 0 (fun q => es_f_mo (I 44) (I 44 9 - 2 - i).toNat u p q) (I 44 7) (I 44 8 + 1 - I 44 7).toNat)))) 9 [(0, .inr (.inr 44)), (1, .inl i), (2, .inl p), (3, .inl u), (4, .inr (.inl (es_fd es_oc 0 (fun q => es_f_mo (I 44) (I 44 9 - 2 - i).toNat u p q) (I 44 7) k))), (6, .inl (I 44 7 + k))] [] I := by
    intro m
    induction m with
    | zero => intro k h1 h2; omega
    | succ m ih =>
      intro k h1 h2
      have hk := es_fc_D (f := fun q => es_f_mo (I 44) (I 44 9 - 2 - i).toNat u p q) (fun q => es_f_mo_D _ _ _ _ _) (I 44 7) k
      have hbr := es_bh_rng (I 44 13) (I 44 14) (I 44 15) u (I 44 7 + k - p) r4 hu
      have hent : es_bh (I 44 13) (I 44 14) (I 44 15) u (I 44 7 + k - p) ≠ -1 → I 44 7 + k ≤ I 44 8 → I 54 ((37 * (i + 1) + (I 44 7 + k - I 44 7)) * 18 + es_bh (I 44 13) (I 44 14) (I 44 15) u (I 44 7 + k - p)).toNat = es_f_mo (I 44) (I 44 9 - 2 - i).toNat u p (I 44 7 + k) := by
        intro h3 h4
        rw [hrow (I 44 7 + k) _ (by omega) h4 (by omega) (by omega), show I 44 9 - 1 - (i + 1) = I 44 9 - 2 - i by omega]
        unfold es_f_mo
        rw [if_neg h3]
        rfl
      have hfd := es_f_mo_D (I 44) (I 44 9 - 2 - i).toNat u p (I 44 7 + k)
      unfold es_Dc at hfd
      refine am_go 1 [] rfl trivial ?_
      repeat' (first
        | (refine am_gp 80 [9] rfl (by first | trivial | exact Or.inl rfl | exact Or.inr rfl | (simp (decide := true) only [am_p, am_u_at, am_u_j, am_u_ne]; omega) | (simp (decide := true) only [am_p, and_true, true_and, true_or, or_true, am_u_at, am_u_j, am_u_ne]; omega) | (simp (decide := true) [am_p, am_u_at, am_u_j, am_u_ne]; omega)) ?_)
        | (show am_V _ _ _ _ _ _ _; simp only [Int.reduceToNat])
        | (refine am_bt rfl (by first | omega | (simp (decide := true) only [am_u_at, am_u_j, am_u_ne]; omega)) (by first | omega | (simp (decide := true) only [am_u_at, am_u_j, am_u_ne]; omega)) ?_)
        | (refine am_bf rfl (by first | omega | (simp (decide := true) only [am_u_at, am_u_j, am_u_ne]; omega)) (by first | omega | (simp (decide := true) only [am_u_at, am_u_j, am_u_ne]; omega)) ?_)
        | (refine am_br rfl (by first | omega | (simp (decide := true) only [am_u_at, am_u_j, am_u_ne]; omega)) (fun h => ?_) (fun h => ?_))
        | (refine am_cV (y' := Y_mo_behind) rfl lk_mo_158 ok_mo_behind rfl rfl rfl (c_behind _ _ _ _ (by first | omega | (simp (decide := true) only [am_u_at, am_u_j, am_u_ne]; omega)) (by first | omega | (simp (decide := true) only [am_u_at, am_u_j, am_u_ne]; omega)) (by first | omega | (simp (decide := true) only [am_u_at, am_u_j, am_u_ne]; omega)) (by first | omega | (simp (decide := true) only [am_u_at, am_u_j, am_u_ne]; omega))) ?_; rintro r I ⟨rfl, rfl⟩)
        | (refine am_cS (y' := Y_mo_cellAt) rfl lk_mo_147 ok_mo_cellAt rfl rfl (c_cellAt _ _ _ _ _) ?_; rintro r I ⟨rfl, rfl⟩)
        | (refine am_cS (y' := Y_mo_plus) rfl lk_mo_162 ok_mo_plus rfl rfl (c_mo_plus _ _ _ _ (by first | omega | (simp (decide := true) only [am_u_at, am_u_j, am_u_ne]; omega)) (by first | omega | (simp (decide := true) only [am_u_at, am_u_j, am_u_ne]; omega))) ?_; rintro r I ⟨rfl, rfl⟩)
        | (refine am_rt rfl (by first | trivial | exact Or.inl rfl | exact Or.inr rfl) ?_))
      · have ek : (I 44 8 + 1 - I 44 7).toNat = k := by omega
        rw [ek]
        exact ⟨rfl, rfl⟩
      · refine am_wk [7] ?_
        have h9 := ih (k + 1) (by omega) (by omega)
        rw [show I 44 7 + ((k + 1 : Nat) : Int) = I 44 7 + (k : Int) + 1 by omega] at h9
        rw [hent (by omega) (by omega)]
        exact h9
      · refine am_wk [7] ?_
        have h9 := ih (k + 1) (by omega) (by omega)
        rw [show I 44 7 + ((k + 1 : Nat) : Int) = I 44 7 + (k : Int) + 1 by omega] at h9
        have e9 : es_fd es_oc 0 (fun q => es_f_mo (I 44) (I 44 9 - 2 - i).toNat u p q) (I 44 7) (k + 1) = es_fd es_oc 0 (fun q => es_f_mo (I 44) (I 44 9 - 2 - i).toNat u p q) (I 44 7) k := by
          show es_oc (es_fd es_oc 0 (fun q => es_f_mo (I 44) (I 44 9 - 2 - i).toNat u p q) (I 44 7) k) (es_f_mo (I 44) (I 44 9 - 2 - i).toNat u p (I 44 7 + k)) = _
          have e8 : es_f_mo (I 44) (I 44 9 - 2 - i).toNat u p (I 44 7 + k) = 0 := by
            unfold es_f_mo
            rw [if_pos (by omega)]
          rw [e8]
          exact es_mn_r es_mc hk
        rw [e9] at h9
        exact h9
  repeat' (first
    | (refine am_gp 80 [9] rfl (by first | trivial | exact Or.inl rfl | exact Or.inr rfl | (simp (decide := true) only [am_p, am_u_at, am_u_j, am_u_ne]; omega) | (simp (decide := true) only [am_p, and_true, true_and, true_or, or_true, am_u_at, am_u_j, am_u_ne]; omega) | (simp (decide := true) [am_p, am_u_at, am_u_j, am_u_ne]; omega)) ?_)
    | (show am_V _ _ _ _ _ _ _; simp only [Int.reduceToNat])
    | (refine am_bt rfl (by first | omega | (simp (decide := true) only [am_u_at, am_u_j, am_u_ne]; omega)) (by first | omega | (simp (decide := true) only [am_u_at, am_u_j, am_u_ne]; omega)) ?_)
    | (refine am_bf rfl (by first | omega | (simp (decide := true) only [am_u_at, am_u_j, am_u_ne]; omega)) (by first | omega | (simp (decide := true) only [am_u_at, am_u_j, am_u_ne]; omega)) ?_)
    | (refine am_br rfl (by first | omega | (simp (decide := true) only [am_u_at, am_u_j, am_u_ne]; omega)) (fun h => ?_) (fun h => ?_))
    | (refine am_rt rfl (by first | trivial | exact Or.inl rfl | exact Or.inr rfl) ?_))
  have h9 := loop 200 0 (by omega) (by omega)
  rw [show I 44 7 + ((0 : Nat) : Int) = I 44 7 by omega] at h9
  exact h9
theorem es_row_mo_u {R W W' : Nat → Int} {i : Int} (h : es_row_mo R W i) (he : ∀ q u : Int, R 7 ≤ q → q ≤ R 8 → 0 ≤ u → u ≤ 17 → W' ((37 * i + (q - R 7)) * 18 + u).toNat = W ((37 * i + (q - R 7)) * 18 + u).toNat) : es_row_mo R W' i := fun q u h1 h2 h3 h4 => (he q u h1 h2 h3 h4).trans (h q u h1 h2 h3 h4)
theorem c_countWays (d : Nat) (I0 : am_I) (hr : es_rm (I0 44)) : am_C (d + 3) Y_mo_countWays [.inr (.inr 44)] I0 (fun r I' => r = none ∧ am_fr I0 I' [54] ∧ ∀ i : Int, 0 ≤ i → i < I0 44 9 → es_row_mo (I0 44) (I' 54) i) := by
  refine am_enter ok_mo_countWays rfl ?_
  obtain ⟨r1, r2, r3, r4⟩ := id hr
  have loopi : ∀ (m : Nat) (i : Int) (I : am_I), -1 ≤ i → i < I0 44 9 → i + 1 < m → am_fr I0 I [54] → (∀ i' : Int, i < i' → i' < I0 44 9 → es_row_mo (I0 44) (I 54) i') → am_V (d + 3) Y_mo_countWays (fun r I' => r = none ∧ am_fr I0 I' [54] ∧ ∀ i : Int, 0 ≤ i → i < I0 44 9 → es_row_mo (I0 44) (I' 54) i) 7 [(0, .inr (.inr 44)), (1, .inl i)] [] I := by
    intro m
    induction m with
    | zero => intro i I h1 h2 h3; omega
    | succ m ih =>
      intro i I h1 h2 h3 hf hrw
      have loopp : ∀ (k : Nat) (p : Int) (I : am_I), 0 ≤ i → I0 44 7 ≤ p → p ≤ I0 44 8 + 1 → I0 44 8 + 1 - p < k → am_fr I0 I [54] → (∀ i' : Int, i < i' → i' < I0 44 9 → es_row_mo (I0 44) (I 54) i') → (∀ q u : Int, I0 44 7 ≤ q → q < p → 0 ≤ u → u ≤ 17 → I 54 ((37 * i + (q - I0 44 7)) * 18 + u).toNat = es_g_mo (I0 44) (I0 44 9 - 1 - i).toNat q u) → am_V (d + 3) Y_mo_countWays (fun r I' => r = none ∧ am_fr I0 I' [54] ∧ ∀ i : Int, 0 ≤ i → i < I0 44 9 → es_row_mo (I0 44) (I' 54) i) 16 [(0, .inr (.inr 44)), (1, .inl i), (2, .inl p)] [] I := by
        intro k
        induction k with
        | zero => intro p I g0 g1 g2 g3; omega
        | succ k ihp =>
          intro p I g0 g1 g2 g3 hf hrw hq
          have loops : ∀ (n : Nat) (s : Int) (I : am_I), p ≤ I0 44 8 → 0 ≤ s → s ≤ 18 → 18 - s < n → am_fr I0 I [54] → (∀ i' : Int, i < i' → i' < I0 44 9 → es_row_mo (I0 44) (I 54) i') → (∀ q u : Int, I0 44 7 ≤ q → q < p → 0 ≤ u → u ≤ 17 → I 54 ((37 * i + (q - I0 44 7)) * 18 + u).toNat = es_g_mo (I0 44) (I0 44 9 - 1 - i).toNat q u) → (∀ u : Int, 0 ≤ u → u < s → I 54 ((37 * i + (p - I0 44 7)) * 18 + u).toNat = es_g_mo (I0 44) (I0 44 9 - 1 - i).toNat p u) → am_V (d + 3) Y_mo_countWays (fun r I' => r = none ∧ am_fr I0 I' [54] ∧ ∀ i : Int, 0 ≤ i → i < I0 44 9 → es_row_mo (I0 44) (I' 54) i) 26 [(0, .inr (.inr 44)), (1, .inl i), (2, .inl p), (3, .inl s)] [] I := by
            intro n
            induction n with
            | zero => intro s I f0 f1 f2 f3; omega
            | succ n ihs =>
              intro s I f0 f1 f2 f3 hf hrw hq hs
              have e44 : I 44 = I0 44 := hf 44 rfl
              have e7 : I 44 7 = I0 44 7 := congrFun e44 7
              have e8 : I 44 8 = I0 44 8 := congrFun e44 8
              have e9 : I 44 9 = I0 44 9 := congrFun e44 9
              have hr' : es_rm (I 44) := by rw [e44]; exact hr
              have hrw' : i < I0 44 9 - 1 → es_row_mo (I 44) (I 54) (i + 1) := fun h => by rw [e44]; exact hrw _ (by omega) (by omega)
              have step : ∀ v : Int, s < 18 → v = es_g_mo (I0 44) (I0 44 9 - 1 - i).toNat p s → am_V (d + 3) Y_mo_countWays (fun r I' => r = none ∧ am_fr I0 I' [54] ∧ ∀ i : Int, 0 ≤ i → i < I0 44 9 → es_row_mo (I0 44) (I' 54) i) 26 [(0, .inr (.inr 44)), (1, .inl i), (2, .inl p), (3, .inl (s + 1))] [] (am_u I 54 ((37 * i + (p - I 44 7)) * 18 + s).toNat v) := by
                intro v hs8 hv
                refine ihs (s + 1) _ f0 (by omega) (by omega) (by omega) (hf.u _ _ rfl) ?_ ?_ ?_
                · intro i' h5 h6
                  refine es_row_mo_u (hrw i' h5 h6) (fun q u g7 g8 g9 g10 => ?_)
                  rw [am_u_eq, e7, am_up_ne (by omega)]
                · intro q u g7 g8 g9 g10
                  rw [am_u_eq, e7, am_up_ne (by omega)]
                  exact hq q u g7 g8 g9 g10
                · intro u g7 g8
                  rw [am_u_eq, e7]
                  by_cases c : u = s
                  · rw [c, am_up_eq]
                    exact hv
                  · rw [am_up_ne (by omega)]
                    exact hs u g7 (by omega)
              refine am_go 1 [] rfl trivial ?_
              repeat' (first
                | (refine am_gp 80 [16, 26, 74] rfl (by first | trivial | exact Or.inl rfl | exact Or.inr rfl | (simp (decide := true) only [am_p, am_u_at, am_u_j, am_u_ne]; omega) | (simp (decide := true) only [am_p, and_true, true_and, true_or, or_true, am_u_at, am_u_j, am_u_ne]; omega) | (simp (decide := true) [am_p, am_u_at, am_u_j, am_u_ne]; omega)) ?_)
                | (show am_V _ _ _ _ _ _ _; simp only [Int.reduceToNat])
                | (refine am_bt rfl (by first | omega | (simp (decide := true) only [am_u_at, am_u_j, am_u_ne]; omega)) (by first | omega | (simp (decide := true) only [am_u_at, am_u_j, am_u_ne]; omega)) ?_)
                | (refine am_bf rfl (by first | omega | (simp (decide := true) only [am_u_at, am_u_j, am_u_ne]; omega)) (by first | omega | (simp (decide := true) only [am_u_at, am_u_j, am_u_ne]; omega)) ?_)
                | (refine am_br rfl (by first | omega | (simp (decide := true) only [am_u_at, am_u_j, am_u_ne]; omega)) (fun h => ?_) (fun h => ?_))
                | (refine am_cV (y' := Y_mo_fits) rfl lk_mo_151 ok_mo_fits rfl rfl rfl (c_fits _ _ _ _ (by first | omega | (simp (decide := true) only [am_u_at, am_u_j, am_u_ne]; omega)) (by first | omega | (simp (decide := true) only [am_u_at, am_u_j, am_u_ne]; omega)) (by first | omega | (simp (decide := true) only [am_u_at, am_u_j, am_u_ne]; omega)) (by first | omega | (simp (decide := true) only [am_u_at, am_u_j, am_u_ne]; omega)) (by first | omega | (simp (decide := true) only [am_u_at, am_u_j, am_u_ne]; omega))) ?_; rintro r I ⟨rfl, (⟨rfl, hft⟩ | ⟨rfl, hft⟩)⟩ <;> (try (exfalso; omega)))
                | (refine am_cS (y' := Y_mo_cellAt) rfl lk_mo_147 ok_mo_cellAt rfl rfl (c_cellAt _ _ _ _ _) ?_; rintro r I ⟨rfl, rfl⟩)
                | (refine am_rt rfl (by first | trivial | exact Or.inl rfl | exact Or.inr rfl) ?_))
              · refine am_wk [3] ?_
                refine ihp (p + 1) _ g0 (by omega) (by omega) (by omega) hf hrw ?_
                intro q u g7 g8 g9 g10
                by_cases c : q = p
                · rw [c]
                  exact hs u g9 (by omega)
                · exact hq q u g7 (by omega) g9 g10
              · have hrow := hrw' (by omega)
                repeat' (first
                  | (refine am_gp 80 [26] rfl (by first | trivial | exact Or.inl rfl | exact Or.inr rfl | (simp (decide := true) only [am_p, am_u_at, am_u_j, am_u_ne]; omega) | (simp (decide := true) only [am_p, and_true, true_and, true_or, or_true, am_u_at, am_u_j, am_u_ne]; omega) | (simp (decide := true) [am_p, am_u_at, am_u_j, am_u_ne]; omega)) ?_)
                  | (show am_V _ _ _ _ _ _ _; simp only [Int.reduceToNat])
                  | (refine am_bt rfl (by first | omega | (simp (decide := true) only [am_u_at, am_u_j, am_u_ne]; omega)) (by first | omega | (simp (decide := true) only [am_u_at, am_u_j, am_u_ne]; omega)) ?_)
                  | (refine am_bf rfl (by first | omega | (simp (decide := true) only [am_u_at, am_u_j, am_u_ne]; omega)) (by first | omega | (simp (decide := true) only [am_u_at, am_u_j, am_u_ne]; omega)) ?_)
                  | (refine am_br rfl (by first | omega | (simp (decide := true) only [am_u_at, am_u_j, am_u_ne]; omega)) (fun h => ?_) (fun h => ?_))
                  | (refine am_cV (y' := Y_mo_waysOn) rfl lk_mo_154 ok_mo_waysOn rfl rfl rfl (c_waysOn _ _ _ _ _ (by assumption) (by first | omega | (simp (decide := true) only [am_u_at, am_u_j, am_u_ne]; omega)) (by first | omega | (simp (decide := true) only [am_u_at, am_u_j, am_u_ne]; omega)) (by first | omega | (simp (decide := true) only [am_u_at, am_u_j, am_u_ne]; omega)) (by assumption)) ?_; rintro r I ⟨rfl, rfl⟩)
                  | (refine am_rt rfl (by first | trivial | exact Or.inl rfl | exact Or.inr rfl) ?_))
                refine step _ (by omega) ?_
                have em : (I0 44 9 - 1 - i).toNat = (I0 44 9 - 2 - i).toNat + 1 := by omega
                have ep : I0 44 9 - 1 - (((I0 44 9 - 2 - i).toNat + 1 : Nat) : Int) = i := by omega
                rw [e44] at hft ⊢
                unfold es_g_mo
                rw [em, es_G_on _ _ _ (by rw [ep]; exact hft.2)]
                rfl
              · refine step _ (by omega) ?_
                rw [e44] at hft
                unfold es_g_mo
                rw [show (I0 44 9 - 1 - i).toNat = 0 by omega, es_G_end _ _ (by rw [show I0 44 9 - 1 = i by omega]; exact hft.2)]
              · refine step _ (by omega) ?_
                rw [e44] at hft
                unfold es_g_mo
                rw [es_G_no _ _ _ (by rw [show I0 44 9 - 1 - ((I0 44 9 - 1 - i).toNat : Int) = i by omega]; exact fun z => hft ⟨by omega, z⟩)]
          have e8 : I 44 8 = I0 44 8 := by rw [hf 44 rfl]
          refine am_go 1 [] rfl trivial ?_
          repeat' (first
            | (refine am_gp 80 [7, 26] rfl (by first | trivial | exact Or.inl rfl | exact Or.inr rfl | (simp (decide := true) only [am_p, am_u_at, am_u_j, am_u_ne]; omega) | (simp (decide := true) only [am_p, and_true, true_and, true_or, or_true, am_u_at, am_u_j, am_u_ne]; omega) | (simp (decide := true) [am_p, am_u_at, am_u_j, am_u_ne]; omega)) ?_)
            | (show am_V _ _ _ _ _ _ _; simp only [Int.reduceToNat])
            | (refine am_bt rfl (by first | omega | (simp (decide := true) only [am_u_at, am_u_j, am_u_ne]; omega)) (by first | omega | (simp (decide := true) only [am_u_at, am_u_j, am_u_ne]; omega)) ?_)
            | (refine am_bf rfl (by first | omega | (simp (decide := true) only [am_u_at, am_u_j, am_u_ne]; omega)) (by first | omega | (simp (decide := true) only [am_u_at, am_u_j, am_u_ne]; omega)) ?_)
            | (refine am_br rfl (by first | omega | (simp (decide := true) only [am_u_at, am_u_j, am_u_ne]; omega)) (fun h => ?_) (fun h => ?_))
            | (refine am_rt rfl (by first | trivial | exact Or.inl rfl | exact Or.inr rfl) ?_))
          · refine am_wk [2] ?_
            refine ih (i - 1) _ (by omega) (by omega) (by omega) hf ?_
            intro i' h5 h6
            by_cases c : i' = i
            · rw [c]
              exact fun q u g7 g8 g9 g10 => hq q u g7 (by omega) g9 g10
            · exact hrw i' (by omega) h6
          · exact loops 19 0 _ (by omega) (by omega) (by omega) (by omega) hf hrw hq (fun u g7 g8 => by omega)
      have e7 : I 44 7 = I0 44 7 := by rw [hf 44 rfl]
      refine am_go 1 [] rfl trivial ?_
      repeat' (first
        | (refine am_gp 80 [16] rfl (by first | trivial | exact Or.inl rfl | exact Or.inr rfl | (simp (decide := true) only [am_p, am_u_at, am_u_j, am_u_ne]; omega) | (simp (decide := true) only [am_p, and_true, true_and, true_or, or_true, am_u_at, am_u_j, am_u_ne]; omega) | (simp (decide := true) [am_p, am_u_at, am_u_j, am_u_ne]; omega)) ?_)
        | (show am_V _ _ _ _ _ _ _; simp only [Int.reduceToNat])
        | (refine am_bt rfl (by first | omega | (simp (decide := true) only [am_u_at, am_u_j, am_u_ne]; omega)) (by first | omega | (simp (decide := true) only [am_u_at, am_u_j, am_u_ne]; omega)) ?_)
        | (refine am_bf rfl (by first | omega | (simp (decide := true) only [am_u_at, am_u_j, am_u_ne]; omega)) (by first | omega | (simp (decide := true) only [am_u_at, am_u_j, am_u_ne]; omega)) ?_)
        | (refine am_br rfl (by first | omega | (simp (decide := true) only [am_u_at, am_u_j, am_u_ne]; omega)) (fun h => ?_) (fun h => ?_))
        | (refine am_rt rfl (by first | trivial | exact Or.inl rfl | exact Or.inr rfl) ?_))
      · exact ⟨rfl, hf, fun i' h5 h6 => hrw i' (by omega) h6⟩
      · rw [e7]
        exact loopp 200 (I0 44 7) I (by omega) (by omega) (by omega) (by omega) hf hrw (fun q u g7 g8 => by omega)
  repeat' (first
    | (refine am_gp 80 [7] rfl (by first | trivial | exact Or.inl rfl | exact Or.inr rfl | (simp (decide := true) only [am_p, am_u_at, am_u_j, am_u_ne]; omega) | (simp (decide := true) only [am_p, and_true, true_and, true_or, or_true, am_u_at, am_u_j, am_u_ne]; omega) | (simp (decide := true) [am_p, am_u_at, am_u_j, am_u_ne]; omega)) ?_)
    | (show am_V _ _ _ _ _ _ _; simp only [Int.reduceToNat])
    | (refine am_bt rfl (by first | omega | (simp (decide := true) only [am_u_at, am_u_j, am_u_ne]; omega)) (by first | omega | (simp (decide := true) only [am_u_at, am_u_j, am_u_ne]; omega)) ?_)
    | (refine am_bf rfl (by first | omega | (simp (decide := true) only [am_u_at, am_u_j, am_u_ne]; omega)) (by first | omega | (simp (decide := true) only [am_u_at, am_u_j, am_u_ne]; omega)) ?_)
    | (refine am_br rfl (by first | omega | (simp (decide := true) only [am_u_at, am_u_j, am_u_ne]; omega)) (fun h => ?_) (fun h => ?_))
    | (refine am_rt rfl (by first | trivial | exact Or.inl rfl | exact Or.inr rfl) ?_))
  exact loopi 17 (I0 44 9 - 1) I0 (by omega) (by omega) (by omega) am_fr.rf (fun i' h5 h6 => by omega)
noncomputable def es_tot (R : Nat → Int) : Int := es_fd es_oc 0 (fun q => es_g_mo R (R 9 - 1).toNat q 0) (R 7) (R 8 + 1 - R 7).toNat
theorem c_mo_melodies (d : Nat) (I0 : am_I) (hr : es_rm (I0 44)) : am_C (d + 4) Y_mo_melodies [.inr (.inr 44)] I0 (fun r I' => r = some (.inr (.inl (es_tot (I0 44)))) ∧ am_fr I0 I' [54] ∧ ∀ i : Int, 0 ≤ i → i < I0 44 9 → es_row_mo (I0 44) (I' 54) i) := by
  refine am_enter ok_mo_melodies rfl ?_
  obtain ⟨r1, r2, r3, r4⟩ := id hr
  have loop : ∀ (m k : Nat) (I : am_I), am_fr I0 I [54] → (∀ i : Int, 0 ≤ i → i < I0 44 9 → es_row_mo (I0 44) (I 54) i) → I0 44 7 + k ≤ I0 44 8 + 1 → I0 44 8 + 1 - (I0 44 7 + k) < m → am_V (d + 4) Y_mo_melodies (fun r I' => r = some (.inr (.inl (es_tot (I0 44)))) ∧ am_fr I0 I' [54] ∧ ∀ i : Int, 0 ≤ i → i < I0 44 9 → es_row_mo (I0 44) (I' 54) i) 11 [(0, .inr (.inr 44)), (1, .inr (.inl (es_fd es_oc 0 (fun q => es_g_mo (I0 44) (I0 44 9 - 1).toNat q 0) (I0 44 7) k))), (3, .inl (I0 44 7 + k))] [] I := by
    intro m
    induction m with
    | zero => intro k I hf hrw h1 h2; omega
    | succ m ih =>
      intro k I hf hrw h1 h2
      have e44 : I 44 = I0 44 := hf 44 rfl
      have e7 : I 44 7 = I0 44 7 := congrFun e44 7
      have e8 : I 44 8 = I0 44 8 := congrFun e44 8
      have hk := es_fc_D (f := fun q => es_g_mo (I0 44) (I0 44 9 - 1).toNat q 0) (fun q => es_g_mo_D _ _ _ _) (I0 44 7) k
      have hd := es_g_mo_D (I0 44) (I0 44 9 - 1).toNat (I0 44 7 + k) 0
      have hent : I0 44 7 + k ≤ I0 44 8 → I 54 ((37 * 0 + (I0 44 7 + k - I 44 7)) * 18 + 0).toNat = es_g_mo (I0 44) (I0 44 9 - 1).toNat (I0 44 7 + k) 0 := by
        intro h4
        have h5 := hrw 0 (by omega) (by omega) (I0 44 7 + k) 0 (by omega) h4 (by omega) (by omega)
        rw [show I0 44 9 - 1 - 0 = I0 44 9 - 1 by omega] at h5
        rw [e7]
        exact h5
      refine am_go 1 [] rfl trivial ?_
      repeat' (first
        | (refine am_gp 80 [11] rfl (by first | trivial | exact Or.inl rfl | exact Or.inr rfl | (simp (decide := true) only [am_p, am_u_at, am_u_j, am_u_ne]; omega) | (simp (decide := true) only [am_p, and_true, true_and, true_or, or_true, am_u_at, am_u_j, am_u_ne]; omega) | (simp (decide := true) [am_p, am_u_at, am_u_j, am_u_ne]; omega)) ?_)
        | (show am_V _ _ _ _ _ _ _; simp only [Int.reduceToNat])
        | (refine am_bt rfl (by first | omega | (simp (decide := true) only [am_u_at, am_u_j, am_u_ne]; omega)) (by first | omega | (simp (decide := true) only [am_u_at, am_u_j, am_u_ne]; omega)) ?_)
        | (refine am_bf rfl (by first | omega | (simp (decide := true) only [am_u_at, am_u_j, am_u_ne]; omega)) (by first | omega | (simp (decide := true) only [am_u_at, am_u_j, am_u_ne]; omega)) ?_)
        | (refine am_br rfl (by first | omega | (simp (decide := true) only [am_u_at, am_u_j, am_u_ne]; omega)) (fun h => ?_) (fun h => ?_))
        | (refine am_cS (y' := Y_mo_cellAt) rfl lk_mo_147 ok_mo_cellAt rfl rfl (c_cellAt _ _ _ _ _) ?_; rintro r I ⟨rfl, rfl⟩)
        | (refine am_cS (y' := Y_mo_plus) rfl lk_mo_162 ok_mo_plus rfl rfl (c_mo_plus _ _ _ _ (by first | omega | (simp (decide := true) only [am_u_at, am_u_j, am_u_ne]; omega)) (by first | omega | (simp (decide := true) only [am_u_at, am_u_j, am_u_ne]; omega))) ?_; rintro r I ⟨rfl, rfl⟩)
        | (refine am_rt rfl (by first | trivial | exact Or.inl rfl | exact Or.inr rfl) ?_))
      · have ek : (I0 44 8 + 1 - I0 44 7).toNat = k := by omega
        refine ⟨?_, hf, hrw⟩
        unfold es_tot
        rw [ek]
      · have h9 := ih (k + 1) I hf hrw (by omega) (by omega)
        rw [show I0 44 7 + ((k + 1 : Nat) : Int) = I0 44 7 + (k : Int) + 1 by omega] at h9
        rw [hent (by omega)]
        exact h9
  repeat' (first
    | (refine am_gp 80 [11] rfl (by first | trivial | exact Or.inl rfl | exact Or.inr rfl | (simp (decide := true) only [am_p, am_u_at, am_u_j, am_u_ne]; omega) | (simp (decide := true) only [am_p, and_true, true_and, true_or, or_true, am_u_at, am_u_j, am_u_ne]; omega) | (simp (decide := true) [am_p, am_u_at, am_u_j, am_u_ne]; omega)) ?_)
    | (show am_V _ _ _ _ _ _ _; simp only [Int.reduceToNat])
    | (refine am_bt rfl (by first | omega | (simp (decide := true) only [am_u_at, am_u_j, am_u_ne]; omega)) (by first | omega | (simp (decide := true) only [am_u_at, am_u_j, am_u_ne]; omega)) ?_)
    | (refine am_bf rfl (by first | omega | (simp (decide := true) only [am_u_at, am_u_j, am_u_ne]; omega)) (by first | omega | (simp (decide := true) only [am_u_at, am_u_j, am_u_ne]; omega)) ?_)
    | (refine am_br rfl (by first | omega | (simp (decide := true) only [am_u_at, am_u_j, am_u_ne]; omega)) (fun h => ?_) (fun h => ?_))
    | (refine am_cV (y' := Y_mo_countWays) rfl lk_mo_166 ok_mo_countWays rfl rfl rfl (c_countWays _ _ (by assumption)) ?_; rintro r I ⟨rfl, hfr, hrows⟩)
    | (refine am_rt rfl (by first | trivial | exact Or.inl rfl | exact Or.inr rfl) ?_))
  have e7 : I 44 7 = I0 44 7 := by rw [hfr 44 rfl]
  have h9 := loop 200 0 I hfr hrows (by omega) (by omega)
  rw [show I0 44 7 + ((0 : Nat) : Int) = I 44 7 by omega] at h9
  exact h9
