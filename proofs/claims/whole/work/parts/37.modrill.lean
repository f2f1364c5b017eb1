def es_pw (A M : Nat → Int) (p : Int) (j : Nat) : Int := es_wt (A (13 * p + (j : Int)).toNat) (M (13 * p + (j : Int)).toNat)
def es_hA (A M : Nat → Int) : Prop := ∀ j : Nat, j < 78 → (0 ≤ A j ∧ A j ≤ 20000) ∧ (0 ≤ M j ∧ M j ≤ 20000)
theorem es_pw_hw {A M : Nat → Int} (h : es_hA A M) {p : Int} (hp : 0 ≤ p ∧ p ≤ 5) : es_hw (es_pw A M p) := by
  intro j hj
  have h1 := h (13 * p + (j : Int)).toNat (by omega)
  exact es_wt_rng h1.1 h1.2
def es_row_mw (R : Nat → Int) (sf : Int → Int → Int) (W : Nat → Int) (i : Int) : Prop := ∀ q u : Int, R 7 ≤ q → q ≤ R 8 → 0 ≤ u → u ≤ 17 → W ((37 * i + (q - R 7)) * 18 + u).toNat = es_gw R sf (R 9 - 1 - i).toNat q u
theorem es_row_mw_u {R W W' : Nat → Int} {sf : Int → Int → Int} {i : Int} (h : es_row_mw R sf W i) (he : ∀ q u : Int, R 7 ≤ q → q ≤ R 8 → 0 ≤ u → u ≤ 17 → W' ((37 * i + (q - R 7)) * 18 + u).toNat = W ((37 * i + (q - R 7)) * 18 + u).toNat) : es_row_mw R sf W' i := fun q u h1 h2 h3 h4 => (he q u h1 h2 h3 h4).trans (h q u h1 h2 h3 h4)
theorem c_goingOn (d : Nat) (pu i p u q : Int) (I : am_I) (hr : es_rm (I 44)) (hpu : 0 ≤ pu ∧ pu ≤ 5) (hA : es_hA (I 52) (I 53)) (hi : 0 ≤ i ∧ i < I 44 9 - 1) (hp : I 44 7 ≤ p ∧ p ≤ I 44 8) (hu : 0 ≤ u ∧ u ≤ 17) (hq : I 44 7 ≤ q ∧ q ≤ I 44 8) (hrow : es_row_mw (I 44) (es_ws (es_pw (I 52) (I 53) pu)) (I 54) (i + 1)) : am_C (d + 2) Y_mo_goingOn [.inr (.inr 44), .inl pu, .inl i, .inl p, .inl u, .inl q] I (fun r I' => I' = I ∧ r = some (.inr (.inl (es_x (es_cut (I 44)) (es_ws (es_pw (I 52) (I 53) pu)) (i + 1) p u q)))) := by
  refine am_enter ok_mo_goingOn rfl ?_
  obtain ⟨r1, r2, r3, r4⟩ := id hr
  have hw := es_pw_hw hA hpu
  have R7 : es_cut (I 44) 7 = I 44 7 := rfl
  have R8 : es_cut (I 44) 8 = I 44 8 := rfl
  have R9 : es_cut (I 44) 9 = I 44 9 := rfl
  have R13 : es_cut (I 44) 13 = I 44 13 := rfl
  have R14 : es_cut (I 44) 14 = I 44 14 := rfl
  have R15 : es_cut (I 44) 15 = I 44 15 := rfl
  have hbr := es_bh_rng (I 44 13) (I 44 14) (I 44 15) u (q - p) r4 hu
  have hb12 : es_bh (I 44 13) (I 44 14) (I 44 15) u (q - p) ≠ -1 → -12 ≤ q - p ∧ q - p ≤ 12 := by
    intro h
    refine Classical.byContradiction (fun c => h ?_)
    unfold es_bh
    rw [if_pos (Or.inl c)]
  have hx1 : es_bh (I 44 13) (I 44 14) (I 44 15) u (q - p) = -1 → es_x (es_cut (I 44)) (es_ws (es_pw (I 52) (I 53) pu)) (i + 1) p u q = -1 := by
    intro h
    unfold es_x
    rw [R7, R8, R9, R13, R14, R15, if_pos hq, if_neg (by omega), if_pos h]
  have hx2 : es_bh (I 44 13) (I 44 14) (I 44 15) u (q - p) ≠ -1 → es_x (es_cut (I 44)) (es_ws (es_pw (I 52) (I 53) pu)) (i + 1) p u q = es_ws (es_pw (I 52) (I 53) pu) (q - p) (I 54 ((37 * (i + 1) + (q - I 44 7)) * 18 + es_bh (I 44 13) (I 44 14) (I 44 15) u (q - p)).toNat) := by
    intro h
    rw [hrow q _ hq.1 hq.2 (by omega) (by omega)]
    unfold es_x
    rw [R7, R8, R9, R13, R14, R15, if_pos hq, if_neg (by omega), if_neg h]
    rfl
  have hent : es_bh (I 44 13) (I 44 14) (I 44 15) u (q - p) ≠ -1 → -1 ≤ I 54 ((37 * (i + 1) + (q - I 44 7)) * 18 + es_bh (I 44 13) (I 44 14) (I 44 15) u (q - p)).toNat ∧ I 54 ((37 * (i + 1) + (q - I 44 7)) * 18 + es_bh (I 44 13) (I 44 14) (I 44 15) u (q - p)).toNat ≤ 20000000 := by
    intro h
    rw [hrow q _ hq.1 hq.2 (by omega) (by omega)]
    have h5 := es_gw_D hw (I 44) (I 44 9 - 1 - (i + 1)).toNat q (es_bh (I 44 13) (I 44 14) (I 44 15) u (q - p))
    omega
  have hw1 : 0 ≤ q - p → q - p ≤ 12 → (0 ≤ I 52 (13 * pu + (q - p)).toNat ∧ I 52 (13 * pu + (q - p)).toNat ≤ 20000) ∧ (0 ≤ I 53 (13 * pu + (q - p)).toNat ∧ I 53 (13 * pu + (q - p)).toNat ≤ 20000) := fun h1 h2 => hA _ (by omega)
  have hw2 : 0 ≤ p - q → p - q ≤ 12 → (0 ≤ I 52 (13 * pu + (p - q)).toNat ∧ I 52 (13 * pu + (p - q)).toNat ≤ 20000) ∧ (0 ≤ I 53 (13 * pu + (p - q)).toNat ∧ I 53 (13 * pu + (p - q)).toNat ≤ 20000) := fun h1 h2 => hA _ (by omega)
  have hw3 : 0 ≤ q - p → q - p ≤ 12 → 0 ≤ es_wt (I 52 (13 * pu + (q - p)).toNat) (I 53 (13 * pu + (q - p)).toNat) ∧ es_wt (I 52 (13 * pu + (q - p)).toNat) (I 53 (13 * pu + (q - p)).toNat) ≤ 1000000 := fun h1 h2 => es_wt_rng (hw1 h1 h2).1 (hw1 h1 h2).2
  have hw4 : 0 ≤ p - q → p - q ≤ 12 → 0 ≤ es_wt (I 52 (13 * pu + (p - q)).toNat) (I 53 (13 * pu + (p - q)).toNat) ∧ es_wt (I 52 (13 * pu + (p - q)).toNat) (I 53 (13 * pu + (p - q)).toNat) ≤ 1000000 := fun h1 h2 => es_wt_rng (hw2 h1 h2).1 (hw2 h1 h2).2
  repeat' (first
    | (refine am_gp 80 [] rfl (by first | trivial | exact Or.inl rfl | exact Or.inr rfl | (simp (decide := true) only [am_p, am_u_at, am_u_j, am_u_ne]; omega) | (simp (decide := true) only [am_p, and_true, true_and, true_or, or_true, am_u_at, am_u_j, am_u_ne]; omega) | (simp (decide := true) [am_p, am_u_at, am_u_j, am_u_ne]; omega)) ?_)
    | (show am_V _ _ _ _ _ _ _; simp only [Int.reduceToNat])
    | (refine am_bt rfl (by first | omega | (simp (decide := true) only [am_u_at, am_u_j, am_u_ne]; omega)) (by first | omega | (simp (decide := true) only [am_u_at, am_u_j, am_u_ne]; omega)) ?_)
    | (refine am_bf rfl (by first | omega | (simp (decide := true) only [am_u_at, am_u_j, am_u_ne]; omega)) (by first | omega | (simp (decide := true) only [am_u_at, am_u_j, am_u_ne]; omega)) ?_)
    | (refine am_br rfl (by first | omega | (simp (decide := true) only [am_u_at, am_u_j, am_u_ne]; omega)) (fun h => ?_) (fun h => ?_))
    | (refine am_cV (y' := Y_mo_behind) rfl lk_mo_158 ok_mo_behind rfl rfl rfl (c_behind _ _ _ _ (by first | omega | (simp (decide := true) only [am_u_at, am_u_j, am_u_ne]; omega)) (by first | omega | (simp (decide := true) only [am_u_at, am_u_j, am_u_ne]; omega)) (by first | omega | (simp (decide := true) only [am_u_at, am_u_j, am_u_ne]; omega)) (by first | omega | (simp (decide := true) only [am_u_at, am_u_j, am_u_ne]; omega))) ?_; rintro r I ⟨rfl, rfl⟩)
    | (refine am_cS (y' := Y_mo_cellAt) rfl lk_mo_147 ok_mo_cellAt rfl rfl (c_cellAt _ _ _ _ _) ?_; rintro r I ⟨rfl, rfl⟩)
    | (refine am_cV (y' := Y_mo_weight) rfl lk_mo_250 ok_mo_weight rfl rfl rfl (c_mo_weight _ _ _ _ (by first | omega | (simp (decide := true) only [am_u_at, am_u_j, am_u_ne]; omega)) (by first | omega | (simp (decide := true) only [am_u_at, am_u_j, am_u_ne]; omega)) (by first | omega | (simp (decide := true) only [am_u_at, am_u_j, am_u_ne]; omega)) (by first | omega | (simp (decide := true) only [am_u_at, am_u_j, am_u_ne]; omega))) ?_; rintro r I ⟨rfl, rfl⟩)
    | (refine am_rt rfl (by first | trivial | exact Or.inl rfl | exact Or.inr rfl) ?_))
  · refine ⟨rfl, ?_⟩
    rw [hx2 (by omega)]
    unfold es_ws es_pw
    rw [if_neg (by omega), show ((max (q - p) (-(q - p))).toNat : Int) = q - p by omega]
  · refine ⟨rfl, ?_⟩
    rw [hx2 (by omega)]
    unfold es_ws es_pw
    rw [if_neg (by omega), show ((max (q - p) (-(q - p))).toNat : Int) = p - q by omega]
  · refine ⟨rfl, ?_⟩
    rw [hx2 (by omega)]
    unfold es_ws
    rw [if_pos (by omega)]
  · refine ⟨rfl, ?_⟩
    rw [hx1 (by omega)]
theorem c_bestOn (d : Nat) (pu i p u : Int) (I : am_I) (hr : es_rm (I 44)) (hpu : 0 ≤ pu ∧ pu ≤ 5) (hA : es_hA (I 52) (I 53)) (hi : 0 ≤ i ∧ i < I 44 9 - 1) (hp : I 44 7 ≤ p ∧ p ≤ I 44 8) (hu : 0 ≤ u ∧ u ≤ 17) (hrow : es_row_mw (I 44) (es_ws (es_pw (I 52) (I 53) pu)) (I 54) (i + 1)) : am_C (d + 3) Y_mo_bestOn [.inr (.inr 44), .inl pu, .inl i, .inl p, .inl u] I (fun r I' => I' = I ∧ r = some (.inr (.inl (es_fd es_om (-1) (es_x (es_cut (I 44)) (es_ws (es_pw (I 52) (I 53) pu)) (i + 1) p u) (I 44 7) (I 44 8 + 1 - I 44 7).toNat)))) := by
  refine am_enter ok_mo_bestOn rfl ?_
  obtain ⟨r1, r2, r3, r4⟩ := id hr
  have hw := es_pw_hw hA hpu
  have hxD : ∀ q, _ := fun q => es_x_D hw (R := es_cut (I 44)) hr (i := i + 1) (by omega) p u q
  have loop : ∀ (m k : Nat), I 44 7 + k ≤ I 44 8 + 1 → I 44 8 + 1 - (I 44 7 + k) < m → am_V (d + 3) Y_mo_bestOn (fun r I' => I' = I ∧ r = some (.inr (.inl (es_fd es_om (-1) (es_x (es_cut (I 44)) (es_ws (es_pw (I 52) (I 53) pu)) (i + 1) p u) (I 44 7) (I 44 8 + 1 - I 44 7).toNat)))) 11 [(0, .inr (.inr 44)), (1, .inl pu), (2, .inl i), (3, .inl p), (4, .inl u), (5, .inr (.inl (es_fd es_om (-1) (es_x (es_cut (I 44)) (es_ws (es_pw (I 52) (I 53) pu)) (i + 1) p u) (I 44 7) k))), (7, .inl (I 44 7 + k))] [] I := by
    intro m
    induction m with
    | zero => intro k h1 h2; omega
    | succ m ih =>
      intro k h1 h2
      have hk1 : -1 ≤ es_fd es_om (-1) (es_x (es_cut (I 44)) (es_ws (es_pw (I 52) (I 53) pu)) (i + 1) p u) (I 44 7) k := es_fd_D (D := es_Dm) es_mm (fun q => (hxD q).1) k
      have hk2 := es_fm_le (f := es_x (es_cut (I 44)) (es_ws (es_pw (I 52) (I 53) pu)) (i + 1) p u) (a := I 44 7) (b := 20000000) (by omega) (fun q => (hxD q).2) k
      have hxk := hxD (I 44 7 + k)
      have e9 : es_fd es_om (-1) (es_x (es_cut (I 44)) (es_ws (es_pw (I 52) (I 53) pu)) (i + 1) p u) (I 44 7) (k + 1) = max (es_fd es_om (-1) (es_x (es_cut (I 44)) (es_ws (es_pw (I 52) (I 53) pu)) (i + 1) p u) (I 44 7) k) (es_x (es_cut (I 44)) (es_ws (es_pw (I 52) (I 53) pu)) (i + 1) p u (I 44 7 + k)) := rfl
      refine am_go 1 [] rfl trivial ?_
      repeat' (first
        | (refine am_gp 80 [11] rfl (by first | trivial | exact Or.inl rfl | exact Or.inr rfl | (simp (decide := true) only [am_p, am_u_at, am_u_j, am_u_ne]; omega) | (simp (decide := true) only [am_p, and_true, true_and, true_or, or_true, am_u_at, am_u_j, am_u_ne]; omega) | (simp (decide := true) [am_p, am_u_at, am_u_j, am_u_ne]; omega)) ?_)
        | (show am_V _ _ _ _ _ _ _; simp only [Int.reduceToNat])
        | (refine am_bt rfl (by first | omega | (simp (decide := true) only [am_u_at, am_u_j, am_u_ne]; omega)) (by first | omega | (simp (decide := true) only [am_u_at, am_u_j, am_u_ne]; omega)) ?_)
        | (refine am_bf rfl (by first | omega | (simp (decide := true) only [am_u_at, am_u_j, am_u_ne]; omega)) (by first | omega | (simp (decide := true) only [am_u_at, am_u_j, am_u_ne]; omega)) ?_)
        | (refine am_br rfl (by first | omega | (simp (decide := true) only [am_u_at, am_u_j, am_u_ne]; omega)) (fun h => ?_) (fun h => ?_))
        | (refine am_cV (y' := Y_mo_goingOn) rfl lk_mo_253 ok_mo_goingOn rfl rfl rfl (c_goingOn _ _ _ _ _ _ _ (by assumption) hpu (by assumption) (by first | omega | (simp (decide := true) only [am_u_at, am_u_j, am_u_ne]; omega)) (by first | omega | (simp (decide := true) only [am_u_at, am_u_j, am_u_ne]; omega)) (by first | omega | (simp (decide := true) only [am_u_at, am_u_j, am_u_ne]; omega)) (by first | omega | (simp (decide := true) only [am_u_at, am_u_j, am_u_ne]; omega)) (by assumption)) ?_; rintro r I ⟨rfl, rfl⟩)
        | (refine am_rt rfl (by first | trivial | exact Or.inl rfl | exact Or.inr rfl) ?_))
      · have ek : (I 44 8 + 1 - I 44 7).toNat = k := by omega
        rw [ek]
        exact ⟨rfl, rfl⟩
      · refine am_wk [8] ?_
        have h9 := ih (k + 1) (by omega) (by omega)
        rw [show I 44 7 + ((k + 1 : Nat) : Int) = I 44 7 + (k : Int) + 1 by omega, e9, show max (es_fd es_om (-1) (es_x (es_cut (I 44)) (es_ws (es_pw (I 52) (I 53) pu)) (i + 1) p u) (I 44 7) k) (es_x (es_cut (I 44)) (es_ws (es_pw (I 52) (I 53) pu)) (i + 1) p u (I 44 7 + k)) = es_fd es_om (-1) (es_x (es_cut (I 44)) (es_ws (es_pw (I 52) (I 53) pu)) (i + 1) p u) (I 44 7) k by omega] at h9
        exact h9
      · refine am_wk [8] ?_
        have h9 := ih (k + 1) (by omega) (by omega)
        rw [show I 44 7 + ((k + 1 : Nat) : Int) = I 44 7 + (k : Int) + 1 by omega, e9, show max (es_fd es_om (-1) (es_x (es_cut (I 44)) (es_ws (es_pw (I 52) (I 53) pu)) (i + 1) p u) (I 44 7) k) (es_x (es_cut (I 44)) (es_ws (es_pw (I 52) (I 53) pu)) (i + 1) p u (I 44 7 + k)) = es_x (es_cut (I 44)) (es_ws (es_pw (I 52) (I 53) pu)) (i + 1) p u (I 44 7 + k) by omega] at h9
        exact h9
  repeat' (first
    | (refine am_gp 80 [11] rfl (by first | trivial | exact Or.inl rfl | exact Or.inr rfl | (simp (decide := true) only [am_p, am_u_at, am_u_j, am_u_ne]; omega) | (simp (decide := true) only [am_p, and_true, true_and, true_or, or_true, am_u_at, am_u_j, am_u_ne]; omega) | (simp (decide := true) [am_p, am_u_at, am_u_j, am_u_ne]; omega)) ?_)
    | (show am_V _ _ _ _ _ _ _; simp only [Int.reduceToNat])
    | (refine am_bt rfl (by first | omega | (simp (decide := true) only [am_u_at, am_u_j, am_u_ne]; omega)) (by first | omega | (simp (decide := true) only [am_u_at, am_u_j, am_u_ne]; omega)) ?_)
    | (refine am_bf rfl (by first | omega | (simp (decide := true) only [am_u_at, am_u_j, am_u_ne]; omega)) (by first | omega | (simp (decide := true) only [am_u_at, am_u_j, am_u_ne]; omega)) ?_)
    | (refine am_br rfl (by first | omega | (simp (decide := true) only [am_u_at, am_u_j, am_u_ne]; omega)) (fun h => ?_) (fun h => ?_))
    | (refine am_rt rfl (by first | trivial | exact Or.inl rfl | exact Or.inr rfl) ?_))
  have h9 := loop 200 0 (by omega) (by omega)
  rw [show I 44 7 + ((0 : Nat) : Int) = I 44 7 by omega] at h9
  exact h9
