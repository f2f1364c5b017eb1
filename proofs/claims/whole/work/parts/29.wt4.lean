noncomputable def es_g_wt (J : am_I) : Nat → Int → Int → Int := es_G es_om (-1) 0 (es_ws (J 13)) (J 7 1) (J 7 2) (J 7 3) (J 8 0) (J 8 1) (J 8 2) (J 8 3) (J 7 4) (J 7 5)
noncomputable def es_b_wt (J : am_I) (m : Nat) (q t s : Int) : Int := es_B (es_ws (J 13)) (es_g_wt J m) (-1) (J 7 1) (J 7 2) (J 8 3) (J 7 4) (J 7 5) q t s
def es_row_wt (J I : am_I) (p : Int) : Prop := ∀ q t : Int, J 7 1 ≤ q → q ≤ J 7 2 → es_vs J p t → I 12 ((p * 37 + q - J 7 1) * 18 + t).toNat = es_g_wt J (J 7 3 - 1 - p).toNat q (es_T t)
theorem es_row_wt_u {J I I' : am_I} {p : Int} (h : es_row_wt J I p) (he : ∀ q t : Int, J 7 1 ≤ q → q ≤ J 7 2 → es_vs J p t → I' 12 ((p * 37 + q - J 7 1) * 18 + t).toNat = I 12 ((p * 37 + q - J 7 1) * 18 + t).toNat) : es_row_wt J I' p := fun q t h1 h2 h3 => (he q t h1 h2 h3).trans (h q t h1 h2 h3)
theorem c_wt_by (d : Nat) (p q t s : Int) (I J : am_I) (h7 : I 7 = J 7) (h8 : I 8 = J 8) (h13 : I 13 = J 13) (hr : es_rb J) (hp : 0 ≤ p ∧ p < J 7 3 - 1) (hq : J 7 1 ≤ q ∧ q ≤ J 7 2) (ht : es_vs J p t) (hs : -1000 ≤ s ∧ s ≤ 1000) (hv : ∀ j : Nat, -1 ≤ I 12 j ∧ I 12 j ≤ 1000000000) (hw : ∀ j : Nat, j < 13 → 0 ≤ J 13 j ∧ J 13 j ≤ 1000000) (hrw : es_row_wt J I (p + 1)) : am_C (d + 2) Y_mt_byStep [.inr (.inr 11), .inl p, .inl q, .inl t, .inl s] I (fun r I' => I' = I ∧ r = some (.inr (.inl (es_b_wt J (J 7 3 - 2 - p).toNat q t s)))) := by
  have hr' : es_rb I := by unfold es_rb; rw [h7]; exact hr
  obtain ⟨r1, r2, r3, r4⟩ := id hr
  have ht' : 0 ≤ t ∧ t ≤ 17 := by unfold es_vs at ht; omega
  refine am_C_mono (c_wt_byStep d p q t s I hr' (by omega) (by rw [h7]; omega) ht' hs hv (by rw [h13]; exact hw)) ?_
  rintro r I' ⟨e0, (⟨h, rfl⟩ | ⟨h, rfl⟩)⟩
  · refine ⟨e0, ?_⟩
    rw [h7, h8] at h
    have hvs : es_vs J (p + 1) (es_nx (J 7 4) t s) := by
      have h3 := es_nx_c (J 7 4) t s
      have h4 := h.2.2
      unfold es_may at h4
      unfold es_vs at ht ⊢
      omega
    have hx := hrw (q + s) (es_nx (J 7 4) t s) h.1 h.2.1 hvs
    unfold es_b_wt es_B
    rw [es_if_t h, h7, h13, hx, show J 7 3 - 1 - (p + 1) = J 7 3 - 2 - p by omega]
  · refine ⟨e0, ?_⟩
    rw [h7, h8] at h
    unfold es_b_wt es_B
    rw [es_if_f h]
theorem es_gd_wt {J : am_I} (hw : ∀ j : Nat, j < 13 → 0 ≤ J 13 j ∧ J 13 j ≤ 1000000) (m : Nat) : ∀ s q u, es_Dm ((es_ws (J 13)) s (es_g_wt J m q u)) := by
  intro s q u
  unfold es_g_wt
  exact es_ws_D hw _ _ (es_Gw_D hw _ _ _)
theorem es_g_wt_cl {J : am_I} (hr : es_rb J) (hw : ∀ j : Nat, j < 13 → 0 ≤ J 13 j ∧ J 13 j ≤ 1000000) {p q t : Int} (hp : 0 ≤ p ∧ p < J 7 3 - 1) (hq : J 7 1 ≤ q ∧ q ≤ J 7 2) (ht : es_vs J p t) (hf : es_fit (J 8 0) (J 8 1) (J 8 2) (J 7 3) p q) : es_g_wt J (J 7 3 - 1 - p).toNat q (es_T t) = es_fd es_om (-1) (fun s => es_b_wt J (J 7 3 - 2 - p).toNat q t s) (-12) 25 := by
  obtain ⟨r1, r2, r3, r4⟩ := id hr
  unfold es_vs at ht
  have em : (J 7 3 - 1 - p).toNat = (J 7 3 - 2 - p).toNat + 1 := by omega
  have ep : J 7 3 - 1 - (((J 7 3 - 2 - p).toNat + 1 : Nat) : Int) = p := by omega
  unfold es_g_wt
  rw [em, es_G_on _ _ _ (by rw [ep]; exact hf)]
  exact es_qc es_mm (g := es_g_wt J (J 7 3 - 2 - p).toNat) (es_gd_wt hw _) (by omega) r3 r4 (by omega) (by omega)
theorem es_b_wt_rng {J : am_I} (hw : ∀ j : Nat, j < 13 → 0 ≤ J 13 j ∧ J 13 j ≤ 1000000) (m : Nat) (hm : m ≤ 15) (q t s : Int) : -1 ≤ es_b_wt J m q t s ∧ es_b_wt J m q t s ≤ 16000000 := by
  constructor
  · exact es_B_D (D := es_Dm) (by unfold es_Dm; omega) (es_gd_wt hw m) _ _ _ _ _ _ _ _
  · refine es_B_D (D := fun x => x ≤ 16000000) (by omega) (fun s q u => ?_) _ _ _ _ _ _ _ _
    show es_ws (J 13) s (es_g_wt J m q u) ≤ 16000000
    have h1 : es_g_wt J m q u ≤ 1000000 * (m : Int) := es_Gw_le hw m q u
    have h2 := es_wsle hw (s := s) (b := 15000000) (by omega) (show es_g_wt J m q u ≤ 15000000 by omega)
    omega
theorem c_wt_fillPitch (d : Nat) (p q : Int) (I0 J : am_I) (h7 : I0 7 = J 7) (h8 : I0 8 = J 8) (h13 : I0 13 = J 13) (hr : es_rb J) (hp : 0 ≤ p ∧ p < J 7 3) (hq : J 7 1 ≤ q ∧ q ≤ J 7 2) (hv : ∀ j : Nat, -1 ≤ I0 12 j ∧ I0 12 j ≤ 1000000000) (hw : ∀ j : Nat, j < 13 → 0 ≤ J 13 j ∧ J 13 j ≤ 1000000) (hrow : p < J 7 3 - 1 → es_row_wt J I0 (p + 1)) : am_C (d + 3) Y_mt_fillPitch [.inr (.inr 11), .inl p, .inl q] I0 (fun r I' => r = none ∧ am_fr I0 I' [12] ∧ (∀ j : Nat, ¬ ((p * 37 + q - J 7 1) * 18 ≤ j ∧ (j : Int) < (p * 37 + q - J 7 1) * 18 + 18) → I' 12 j = I0 12 j) ∧ (∀ t : Int, es_vs J p t → I' 12 ((p * 37 + q - J 7 1) * 18 + t).toNat = es_g_wt J (J 7 3 - 1 - p).toNat q (es_T t)) ∧ (∀ j : Nat, -1 ≤ I' 12 j ∧ I' 12 j ≤ 1000000000)) := by
  refine am_enter ok_mt_fillPitch rfl ?_
  obtain ⟨r1, r2, r3, r4⟩ := id hr
  have a71 : I0 7 1 = J 7 1 := congrFun h7 1
  have a72 : I0 7 2 = J 7 2 := congrFun h7 2
  have a73 : I0 7 3 = J 7 3 := congrFun h7 3
  have hB := es_b_wt_rng (J := J) hw (J 7 3 - 2 - p).toNat (by omega) q
  have hM : ∀ k : Nat, -1 ≤ es_fd es_om (-1) (fun s => if s = 0 then (-1) else es_b_wt J (J 7 3 - 2 - p).toNat q 0 s) (-12) k ∧ es_fd es_om (-1) (fun s => if s = 0 then (-1) else es_b_wt J (J 7 3 - 2 - p).toNat q 0 s) (-12) k ≤ 16000000 := by
    intro k
    refine ⟨es_fd_D (D := es_Dm) es_mm (fun x => ?_) k, es_fm_le (by omega) (fun x => ?_) k⟩
    · show es_Dm (if x = 0 then (-1) else es_b_wt J (J 7 3 - 2 - p).toNat q 0 x)
      split
      · unfold es_Dm; omega
      · exact (hB 0 x).1
    · show (if x = 0 then (-1) else es_b_wt J (J 7 3 - 2 - p).toNat q 0 x) ≤ 16000000
      split
      · omega
      · exact (hB 0 x).2
  have hrowk : ∀ I : am_I, p < J 7 3 - 1 → (∀ j : Nat, ¬ ((p * 37 + q - J 7 1) * 18 ≤ j ∧ (j : Int) < (p * 37 + q - J 7 1) * 18 + 18) → I 12 j = I0 12 j) → es_row_wt J I (p + 1) := by
    intro I hpn hu
    refine es_row_wt_u (hrow hpn) (fun q' t' h1 h2 h3 => hu _ ?_)
    unfold es_vs at h3
    omega
  have tail : ∀ (x3 : am_v) (x5 : am_v) (I : am_I), p < J 7 3 - 1 → es_fit (J 8 0) (J 8 1) (J 8 2) (J 7 3) p q → am_fr I0 I [12] → (∀ j : Nat, ¬ ((p * 37 + q - J 7 1) * 18 ≤ j ∧ (j : Int) < (p * 37 + q - J 7 1) * 18 + 18) → I 12 j = I0 12 j) → (∀ j : Nat, -1 ≤ I 12 j ∧ I 12 j ≤ 1000000000) → (∀ t : Int, es_vs J p t → t ≠ 17 → I 12 ((p * 37 + q - J 7 1) * 18 + t).toNat = es_g_wt J (J 7 3 - 1 - p).toNat q (es_T t)) → am_V (d + 3) Y_mt_fillPitch (fun r I' => r = none ∧ am_fr I0 I' [12] ∧ (∀ j : Nat, ¬ ((p * 37 + q - J 7 1) * 18 ≤ j ∧ (j : Int) < (p * 37 + q - J 7 1) * 18 + 18) → I' 12 j = I0 12 j) ∧ (∀ t : Int, es_vs J p t → I' 12 ((p * 37 + q - J 7 1) * 18 + t).toNat = es_g_wt J (J 7 3 - 1 - p).toNat q (es_T t)) ∧ (∀ j : Nat, -1 ≤ I' 12 j ∧ I' 12 j ≤ 1000000000)) 167 [(0, .inr (.inr 11)), (1, .inl p), (2, .inl q), (3, x3), (5, x5)] [] I := by
    intro x3 x5 I hpn hft hf hu hv' hx
    have e7 : I 7 = J 7 := (hf 7 rfl).trans h7
    have e8 : I 8 = J 8 := (hf 8 rfl).trans h8
    have e13 : I 13 = J 13 := (hf 13 rfl).trans h13
    have e71 : I 7 1 = J 7 1 := congrFun e7 1
    have hrw := hrowk I hpn hu
    have hb1 := hB 17 1
    have hb2 := hB 17 2
    repeat' (first
      | (refine am_gp 80 [] rfl (by first | trivial | exact Or.inl rfl | exact Or.inr rfl | (simp (decide := true) only [am_p, am_u_at, am_u_j, am_u_ne]; omega) | (simp (decide := true) only [am_p, and_true, true_and, true_or, or_true, am_u_at, am_u_j, am_u_ne]; omega) | (simp (decide := true) [am_p, am_u_at, am_u_j, am_u_ne]; omega)) ?_)
      | (show am_V _ _ _ _ _ _ _; simp only [Int.reduceToNat])
      | (refine am_bt rfl (by first | omega | (simp (decide := true) only [am_u_at, am_u_j, am_u_ne]; omega)) (by first | omega | (simp (decide := true) only [am_u_at, am_u_j, am_u_ne]; omega)) ?_)
      | (refine am_bf rfl (by first | omega | (simp (decide := true) only [am_u_at, am_u_j, am_u_ne]; omega)) (by first | omega | (simp (decide := true) only [am_u_at, am_u_j, am_u_ne]; omega)) ?_)
      | (refine am_br rfl (by first | omega | (simp (decide := true) only [am_u_at, am_u_j, am_u_ne]; omega)) (fun h => ?_) (fun h => ?_))
      | (refine am_cV (y' := Y_mt_byStep) rfl lk_mt_54_wt ok_mt_byStep rfl rfl rfl (c_wt_by _ _ _ _ _ _ J (by assumption) (by assumption) (by assumption) hr (by first | omega | (simp (decide := true) only [am_u_at, am_u_j, am_u_ne]; omega)) (by first | omega | (simp (decide := true) only [am_u_at, am_u_j, am_u_ne]; omega)) (by unfold es_vs; omega) (by first | omega | (simp (decide := true) only [am_u_at, am_u_j, am_u_ne]; omega)) (by assumption) hw (by assumption)) ?_; rintro r I ⟨rfl, rfl⟩)
      | (refine am_cU (y' := Y_wt_together) rfl lk_mt_58_wt ok_wt_together rfl rfl rfl (c_wt_together _ _ _ _ (by first | omega | (simp (decide := true) only [am_u_at, am_u_j, am_u_ne]; omega)) (by first | omega | (simp (decide := true) only [am_u_at, am_u_j, am_u_ne]; omega))) ?_; rintro r I ⟨rfl, rfl⟩)
      | (refine am_cV (y' := Y_mt_put) rfl lk_mt_71_wt ok_mt_put rfl rfl rfl (c_wt_put _ _ _ _ _ _ (by first | omega | (simp (decide := true) only [am_u_at, am_u_j, am_u_ne]; omega))) ?_; rintro r I ⟨rfl, rfl⟩)
      | (refine am_rt rfl (by first | trivial | exact Or.inl rfl | exact Or.inr rfl) ?_))
    have hg := es_g_wt_cl hr hw (t := 17) ⟨hp.1, hpn⟩ hq (by unfold es_vs; omega) hft
    rw [show es_fd es_om (-1) (fun s => es_b_wt J (J 7 3 - 2 - p).toNat q 17 s) (-12) 25 = _ from es_qc_d es_mm (es_gd_wt hw _)] at hg
    refine ⟨rfl, hf.u _ _ rfl, ?_, ?_, ?_⟩
    · intro j hj
      rw [am_u_eq, e71, am_up_ne (by omega)]
      exact hu j hj
    · intro t ht
      rw [am_u_eq, e71]
      by_cases c : t = 17
      · subst c
        rw [am_up_eq, hg]
        rfl
      · rw [am_up_ne (by unfold es_vs at ht; omega)]
        exact hx t ht c
    · intro j
      rw [am_u_eq]
      by_cases c : j = ((p * 37 + q - I 7 1) * 18 + 17).toNat
      · rw [c, am_up_eq]; omega
      · rw [am_up_ne c]; exact hv' j
  have loop2 : ∀ (m : Nat) (t : Int) (I : am_I), p < J 7 3 - 1 → es_fit (J 8 0) (J 8 1) (J 8 2) (J 7 3) p q → 0 ≤ t → t ≤ min p (J 7 5) + 1 → min p (J 7 5) + 1 - t < m → am_fr I0 I [12] → (∀ j : Nat, ¬ ((p * 37 + q - J 7 1) * 18 ≤ j ∧ (j : Int) < (p * 37 + q - J 7 1) * 18 + 18) → I 12 j = I0 12 j) → (∀ j : Nat, -1 ≤ I 12 j ∧ I 12 j ≤ 1000000000) → (∀ x : Int, 0 ≤ x → x < t → I 12 ((p * 37 + q - J 7 1) * 18 + x).toNat = es_g_wt J (J 7 3 - 1 - p).toNat q (es_T x)) → am_V (d + 3) Y_mt_fillPitch (fun r I' => r = none ∧ am_fr I0 I' [12] ∧ (∀ j : Nat, ¬ ((p * 37 + q - J 7 1) * 18 ≤ j ∧ (j : Int) < (p * 37 + q - J 7 1) * 18 + 18) → I' 12 j = I0 12 j) ∧ (∀ t : Int, es_vs J p t → I' 12 ((p * 37 + q - J 7 1) * 18 + t).toNat = es_g_wt J (J 7 3 - 1 - p).toNat q (es_T t)) ∧ (∀ j : Nat, -1 ≤ I' 12 j ∧ I' 12 j ≤ 1000000000)) 92 [(0, .inr (.inr 11)), (1, .inl p), (2, .inl q), (3, .inr (.inl (es_fd es_om (-1) (fun s => if s = 0 then (-1) else es_b_wt J (J 7 3 - 2 - p).toNat q 0 s) (-12) 25))), (5, .inl t)] [] I := by
    intro m
    induction m with
    | zero => intro t I h0 h00 h1 h2 h3; omega
    | succ m ih =>
      intro t I hpn hft h1 h2 h3 hf hu hv' hx
      have e7 : I 7 = J 7 := (hf 7 rfl).trans h7
      have e8 : I 8 = J 8 := (hf 8 rfl).trans h8
      have e13 : I 13 = J 13 := (hf 13 rfl).trans h13
      have e71 : I 7 1 = J 7 1 := congrFun e7 1
      have e75 : I 7 5 = J 7 5 := congrFun e7 5
      have hrw := hrowk I hpn hu
      have hb0 := hB t 0
      have hb1 := hB 16 (-2)
      have hb2 := hB 16 (-1)
      have hm := hM 25
      refine am_go 1 [] rfl trivial ?_
      repeat' (first
        | (refine am_gp 80 [92, 167] rfl (by first | trivial | exact Or.inl rfl | exact Or.inr rfl | (simp (decide := true) only [am_p, am_u_at, am_u_j, am_u_ne]; omega) | (simp (decide := true) only [am_p, and_true, true_and, true_or, or_true, am_u_at, am_u_j, am_u_ne]; omega) | (simp (decide := true) [am_p, am_u_at, am_u_j, am_u_ne]; omega)) ?_)
        | (show am_V _ _ _ _ _ _ _; simp only [Int.reduceToNat])
        | (refine am_bt rfl (by first | omega | (simp (decide := true) only [am_u_at, am_u_j, am_u_ne]; omega)) (by first | omega | (simp (decide := true) only [am_u_at, am_u_j, am_u_ne]; omega)) ?_)
        | (refine am_bf rfl (by first | omega | (simp (decide := true) only [am_u_at, am_u_j, am_u_ne]; omega)) (by first | omega | (simp (decide := true) only [am_u_at, am_u_j, am_u_ne]; omega)) ?_)
        | (refine am_br rfl (by first | omega | (simp (decide := true) only [am_u_at, am_u_j, am_u_ne]; omega)) (fun h => ?_) (fun h => ?_))
        | (refine am_cV (y' := Y_mt_byStep) rfl lk_mt_54_wt ok_mt_byStep rfl rfl rfl (c_wt_by _ _ _ _ _ _ J (by assumption) (by assumption) (by assumption) hr (by first | omega | (simp (decide := true) only [am_u_at, am_u_j, am_u_ne]; omega)) (by first | omega | (simp (decide := true) only [am_u_at, am_u_j, am_u_ne]; omega)) (by unfold es_vs; omega) (by first | omega | (simp (decide := true) only [am_u_at, am_u_j, am_u_ne]; omega)) (by assumption) hw (by assumption)) ?_; rintro r I ⟨rfl, rfl⟩)
        | (refine am_cU (y' := Y_wt_together) rfl lk_mt_58_wt ok_wt_together rfl rfl rfl (c_wt_together _ _ _ _ (by first | omega | (simp (decide := true) only [am_u_at, am_u_j, am_u_ne]; omega)) (by first | omega | (simp (decide := true) only [am_u_at, am_u_j, am_u_ne]; omega))) ?_; rintro r I ⟨rfl, rfl⟩)
        | (refine am_cV (y' := Y_mt_put) rfl lk_mt_71_wt ok_mt_put rfl rfl rfl (c_wt_put _ _ _ _ _ _ (by first | omega | (simp (decide := true) only [am_u_at, am_u_j, am_u_ne]; omega))) ?_; rintro r I ⟨rfl, rfl⟩)
        | (refine am_mini rfl mk_mt_65 rfl (by first | omega | (simp (decide := true) only [am_u_at, am_u_j, am_u_ne]; omega)) ?_)
        | (refine am_rt rfl (by first | trivial | exact Or.inl rfl | exact Or.inr rfl) ?_))
      · have hg := es_g_wt_cl hr hw (t := 16) ⟨hp.1, hpn⟩ hq (by unfold es_vs; omega) hft
        rw [show es_fd es_om (-1) (fun s => es_b_wt J (J 7 3 - 2 - p).toNat q 16 s) (-12) 25 = _ from es_qc_u es_mm (es_gd_wt hw _)] at hg
        refine tail _ _ _ hpn hft (hf.u _ _ rfl) ?_ ?_ ?_
        · intro j hj
          rw [am_u_eq, e71, am_up_ne (by omega)]
          exact hu j hj
        · intro j
          rw [am_u_eq]
          by_cases c : j = ((p * 37 + q - I 7 1) * 18 + 16).toNat
          · rw [c, am_up_eq]; omega
          · rw [am_up_ne c]; exact hv' j
        · intro x hxs hx7
          rw [am_u_eq, e71]
          by_cases c : x = 16
          · subst c
            rw [am_up_eq, hg]
            rfl
          · rw [am_up_ne (by unfold es_vs at hxs; omega)]
            unfold es_vs at hxs
            exact hx x (by omega) (by omega)
      · have hg := es_g_wt_cl hr hw (t := t) ⟨hp.1, hpn⟩ hq (by unfold es_vs; omega) hft
        rw [show es_fd es_om (-1) (fun s => es_b_wt J (J 7 3 - 2 - p).toNat q t s) (-12) 25 = _ from es_qc_z es_mm (es_gd_wt hw _) (by omega)] at hg
        refine ih (t + 1) _ hpn hft (by omega) (by omega) (by omega) (hf.u _ _ rfl) ?_ ?_ ?_
        · intro j hj
          rw [am_u_eq, e71, am_up_ne (by omega)]
          exact hu j hj
        · intro j
          rw [am_u_eq]
          by_cases c : j = ((p * 37 + q - I 7 1) * 18 + t).toNat
          · rw [c, am_up_eq]; omega
          · rw [am_up_ne c]; exact hv' j
        · intro x hx1 hx2
          rw [am_u_eq, e71]
          by_cases c : x = t
          · subst c
            rw [am_up_eq, hg]
            rfl
          · rw [am_up_ne (by omega)]
            exact hx x (by omega) (by omega)
  have loop1 : ∀ (m k : Nat), p < J 7 3 - 1 → es_fit (J 8 0) (J 8 1) (J 8 2) (J 7 3) p q → k ≤ 25 → 25 - k < m → am_V (d + 3) Y_mt_fillPitch (fun r I' => r = none ∧ am_fr I0 I' [12] ∧ (∀ j : Nat, ¬ ((p * 37 + q - J 7 1) * 18 ≤ j ∧ (j : Int) < (p * 37 + q - J 7 1) * 18 + 18) → I' 12 j = I0 12 j) ∧ (∀ t : Int, es_vs J p t → I' 12 ((p * 37 + q - J 7 1) * 18 + t).toNat = es_g_wt J (J 7 3 - 1 - p).toNat q (es_T t)) ∧ (∀ j : Nat, -1 ≤ I' 12 j ∧ I' 12 j ≤ 1000000000)) 56 [(0, .inr (.inr 11)), (1, .inl p), (2, .inl q), (3, .inr (.inl (es_fd es_om (-1) (fun s => if s = 0 then (-1) else es_b_wt J (J 7 3 - 2 - p).toNat q 0 s) (-12) k))), (5, .inl (-12 + k))] [] I0 := by
    intro m
    induction m with
    | zero => intro k h0 h00 h1 h2; omega
    | succ m ih =>
      intro k hpn hft h1 h2
      have hrw := hrow hpn
      have hb0 := hB 0 (-12 + k)
      have hm := hM k
      refine am_go 1 [] rfl trivial ?_
      repeat' (first
        | (refine am_gp 80 [56, 92] rfl (by first | trivial | exact Or.inl rfl | exact Or.inr rfl | (simp (decide := true) only [am_p, am_u_at, am_u_j, am_u_ne]; omega) | (simp (decide := true) only [am_p, and_true, true_and, true_or, or_true, am_u_at, am_u_j, am_u_ne]; omega) | (simp (decide := true) [am_p, am_u_at, am_u_j, am_u_ne]; omega)) ?_)
        | (show am_V _ _ _ _ _ _ _; simp only [Int.reduceToNat])
        | (refine am_bt rfl (by first | omega | (simp (decide := true) only [am_u_at, am_u_j, am_u_ne]; omega)) (by first | omega | (simp (decide := true) only [am_u_at, am_u_j, am_u_ne]; omega)) ?_)
        | (refine am_bf rfl (by first | omega | (simp (decide := true) only [am_u_at, am_u_j, am_u_ne]; omega)) (by first | omega | (simp (decide := true) only [am_u_at, am_u_j, am_u_ne]; omega)) ?_)
        | (refine am_br rfl (by first | omega | (simp (decide := true) only [am_u_at, am_u_j, am_u_ne]; omega)) (fun h => ?_) (fun h => ?_))
        | (refine am_cV (y' := Y_mt_byStep) rfl lk_mt_54_wt ok_mt_byStep rfl rfl rfl (c_wt_by _ _ _ _ _ _ J (by assumption) (by assumption) (by assumption) hr (by first | omega | (simp (decide := true) only [am_u_at, am_u_j, am_u_ne]; omega)) (by first | omega | (simp (decide := true) only [am_u_at, am_u_j, am_u_ne]; omega)) (by unfold es_vs; omega) (by first | omega | (simp (decide := true) only [am_u_at, am_u_j, am_u_ne]; omega)) (by assumption) hw (by assumption)) ?_; rintro r I0 ⟨rfl, rfl⟩)
        | (refine am_cU (y' := Y_wt_together) rfl lk_mt_58_wt ok_wt_together rfl rfl rfl (c_wt_together _ _ _ _ (by first | omega | (simp (decide := true) only [am_u_at, am_u_j, am_u_ne]; omega)) (by first | omega | (simp (decide := true) only [am_u_at, am_u_j, am_u_ne]; omega))) ?_; rintro r I0 ⟨rfl, rfl⟩)
        | (refine am_rt rfl (by first | trivial | exact Or.inl rfl | exact Or.inr rfl) ?_))
      · have ek : k = 25 := by omega
        subst ek
        exact loop2 17 0 _ hpn hft (by omega) (by omega) (by omega) am_fr.rf (fun j _ => rfl) hv (fun x h3 h4 => by omega)
      · have h9 := ih (k + 1) hpn hft (by omega) (by omega)
        rw [show -12 + ((k + 1 : Nat) : Int) = -12 + (k : Int) + 1 by omega] at h9
        have e9 : es_fd es_om (-1) (fun s => if s = 0 then (-1) else es_b_wt J (J 7 3 - 2 - p).toNat q 0 s) (-12) (k + 1) = es_fd es_om (-1) (fun s => if s = 0 then (-1) else es_b_wt J (J 7 3 - 2 - p).toNat q 0 s) (-12) k := by
          show es_om (es_fd es_om (-1) (fun s => if s = 0 then (-1) else es_b_wt J (J 7 3 - 2 - p).toNat q 0 s) (-12) k) (if -12 + (k : Int) = 0 then (-1) else es_b_wt J (J 7 3 - 2 - p).toNat q 0 (-12 + k)) = _
          rw [if_pos (by omega)]
          exact es_mn_r es_mm (by unfold es_Dm; omega)
        rw [e9] at h9
        exact h9
      · have h9 := ih (k + 1) hpn hft (by omega) (by omega)
        rw [show -12 + ((k + 1 : Nat) : Int) = -12 + (k : Int) + 1 by omega] at h9
        have e9 : es_fd es_om (-1) (fun s => if s = 0 then (-1) else es_b_wt J (J 7 3 - 2 - p).toNat q 0 s) (-12) (k + 1) = es_om (es_fd es_om (-1) (fun s => if s = 0 then (-1) else es_b_wt J (J 7 3 - 2 - p).toNat q 0 s) (-12) k) (es_b_wt J (J 7 3 - 2 - p).toNat q 0 (-12 + k)) := by
          show es_om (es_fd es_om (-1) (fun s => if s = 0 then (-1) else es_b_wt J (J 7 3 - 2 - p).toNat q 0 s) (-12) k) (if -12 + (k : Int) = 0 then (-1) else es_b_wt J (J 7 3 - 2 - p).toNat q 0 (-12 + k)) = _
          rw [if_neg (by omega)]
        rw [e9] at h9
        exact h9
  repeat' (first
    | (refine am_gp 80 [56] rfl (by first | trivial | exact Or.inl rfl | exact Or.inr rfl | (simp (decide := true) only [am_p, am_u_at, am_u_j, am_u_ne]; omega) | (simp (decide := true) only [am_p, and_true, true_and, true_or, or_true, am_u_at, am_u_j, am_u_ne]; omega) | (simp (decide := true) [am_p, am_u_at, am_u_j, am_u_ne]; omega)) ?_)
    | (show am_V _ _ _ _ _ _ _; simp only [Int.reduceToNat])
    | (refine am_bt rfl (by first | omega | (simp (decide := true) only [am_u_at, am_u_j, am_u_ne]; omega)) (by first | omega | (simp (decide := true) only [am_u_at, am_u_j, am_u_ne]; omega)) ?_)
    | (refine am_bf rfl (by first | omega | (simp (decide := true) only [am_u_at, am_u_j, am_u_ne]; omega)) (by first | omega | (simp (decide := true) only [am_u_at, am_u_j, am_u_ne]; omega)) ?_)
    | (refine am_br rfl (by first | omega | (simp (decide := true) only [am_u_at, am_u_j, am_u_ne]; omega)) (fun h => ?_) (fun h => ?_))
    | (refine am_cV (y' := Y_ru_mayStand) rfl lk_mt_39 ok_ru_mayStand rfl rfl rfl (c_mayStand _ _ _ _ (by first | omega | (simp (decide := true) only [am_u_at, am_u_j, am_u_ne]; omega)) (by first | omega | (simp (decide := true) only [am_u_at, am_u_j, am_u_ne]; omega)) (by first | omega | (simp (decide := true) only [am_u_at, am_u_j, am_u_ne]; omega))) ?_; rintro r I0 ⟨rfl, (⟨rfl, hft⟩ | ⟨rfl, hft⟩)⟩ <;> (try (exfalso; omega)))
    | (refine am_cU (y' := Y_wt_ofNone) rfl lk_mt_43_wt ok_wt_ofNone rfl rfl rfl (c_wt_ofNone _ _) ?_; rintro r I0 ⟨rfl, rfl⟩)
    | (refine am_cU (y' := Y_wt_ofEnd) rfl lk_mt_51_wt ok_wt_ofEnd rfl rfl rfl (c_wt_ofEnd _ _) ?_; rintro r I0 ⟨rfl, rfl⟩)
    | (refine am_cV (y' := Y_mt_fillStates) rfl lk_mt_47_wt ok_mt_fillStates rfl rfl rfl (c_wt_fillStates _ _ _ _ _ (by first | omega | (simp (decide := true) only [am_u_at, am_u_j, am_u_ne]; omega))) ?_; rintro r I0 ⟨rfl, hfr, hfs⟩)
    | (refine am_rt rfl (by first | trivial | exact Or.inl rfl | exact Or.inr rfl) ?_))
  · rw [h7, h8] at hft
    have h9 := loop1 26 0 (by omega) hft (by omega) (by omega)
    rw [show -12 + ((0 : Nat) : Int) = -12 by omega] at h9
    exact h9
  · rw [h7, h8] at hft
    rw [a71] at hfs
    have ep : p = J 7 3 - 1 := by omega
    refine ⟨rfl, hfr, ?_, ?_, ?_⟩
    · intro j hj
      rw [hfs j, if_neg hj]
    · intro t ht
      rw [hfs, if_pos (by unfold es_vs at ht; omega), show (J 7 3 - 1 - p).toNat = 0 by omega]
      rw [ep] at hft
      exact (es_G_end _ _ hft).symm
    · intro j
      rw [hfs j]
      split
      · omega
      · exact hv j
  · rw [h7, h8] at hft
    rw [a71] at hfs
    refine ⟨rfl, hfr, ?_, ?_, ?_⟩
    · intro j hj
      rw [hfs j, if_neg hj]
    · intro t ht
      rw [hfs, if_pos (by unfold es_vs at ht; omega)]
      refine (es_G_no _ _ _ ?_).symm
      rw [show J 7 3 - 1 - ((J 7 3 - 1 - p).toNat : Int) = p by omega]
      exact hft
    · intro j
      rw [hfs j]
      split
      · omega
      · exact hv j
theorem c_wt_fill (d : Nat) (I0 : am_I) (hr : es_rb I0) (hv : ∀ j : Nat, -1 ≤ I0 12 j ∧ I0 12 j ≤ 1000000000) (hw : ∀ j : Nat, j < 13 → 0 ≤ I0 13 j ∧ I0 13 j ≤ 1000000) (hfl : I0 11 2 = 0 ∨ (I0 11 2 = 1 ∧ ∀ p : Int, 0 ≤ p → p < I0 7 3 → es_row_wt I0 I0 p)) : am_C (d + 4) Y_mt_fill [.inr (.inr 11)] I0 (fun r I' => r = none ∧ am_fr I0 I' [11, 12] ∧ I' 11 2 = 1 ∧ (∀ j : Nat, -1 ≤ I' 12 j ∧ I' 12 j ≤ 1000000000) ∧ ∀ p : Int, 0 ≤ p → p < I0 7 3 → es_row_wt I0 I' p) := by
  refine am_enter ok_mt_fill rfl ?_
  obtain ⟨r1, r2, r3, r4⟩ := id hr
  have loopp : ∀ (m : Nat) (p : Int) (I : am_I), -1 ≤ p → p < I0 7 3 → p + 1 < m → am_fr I0 I [11, 12] → (∀ j : Nat, -1 ≤ I 12 j ∧ I 12 j ≤ 1000000000) → (∀ p' : Int, p < p' → p' < I0 7 3 → es_row_wt I0 I p') → am_V (d + 4) Y_mt_fill (fun r I' => r = none ∧ am_fr I0 I' [11, 12] ∧ I' 11 2 = 1 ∧ (∀ j : Nat, -1 ≤ I' 12 j ∧ I' 12 j ≤ 1000000000) ∧ ∀ p : Int, 0 ≤ p → p < I0 7 3 → es_row_wt I0 I' p) 18 [(0, .inr (.inr 11)), (1, .inl p)] [] I := by
    intro m
    induction m with
    | zero => intro p I h1 h2 h3; omega
    | succ m ih =>
      intro p I h1 h2 h3 hf hv' hrw
      have loopq : ∀ (k : Nat) (q : Int) (I : am_I), I0 7 1 ≤ q → q ≤ I0 7 2 + 1 → I0 7 2 + 1 - q < k → 0 ≤ p → am_fr I0 I [11, 12] → (∀ j : Nat, -1 ≤ I 12 j ∧ I 12 j ≤ 1000000000) → (∀ p' : Int, p < p' → p' < I0 7 3 → es_row_wt I0 I p') → (∀ q' t : Int, I0 7 1 ≤ q' → q' < q → es_vs I0 p t → I 12 ((p * 37 + q' - I0 7 1) * 18 + t).toNat = es_g_wt I0 (I0 7 3 - 1 - p).toNat q' (es_T t)) → am_V (d + 4) Y_mt_fill (fun r I' => r = none ∧ am_fr I0 I' [11, 12] ∧ I' 11 2 = 1 ∧ (∀ j : Nat, -1 ≤ I' 12 j ∧ I' 12 j ≤ 1000000000) ∧ ∀ p : Int, 0 ≤ p → p < I0 7 3 → es_row_wt I0 I' p) 30 [(0, .inr (.inr 11)), (1, .inl p), (2, .inl q)] [] I := by
        intro k
        induction k with
        | zero => intro q I g1 g2 g3; omega
        | succ k ihq =>
          intro q I g1 g2 g3 hp0 hf hv' hrw hq
          have e7 : I 7 = I0 7 := hf 7 rfl
          have e8 : I 8 = I0 8 := hf 8 rfl
          have e13 : I 13 = I0 13 := hf 13 rfl
          have e71 : I 7 1 = I0 7 1 := congrFun e7 1
          have e72 : I 7 2 = I0 7 2 := congrFun e7 2
          have hrow : p < I0 7 3 - 1 → es_row_wt I0 I (p + 1) := fun h => hrw _ (by omega) (by omega)
          refine am_go 1 [] rfl trivial ?_
          repeat' (first
            | (refine am_gp 80 [18, 30] rfl (by first | trivial | exact Or.inl rfl | exact Or.inr rfl | (simp (decide := true) only [am_p, am_u_at, am_u_j, am_u_ne]; omega) | (simp (decide := true) only [am_p, and_true, true_and, true_or, or_true, am_u_at, am_u_j, am_u_ne]; omega) | (simp (decide := true) [am_p, am_u_at, am_u_j, am_u_ne]; omega)) ?_)
            | (show am_V _ _ _ _ _ _ _; simp only [Int.reduceToNat])
            | (refine am_bt rfl (by first | omega | (simp (decide := true) only [am_u_at, am_u_j, am_u_ne]; omega)) (by first | omega | (simp (decide := true) only [am_u_at, am_u_j, am_u_ne]; omega)) ?_)
            | (refine am_bf rfl (by first | omega | (simp (decide := true) only [am_u_at, am_u_j, am_u_ne]; omega)) (by first | omega | (simp (decide := true) only [am_u_at, am_u_j, am_u_ne]; omega)) ?_)
            | (refine am_br rfl (by first | omega | (simp (decide := true) only [am_u_at, am_u_j, am_u_ne]; omega)) (fun h => ?_) (fun h => ?_))
            | (refine am_cV (y' := Y_mt_fillPitch) rfl lk_mt_35_wt ok_mt_fillPitch rfl rfl rfl (c_wt_fillPitch _ _ _ _ I0 (by assumption) (by assumption) (by assumption) hr (by first | omega | (simp (decide := true) only [am_u_at, am_u_j, am_u_ne]; omega)) (by first | omega | (simp (decide := true) only [am_u_at, am_u_j, am_u_ne]; omega)) (by assumption) hw (by assumption)) ?_; rintro r I ⟨rfl, hfr, hou, hin, hvn⟩)
            | (refine am_rt rfl (by first | trivial | exact Or.inl rfl | exact Or.inr rfl) ?_))
          · refine am_wk [2] ?_
            refine ih (p - 1) _ (by omega) (by omega) (by omega) hf hv' ?_
            intro p' h5 h6
            by_cases c : p' = p
            · rw [c]
              exact fun q' t g7 g8 g9 => hq q' t g7 (by omega) g9
            · exact hrw p' (by omega) h6
          · refine ihq (q + 1) _ (by omega) (by omega) (by omega) hp0 (hf.tr (hfr.wd rfl)) hvn ?_ ?_
            · intro p' h5 h6
              refine es_row_wt_u (hrw p' h5 h6) (fun q' t' g7 g8 g9 => hou _ ?_)
              unfold es_vs at g9
              omega
            · intro q' t g7 g8 g9
              by_cases c : q' = q
              · rw [c]
                exact hin t g9
              · rw [hou _ (by unfold es_vs at g9; omega)]
                exact hq q' t g7 (by omega) g9
      have e71 : I 7 1 = I0 7 1 := by rw [hf 7 rfl]
      refine am_go 1 [] rfl trivial ?_
      repeat' (first
        | (refine am_gp 80 [30] rfl (by first | trivial | exact Or.inl rfl | exact Or.inr rfl | (simp (decide := true) only [am_p, am_u_at, am_u_j, am_u_ne]; omega) | (simp (decide := true) only [am_p, and_true, true_and, true_or, or_true, am_u_at, am_u_j, am_u_ne]; omega) | (simp (decide := true) [am_p, am_u_at, am_u_j, am_u_ne]; omega)) ?_)
        | (show am_V _ _ _ _ _ _ _; simp only [Int.reduceToNat])
        | (refine am_bt rfl (by first | omega | (simp (decide := true) only [am_u_at, am_u_j, am_u_ne]; omega)) (by first | omega | (simp (decide := true) only [am_u_at, am_u_j, am_u_ne]; omega)) ?_)
        | (refine am_bf rfl (by first | omega | (simp (decide := true) only [am_u_at, am_u_j, am_u_ne]; omega)) (by first | omega | (simp (decide := true) only [am_u_at, am_u_j, am_u_ne]; omega)) ?_)
        | (refine am_br rfl (by first | omega | (simp (decide := true) only [am_u_at, am_u_j, am_u_ne]; omega)) (fun h => ?_) (fun h => ?_))
        | (refine am_rt rfl (by first | trivial | exact Or.inl rfl | exact Or.inr rfl) ?_))
      · refine ⟨rfl, hf.u _ _ rfl, by simp (decide := true) only [am_u_at, am_u_j, am_u_ne], ?_, ?_⟩
        · intro j
          rw [am_u_ne (by decide)]
          exact hv' j
        · intro p' h5 h6
          exact es_row_wt_u (hrw p' (by omega) h6) (fun q' t' g7 g8 g9 => by rw [am_u_ne (by decide)])
      · rw [e71]
        exact loopq 38 (I0 7 1) I (by omega) (by omega) (by omega) (by omega) hf hv' hrw (fun q' t g7 g8 g9 => by omega)
  repeat' (first
    | (refine am_gp 80 [18] rfl (by first | trivial | exact Or.inl rfl | exact Or.inr rfl | (simp (decide := true) only [am_p, am_u_at, am_u_j, am_u_ne]; omega) | (simp (decide := true) only [am_p, and_true, true_and, true_or, or_true, am_u_at, am_u_j, am_u_ne]; omega) | (simp (decide := true) [am_p, am_u_at, am_u_j, am_u_ne]; omega)) ?_)
    | (show am_V _ _ _ _ _ _ _; simp only [Int.reduceToNat])
    | (refine am_bt rfl (by first | omega | (simp (decide := true) only [am_u_at, am_u_j, am_u_ne]; omega)) (by first | omega | (simp (decide := true) only [am_u_at, am_u_j, am_u_ne]; omega)) ?_)
    | (refine am_bf rfl (by first | omega | (simp (decide := true) only [am_u_at, am_u_j, am_u_ne]; omega)) (by first | omega | (simp (decide := true) only [am_u_at, am_u_j, am_u_ne]; omega)) ?_)
    | (refine am_br rfl (by first | omega | (simp (decide := true) only [am_u_at, am_u_j, am_u_ne]; omega)) (fun h => ?_) (fun h => ?_))
    | (refine am_rt rfl (by first | trivial | exact Or.inl rfl | exact Or.inr rfl) ?_))
  · exact loopp 17 (I0 7 3 - 1) I0 (by omega) (by omega) (by omega) am_fr.rf hv (fun p' h5 h6 => by omega)
  · refine ⟨rfl, am_fr.rf, by omega, hv, ?_⟩
    rcases hfl with hfl | hfl
    · omega
    · exact hfl.2
