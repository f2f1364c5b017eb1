theorem c_wt_on (d : Nat) (p b t q : Int) (I J : am_I) (h7 : I 7 = J 7) (h8 : I 8 = J 8) (h13 : I 13 = J 13) (hr : es_rb J) (hp : 0 ≤ p ∧ p < J 7 3) (hb : J 7 1 ≤ b ∧ b ≤ J 7 2) (ht : es_v0 J p t) (hq : 0 ≤ q ∧ q ≤ 127) (hv : ∀ j : Nat, -1 ≤ I 12 j ∧ I 12 j ≤ 1000000000) (hw : es_hw (J 13)) (hrows : ∀ p' : Int, 0 ≤ p' → p' < J 7 3 → es_row_wt J I p') : am_C (d + 3) Y_mt_onward [.inr (.inr 11), .inl p, .inl b, .inl t, .inl q] I (fun r I' => I' = I ∧ r = some (.inr (.inl (es_x (es_Rc J) (es_ws (J 13)) p b (es_T t) q)))) := by
  have hr' : es_rb I := by unfold es_rb; rw [h7]; exact hr
  obtain ⟨r1, r2, r3, r4⟩ := id hr
  have ht' : 0 ≤ t ∧ t ≤ 17 := by unfold es_v0 es_vs at ht; omega
  refine am_C_mono (c_wt_onward d p b t q I hr' (by omega) (by rw [h7]; omega) ht' hq hv (by rw [h13]; exact hw)) ?_
  have R7 : es_Rc J 7 = J 7 1 := rfl
  have R8 : es_Rc J 8 = J 7 2 := rfl
  have R9 : es_Rc J 9 = J 7 3 := rfl
  have R13 : es_Rc J 13 = J 8 3 := rfl
  have R14 : es_Rc J 14 = J 7 4 := rfl
  have R15 : es_Rc J 15 = J 7 5 := rfl
  rintro r I' ⟨e0, (⟨h, rfl⟩ | ⟨h, rfl⟩ | ⟨h, rfl⟩)⟩
  · refine ⟨e0, ?_⟩
    rw [h7] at h ⊢
    unfold es_x
    rw [R7, R8, R9, if_pos h.2, if_pos h.1]
    have h5 : t = 0 := by unfold es_v0 at ht; omega
    have h4 := hrows 0 (by omega) (by omega) q 0 h.2.1 h.2.2 (by unfold es_vs; omega)
    rw [show (0 * 37 + q - J 7 1) * 18 + 0 = (q - J 7 1) * 18 by omega, show J 7 3 - 1 - 0 = J 7 3 - 1 by omega] at h4
    rw [h4]
    rfl
  · refine ⟨e0, ?_⟩
    rw [h7, h8] at h
    rw [h7, h13]
    have hvs : es_vs J (p - 1) t := by
      rcases ht with ht | ht
      · omega
      · exact ht.2
    have hk := (es_key (lp := J 7 4) (t := t) (q - b) r3 r4 ht' (by unfold es_vs at hvs; omega)).1 h.2.2.2
    unfold es_x
    rw [R7, R8, R9, if_pos ⟨h.2.1, h.2.2.1⟩, if_neg (by omega), R13, R14, R15, hk.1, if_neg hk.2]
    have hvn : es_vs J p (es_nx (J 7 4) t (q - b)) := by
      have h3 := es_nx_c (J 7 4) t (q - b)
      have h4 := h.2.2.2
      unfold es_may at h4
      unfold es_vs at hvs ⊢
      omega
    rw [hrows p (by omega) (by omega) q _ h.2.1 h.2.2.1 hvn]
    rfl
  · refine ⟨e0, ?_⟩
    rw [h7, h8] at h
    unfold es_x
    rw [R7, R8, R9]
    by_cases c : J 7 1 ≤ q ∧ q ≤ J 7 2
    · rw [if_pos c, if_neg (by omega)]
      have hvs : es_vs J (p - 1) t := by
        rcases ht with ht | ht
        · omega
        · exact ht.2
      have hk := (es_key (stp := J 8 3) (lp := J 7 4) (t := t) (q - b) r3 r4 ht' (by unfold es_vs at hvs; omega)).2 (fun z => h (Or.inr ⟨by unfold es_v0 at ht; omega, c.1, c.2, z⟩))
      rw [R13, R14, R15, if_pos hk]
    · rw [if_neg c]
theorem c_wt_tot (d : Nat) (I J : am_I) (h7 : I 7 = J 7) (h8 : I 8 = J 8) (hr : es_rb J) (hv : ∀ j : Nat, -1 ≤ I 12 j ∧ I 12 j ≤ 1000000000) (hrows : ∀ p' : Int, 0 ≤ p' → p' < J 7 3 → es_row_wt J I p') : am_C (d + 3) Y_mt_total [.inr (.inr 11)] I (fun r I' => I' = I ∧ r = some (.inr (.inl (es_dt (es_Rc J) (es_ws (J 13)))))) := by
  have hr' : es_rb I := by unfold es_rb; rw [h7]; exact hr
  obtain ⟨r1, r2, r3, r4⟩ := id hr
  refine am_C_mono (c_wt_total d I hr' (fun j => ⟨(hv j).1, by have := (hv j).2; omega⟩)) ?_
  rintro r I' ⟨e0, rfl⟩
  refine ⟨e0, ?_⟩
  rw [h7, es_mf_fd]
  congr 3
  refine es_fd_cg _ (fun x h1 h2 => ?_)
  show I 12 ((0 * 37 + x - J 7 1) * 18 + 0).toNat = es_gw (es_Rc J) (es_ws (J 13)) (J 7 3 - 1).toNat x 0
  have h4 := hrows 0 (by omega) (by omega) x 0 h1 (by omega) (by unfold es_vs; omega)
  rw [show J 7 3 - 1 - 0 = J 7 3 - 1 by omega] at h4
  rw [h4]
  rfl
theorem c_wt_stateAt2 (d : Nat) (p b t q : Int) (I J : am_I) (h7 : I 7 = J 7) (hr : es_rb J) (hp : 0 ≤ p ∧ p < 16) (hb : 0 ≤ b ∧ b ≤ 127) (ht : 0 ≤ t ∧ t ≤ 17) (hq : 0 ≤ q ∧ q ≤ 127) : am_C (d + 2) Y_mt_stateAt [.inr (.inr 11), .inl p, .inl b, .inl t, .inl q] I (fun r I' => I' = I ∧ r = some (.inl (if p = 0 then 0 else es_nx (J 7 4) t (q - b)))) := by
  have hr' : es_rb I := by unfold es_rb; rw [h7]; exact hr
  refine am_C_mono (c_wt_stateAt d p b t q I hr' hp hb ht hq) ?_
  rintro r I' ⟨e0, (⟨h, rfl⟩ | ⟨h, rfl⟩)⟩
  · exact ⟨e0, by rw [if_pos h]⟩
  · exact ⟨e0, by rw [if_neg (by omega), h7]⟩
theorem es_v0_x {J : am_I} (hr : es_rb J) {w : Nat → Int} {p b t q : Int} (hp : 0 ≤ p ∧ p < J 7 3) (hv : es_v0 J p t) (hw : 0 ≤ es_x (es_Rc J) (es_ws w) p b (es_T t) q) : es_v0 J (p + 1) (if p = 0 then 0 else es_nx (J 7 4) t (q - b)) ∧ es_T (if p = 0 then 0 else es_nx (J 7 4) t (q - b)) = es_us (es_Rc J) p b (es_T t) q := by
  obtain ⟨r1, r2, r3, r4⟩ := id hr
  have h1 := (es_x_g hw).2.2
  unfold es_v0 at hv ⊢
  unfold es_us at h1 ⊢
  by_cases c : p = 0
  · rw [if_pos c, if_pos c]
    refine ⟨Or.inr ⟨by omega, ?_⟩, rfl⟩
    unfold es_vs; omega
  · rw [if_neg c] at h1
    rw [if_neg c, if_neg c]
    have hv' : es_vs J (p - 1) t := by
      rcases hv with hv | hv
      · omega
      · exact hv.2
    have ht : 0 ≤ t ∧ t ≤ 17 := by unfold es_vs at hv'; omega
    have hk := es_key (stp := J 8 3) (lp := J 7 4) (rp := J 7 5) (t := t) (q - b) r3 r4 ht (by unfold es_vs at hv'; omega)
    have hm : es_may (J 8 3) (J 7 5) t (q - b) := Classical.byContradiction (fun z => h1 (hk.2 z))
    refine ⟨Or.inr ⟨by omega, ?_⟩, (hk.1 hm).1.symm⟩
    have h3 := es_nx_c (J 7 4) t (q - b)
    unfold es_may at hm
    unfold es_vs at hv' ⊢
    omega
theorem c_wt_spell (d : Nat) (I0 J : am_I) (h7 : I0 7 = J 7) (h8 : I0 8 = J 8) (h13 : I0 13 = J 13) (hr : es_rb J) (hv : ∀ j : Nat, -1 ≤ I0 12 j ∧ I0 12 j ≤ 1000000000) (hw : es_hw (J 13)) (hrows : ∀ p' : Int, 0 ≤ p' → p' < J 7 3 → es_row_wt J I0 p') (hk : 0 ≤ es_dt (es_Rc J) (es_ws (J 13))) : am_C (d + 4) Y_wt_spell [.inr (.inr 11), .inr (.inr 1)] I0 (fun r I' => r = none ∧ am_fr I0 I' [1, 2, 3] ∧ I' 1 2 = J 7 3 ∧ ∀ j : Nat, (j : Int) < J 7 3 → I' 2 j = (es_dp (es_Rc J) (es_ws (J 13)) (j + 1)).1 ∧ I' 3 j = 24) := by
  refine am_enter ok_wt_spell rfl ?_
  obtain ⟨r1, r2, r3, r4⟩ := id hr
  have hal := es_dp_da (w := J 13) (es_rb_m hr) hk
  have R7 : es_Rc J 7 = J 7 1 := rfl
  have R8 : es_Rc J 8 = J 7 2 := rfl
  have R9 : es_Rc J 9 = J 7 3 := rfl
  have hxD : ∀ (p b u q : Int), 0 ≤ p → _ := fun p b u q h => es_x_D hw (es_rb_m hr) (i := p) h b u q
  have loopp : ∀ (m p : Nat) (t : Int) (I : am_I), (p : Int) ≤ J 7 3 → J 7 3 - p < m → am_fr I0 I [1, 2, 3] → I 1 2 = p → (∀ j : Nat, j < p → I 2 j = (es_dp (es_Rc J) (es_ws (J 13)) (j + 1)).1 ∧ I 3 j = 24) → es_v0 J p t → es_T t = (es_dp (es_Rc J) (es_ws (J 13)) p).2 → am_V (d + 4) Y_wt_spell (fun r I' => r = none ∧ am_fr I0 I' [1, 2, 3] ∧ I' 1 2 = J 7 3 ∧ ∀ j : Nat, (j : Int) < J 7 3 → I' 2 j = (es_dp (es_Rc J) (es_ws (J 13)) (j + 1)).1 ∧ I' 3 j = 24) 25 [(0, .inr (.inr 11)), (1, .inr (.inr 1)), (2, .inr (.inl (es_dl (es_Rc J) (es_ws (J 13)) p (es_dp (es_Rc J) (es_ws (J 13)) p)))), (4, .inl (es_dp (es_Rc J) (es_ws (J 13)) p).1), (5, .inl t), (6, .inl p)] [] I := by
    intro m
    induction m with
    | zero => intro p t I h1 h2; omega
    | succ m ih =>
      intro p t I h1 h2 hf hsz hin hv0 hT
      have ht17 : 0 ≤ t ∧ t ≤ 17 := by unfold es_v0 es_vs at hv0; omega
      have e7 : I 7 = J 7 := (hf 7 rfl).trans h7
      have e8 : I 8 = J 8 := (hf 8 rfl).trans h8
      have e13 : I 13 = J 13 := (hf 13 rfl).trans h13
      have e71 : I 7 1 = J 7 1 := congrFun e7 1
      have e72 : I 7 2 = J 7 2 := congrFun e7 2
      have e73 : I 7 3 = J 7 3 := congrFun e7 3
      have hrows' : ∀ p' : Int, 0 ≤ p' → p' < J 7 3 → es_row_wt J I p' := fun p' g1 g2 => es_row_wt_u (hrows p' g1 g2) (fun q' t' _ _ _ => by rw [hf 12 rfl])
      have hvw : ∀ j : Nat, -1 ≤ I 12 j ∧ I 12 j ≤ 1000000000 := by rw [hf 12 rfl]; exact hv
      have ha := hal p (by omega)
      have hst : (p : Int) < J 7 3 → _ := fun h => es_ds_da (w := J 13) (es_rb_m hr) (i := p) h ha
      have hsp : es_dp (es_Rc J) (es_ws (J 13)) (p + 1) = es_ds (es_Rc J) (es_ws (J 13)) p (es_dp (es_Rc J) (es_ws (J 13)) p) := rfl
      obtain ⟨a1, a2, a3, a4⟩ := ha
      rw [R7, R8] at a1
      rw [R7, R8, R9] at a4
      generalize es_dp (es_Rc J) (es_ws (J 13)) p = x at *
      generalize hL : es_dl (es_Rc J) (es_ws (J 13)) p x = L at *
      have fin : ∀ q : Int, (p : Int) < J 7 3 → q = (es_dp (es_Rc J) (es_ws (J 13)) (p + 1)).1 → am_V (d + 4) Y_wt_spell (fun r I' => r = none ∧ am_fr I0 I' [1, 2, 3] ∧ I' 1 2 = J 7 3 ∧ ∀ j : Nat, (j : Int) < J 7 3 → I' 2 j = (es_dp (es_Rc J) (es_ws (J 13)) (j + 1)).1 ∧ I' 3 j = 24) 81 [(0, .inr (.inr 11)), (1, .inr (.inr 1)), (2, .inr (.inl L)), (4, .inl x.1), (5, .inl t), (6, .inl p), (7, .inl q)] [] I := by
        intro q hpn hq
        obtain ⟨s1, s2⟩ := hst hpn
        rw [← hsp] at s1 s2
        have hqr := s1.1
        rw [R7, R8, ← hq] at hqr
        rw [← hq, ← hT] at s2
        have hv2 := es_v0_x hr (w := J 13) (b := x.1) (q := q) ⟨by omega, hpn⟩ hv0 (by omega)
        have ht2 : 0 ≤ (if (p : Int) = 0 then 0 else es_nx (J 7 4) t (q - x.1)) ∧ (if (p : Int) = 0 then 0 else es_nx (J 7 4) t (q - x.1)) ≤ 17 := by
          have h5 := hv2.1
          unfold es_v0 es_vs at h5
          omega
        have hvs2 : es_vs J p (if (p : Int) = 0 then 0 else es_nx (J 7 4) t (q - x.1)) := by
          have h5 := hv2.1
          unfold es_v0 at h5
          rw [show (p : Int) + 1 - 1 = p by omega] at h5
          rcases h5 with h5 | h5
          · omega
          · exact h5.2
        have hfrom : I 12 (((p : Int) * 37 + q - I 7 1) * 18 + (if (p : Int) = 0 then 0 else es_nx (J 7 4) t (q - x.1))).toNat = es_dl (es_Rc J) (es_ws (J 13)) (p + 1) (es_dp (es_Rc J) (es_ws (J 13)) (p + 1)) := by
          rw [e71, hrows' p (by omega) hpn q _ hqr.1 hqr.2 hvs2]
          have hdl : ∀ y : Int × Int, es_dl (es_Rc J) (es_ws (J 13)) (p + 1) y = es_gw (es_Rc J) (es_ws (J 13)) (J 7 3 - ((p + 1 : Nat) : Int)).toNat y.1 y.2 := by
            intro y
            unfold es_dl
            exact if_neg (by omega)
          rw [hdl, show J 7 3 - ((p + 1 : Nat) : Int) = J 7 3 - 1 - (p : Int) by omega, ← hq]
          rw [hv2.2, hT, hsp]
          unfold es_ds
          rw [hsp] at hq
          unfold es_ds at hq
          rw [hq]
          rfl
        generalize hz : (if (p : Int) = 0 then 0 else es_nx (J 7 4) t (q - x.1)) = z at *
        repeat' (first
          | (refine am_gp 80 [25, 95] rfl (by first | trivial | exact Or.inl rfl | exact Or.inr rfl | (simp (decide := true) only [am_p, am_u_at, am_u_j, am_u_ne]; omega) | (simp (decide := true) only [am_p, and_true, true_and, true_or, or_true, am_u_at, am_u_j, am_u_ne]; omega) | (simp (decide := true) [am_p, am_u_at, am_u_j, am_u_ne]; omega)) ?_)
          | (show am_V _ _ _ _ _ _ _; simp only [Int.reduceToNat])
          | (refine am_bt rfl (by first | omega | (simp (decide := true) only [am_u_at, am_u_j, am_u_ne]; omega)) (by first | omega | (simp (decide := true) only [am_u_at, am_u_j, am_u_ne]; omega)) ?_)
          | (refine am_bf rfl (by first | omega | (simp (decide := true) only [am_u_at, am_u_j, am_u_ne]; omega)) (by first | omega | (simp (decide := true) only [am_u_at, am_u_j, am_u_ne]; omega)) ?_)
          | (refine am_br rfl (by first | omega | (simp (decide := true) only [am_u_at, am_u_j, am_u_ne]; omega)) (fun h => ?_) (fun h => ?_))
          | (refine am_cU (y' := Y_mt_stateAt) rfl lk_wt_59_wt ok_mt_stateAt rfl rfl rfl (c_wt_stateAt2 _ _ _ _ _ _ J (by assumption) hr (by first | omega | (simp (decide := true) only [am_u_at, am_u_j, am_u_ne]; omega)) (by first | omega | (simp (decide := true) only [am_u_at, am_u_j, am_u_ne]; omega)) (by first | omega | (simp (decide := true) only [am_u_at, am_u_j, am_u_ne]; omega)) (by first | omega | (simp (decide := true) only [am_u_at, am_u_j, am_u_ne]; omega))) ?_; rintro r I ⟨rfl, rfl⟩)
          | (refine am_cU (y' := Y_mt_from) rfl lk_wt_63_wt ok_mt_from rfl rfl rfl (c_wt_from _ _ _ _ _ (by first | omega | (simp (decide := true) only [am_u_at, am_u_j, am_u_ne]; omega))) ?_; rintro r I ⟨rfl, rfl⟩)
          | (refine am_cV (y' := Y_no_push) rfl lk_wt_67 ok_no_push rfl rfl rfl (c_push_row _ _ _ _ (by first | omega | (simp (decide := true) only [am_u_at, am_u_j, am_u_ne]; omega))) ?_; rintro r I ⟨rfl, rfl⟩)
          | (refine am_rt rfl (by first | trivial | exact Or.inl rfl | exact Or.inr rfl) ?_))
        rw [hz]
        repeat' (first
          | (refine am_gp 80 [25] rfl (by first | trivial | exact Or.inl rfl | exact Or.inr rfl | (simp (decide := true) only [am_p, am_u_at, am_u_j, am_u_ne]; omega) | (simp (decide := true) only [am_p, and_true, true_and, true_or, or_true, am_u_at, am_u_j, am_u_ne]; omega) | (simp (decide := true) [am_p, am_u_at, am_u_j, am_u_ne]; omega)) ?_)
          | (show am_V _ _ _ _ _ _ _; simp only [Int.reduceToNat])
          | (refine am_bt rfl (by first | omega | (simp (decide := true) only [am_u_at, am_u_j, am_u_ne]; omega)) (by first | omega | (simp (decide := true) only [am_u_at, am_u_j, am_u_ne]; omega)) ?_)
          | (refine am_bf rfl (by first | omega | (simp (decide := true) only [am_u_at, am_u_j, am_u_ne]; omega)) (by first | omega | (simp (decide := true) only [am_u_at, am_u_j, am_u_ne]; omega)) ?_)
          | (refine am_br rfl (by first | omega | (simp (decide := true) only [am_u_at, am_u_j, am_u_ne]; omega)) (fun h => ?_) (fun h => ?_))
          | (refine am_cU (y' := Y_mt_stateAt) rfl lk_wt_59_wt ok_mt_stateAt rfl rfl rfl (c_wt_stateAt2 _ _ _ _ _ _ J (by assumption) hr (by first | omega | (simp (decide := true) only [am_u_at, am_u_j, am_u_ne]; omega)) (by first | omega | (simp (decide := true) only [am_u_at, am_u_j, am_u_ne]; omega)) (by first | omega | (simp (decide := true) only [am_u_at, am_u_j, am_u_ne]; omega)) (by first | omega | (simp (decide := true) only [am_u_at, am_u_j, am_u_ne]; omega))) ?_; rintro r I ⟨rfl, rfl⟩)
          | (refine am_cU (y' := Y_mt_from) rfl lk_wt_63_wt ok_mt_from rfl rfl rfl (c_wt_from _ _ _ _ _ (by first | omega | (simp (decide := true) only [am_u_at, am_u_j, am_u_ne]; omega))) ?_; rintro r I ⟨rfl, rfl⟩)
          | (refine am_cV (y' := Y_no_push) rfl lk_wt_67 ok_no_push rfl rfl rfl (c_push_row _ _ _ _ (by first | omega | (simp (decide := true) only [am_u_at, am_u_j, am_u_ne]; omega))) ?_; rintro r I ⟨rfl, rfl⟩)
          | (refine am_rt rfl (by first | trivial | exact Or.inl rfl | exact Or.inr rfl) ?_))
        refine am_wk [7] ?_
        have h9 := ih (p + 1) z (am_u (am_u (am_u I 2 (I 1 2).toNat q) 3 (I 1 2).toNat 24) 1 2 (I 1 2 + 1)) (by omega) (by omega) (((hf.u _ _ rfl).u _ _ rfl).u _ _ rfl) ?_ ?_ ?_ ?_
        · rw [← hq, ← hfrom, show ((p + 1 : Nat) : Int) = (p : Int) + 1 by omega] at h9
          exact h9
        · simp (decide := true) only [am_u_at, am_u_j, am_u_ne]; omega
        · intro j hj
          simp (decide := true) only [am_u_at, am_u_j, am_u_ne]
          rw [am_u_eq, am_u_eq, hsz]
          by_cases c : j = (p : Int).toNat
          · rw [c, am_up_eq, am_up_eq]
            rw [show (p : Int).toNat = p by omega]
            exact ⟨hq, rfl⟩
          · rw [am_up_ne c, am_up_ne c]
            exact hin j (by omega)
        · rw [show ((p + 1 : Nat) : Int) = (p : Int) + 1 by omega]
          exact hv2.1
        · rw [hv2.2, hT, hsp]
          unfold es_ds
          rw [hsp] at hq
          unfold es_ds at hq
          rw [hq]
      have loopq : ∀ (n : Nat) (q : Int), (p : Int) < J 7 3 → J 7 1 ≤ q → q ≤ J 7 2 → J 7 2 - q < n → (∃ y, q ≤ y ∧ y ≤ J 7 2 ∧ es_x (es_Rc J) (es_ws (J 13)) p x.1 x.2 y = L) → (∀ y, J 7 1 ≤ y → y < q → es_x (es_Rc J) (es_ws (J 13)) p x.1 x.2 y ≠ L) → am_V (d + 4) Y_wt_spell (fun r I' => r = none ∧ am_fr I0 I' [1, 2, 3] ∧ I' 1 2 = J 7 3 ∧ ∀ j : Nat, (j : Int) < J 7 3 → I' 2 j = (es_dp (es_Rc J) (es_ws (J 13)) (j + 1)).1 ∧ I' 3 j = 24) 46 [(0, .inr (.inr 11)), (1, .inr (.inr 1)), (2, .inr (.inl L)), (4, .inl x.1), (5, .inl t), (6, .inl p), (7, .inl q)] [] I := by
        intro n
        induction n with
        | zero => intro q g0 g1 g2 g3; omega
        | succ n ihq =>
          intro q g0 g1 g2 g3 g4 g5
          have hx1 := hxD p x.1 (es_T t) q (by omega)
          have hx2 : 0 ≤ L ∧ L ≤ 20000000 := by
            obtain ⟨y, y1, y2, y3⟩ := g4
            have := hxD p x.1 x.2 y (by omega)
            omega
          have done : es_x (es_Rc J) (es_ws (J 13)) p x.1 x.2 q = L → q = (es_dp (es_Rc J) (es_ws (J 13)) (p + 1)).1 := by
            intro hl
            rw [hsp]
            unfold es_ds
            rw [R7, R8, hL]
            exact (es_fst_eq _ _ q g1 (by omega) hl g5).symm
          refine am_go 1 [] rfl trivial ?_
          repeat' (first
            | (refine am_gp 80 [46, 81] rfl (by first | trivial | exact Or.inl rfl | exact Or.inr rfl | (simp (decide := true) only [am_p, am_u_at, am_u_j, am_u_ne]; omega) | (simp (decide := true) only [am_p, and_true, true_and, true_or, or_true, am_u_at, am_u_j, am_u_ne]; omega) | (simp (decide := true) [am_p, am_u_at, am_u_j, am_u_ne]; omega)) ?_)
            | (show am_V _ _ _ _ _ _ _; simp only [Int.reduceToNat])
            | (refine am_bt rfl (by first | omega | (simp (decide := true) only [am_u_at, am_u_j, am_u_ne]; omega)) (by first | omega | (simp (decide := true) only [am_u_at, am_u_j, am_u_ne]; omega)) ?_)
            | (refine am_bf rfl (by first | omega | (simp (decide := true) only [am_u_at, am_u_j, am_u_ne]; omega)) (by first | omega | (simp (decide := true) only [am_u_at, am_u_j, am_u_ne]; omega)) ?_)
            | (refine am_br rfl (by first | omega | (simp (decide := true) only [am_u_at, am_u_j, am_u_ne]; omega)) (fun h => ?_) (fun h => ?_))
            | (refine am_cU (y' := Y_mt_onward) rfl lk_wt_55_wt ok_mt_onward rfl rfl rfl (c_wt_on _ _ _ _ _ _ J (by assumption) (by assumption) (by assumption) hr (by first | omega | (simp (decide := true) only [am_u_at, am_u_j, am_u_ne]; omega)) (by first | omega | (simp (decide := true) only [am_u_at, am_u_j, am_u_ne]; omega)) (by assumption) (by first | omega | (simp (decide := true) only [am_u_at, am_u_j, am_u_ne]; omega)) hvw hw (by assumption)) ?_; rintro r I ⟨rfl, rfl⟩)
            | (refine am_rt rfl (by first | trivial | exact Or.inl rfl | exact Or.inr rfl) ?_))
          · refine fin q g0 (done ?_)
            obtain ⟨y, y1, y2, y3⟩ := g4
            rw [show q = y by omega]
            exact y3
          · rw [hT] at h
            exact fin q g0 (done (by omega))
          · rw [hT] at h
            refine ihq (q + 1) g0 (by omega) (by omega) (by omega) ?_ ?_
            · obtain ⟨y, y1, y2, y3⟩ := g4
              refine ⟨y, ?_, y2, y3⟩
              have : y ≠ q := fun e => h (by rw [← e]; omega)
              omega
            · intro y y1 y2
              by_cases c : y = q
              · rw [c]; omega
              · exact g5 y y1 (by omega)
      refine am_go 1 [] rfl trivial ?_
      repeat' (first
        | (refine am_gp 80 [46] rfl (by first | trivial | exact Or.inl rfl | exact Or.inr rfl | (simp (decide := true) only [am_p, am_u_at, am_u_j, am_u_ne]; omega) | (simp (decide := true) only [am_p, and_true, true_and, true_or, or_true, am_u_at, am_u_j, am_u_ne]; omega) | (simp (decide := true) [am_p, am_u_at, am_u_j, am_u_ne]; omega)) ?_)
        | (show am_V _ _ _ _ _ _ _; simp only [Int.reduceToNat])
        | (refine am_bt rfl (by first | omega | (simp (decide := true) only [am_u_at, am_u_j, am_u_ne]; omega)) (by first | omega | (simp (decide := true) only [am_u_at, am_u_j, am_u_ne]; omega)) ?_)
        | (refine am_bf rfl (by first | omega | (simp (decide := true) only [am_u_at, am_u_j, am_u_ne]; omega)) (by first | omega | (simp (decide := true) only [am_u_at, am_u_j, am_u_ne]; omega)) ?_)
        | (refine am_br rfl (by first | omega | (simp (decide := true) only [am_u_at, am_u_j, am_u_ne]; omega)) (fun h => ?_) (fun h => ?_))
        | (refine am_rt rfl (by first | trivial | exact Or.inl rfl | exact Or.inr rfl) ?_))
      · have ep : (p : Int) = J 7 3 := by omega
        exact ⟨rfl, hf, by omega, fun j hj => hin j (by omega)⟩
      · rw [e71]
        obtain ⟨y, y1, y2, y3⟩ := a4 (by omega)
        exact loopq 200 (J 7 1) (by omega) (by omega) (by omega) (by omega) ⟨y, y1, by omega, y3⟩ (fun y h1 h2 => by omega)
  have a71 : I0 7 1 = J 7 1 := congrFun h7 1
  repeat' (first
    | (refine am_gp 80 [25] rfl (by first | trivial | exact Or.inl rfl | exact Or.inr rfl | (simp (decide := true) only [am_p, am_u_at, am_u_j, am_u_ne]; omega) | (simp (decide := true) only [am_p, and_true, true_and, true_or, or_true, am_u_at, am_u_j, am_u_ne]; omega) | (simp (decide := true) [am_p, am_u_at, am_u_j, am_u_ne]; omega)) ?_)
    | (show am_V _ _ _ _ _ _ _; simp only [Int.reduceToNat])
    | (refine am_bt rfl (by first | omega | (simp (decide := true) only [am_u_at, am_u_j, am_u_ne]; omega)) (by first | omega | (simp (decide := true) only [am_u_at, am_u_j, am_u_ne]; omega)) ?_)
    | (refine am_bf rfl (by first | omega | (simp (decide := true) only [am_u_at, am_u_j, am_u_ne]; omega)) (by first | omega | (simp (decide := true) only [am_u_at, am_u_j, am_u_ne]; omega)) ?_)
    | (refine am_br rfl (by first | omega | (simp (decide := true) only [am_u_at, am_u_j, am_u_ne]; omega)) (fun h => ?_) (fun h => ?_))
    | (refine am_cU (y' := Y_mt_total) rfl lk_wt_31_wt ok_mt_total rfl rfl rfl (c_wt_tot _ _ J (by assumption) (by assumption) hr hv hrows) ?_; rintro r I0 ⟨rfl, rfl⟩)
    | (refine am_rt rfl (by first | trivial | exact Or.inl rfl | exact Or.inr rfl) ?_))
  rw [a71]
  exact loopp 17 0 0 _ (by omega) (by omega) (am_fr.rf.u _ _ rfl) (by simp (decide := true) only [am_u_at, am_u_j, am_u_ne]) (fun j hj => by omega) (Or.inl ⟨rfl, rfl⟩) rfl
