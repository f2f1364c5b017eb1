theorem c_ct_on (d : Nat) (p b t q : Int) (I J : am_I) (h7 : I 7 = J 7) (h8 : I 8 = J 8) (hr : es_rb J) (hp : 0 ≤ p ∧ p < J 7 3) (hb : J 7 1 ≤ b ∧ b ≤ J 7 2) (ht : es_v0 J p t) (hq : 0 ≤ q ∧ q ≤ 127) (hrows : ∀ p' : Int, 0 ≤ p' → p' < J 7 3 → es_row_ct J I p') : am_C (d + 3) Y_mt_onward [.inr (.inr 9), .inl p, .inl b, .inl t, .inl q] I (fun r I' => I' = I ∧ r = some (.inr (.inl (es_w (es_Rc J) p b (es_T t) q)))) := by
  have hr' : es_rb I := by unfold es_rb; rw [h7]; exact hr
  obtain ⟨r1, r2, r3, r4⟩ := id hr
  have ht' : 0 ≤ t ∧ t ≤ 17 := by unfold es_v0 es_vs at ht; omega
  refine am_C_mono (c_ct_onward d p b t q I hr' (by omega) (by rw [h7]; omega) ht' hq) ?_
  have R7 : es_Rc J 7 = J 7 1 := rfl
  have R8 : es_Rc J 8 = J 7 2 := rfl
  have R9 : es_Rc J 9 = J 7 3 := rfl
  have R13 : es_Rc J 13 = J 8 3 := rfl
  have R14 : es_Rc J 14 = J 7 4 := rfl
  have R15 : es_Rc J 15 = J 7 5 := rfl
  rintro r I' ⟨e0, (⟨h, rfl⟩ | ⟨h, rfl⟩ | ⟨h, rfl⟩)⟩
  · refine ⟨e0, ?_⟩
    rw [h7] at h ⊢
    unfold es_w
    rw [R7, R8, R9, if_pos h.2, if_pos h.1]
    have h5 : t = 0 := by unfold es_v0 at ht; omega
    have h4 := hrows 0 (by omega) (by omega) q 0 h.2.1 h.2.2 (by unfold es_vs; omega)
    rw [show (0 * 37 + q - J 7 1) * 18 + 0 = (q - J 7 1) * 18 by omega, show J 7 3 - 1 - 0 = J 7 3 - 1 by omega] at h4
    rw [h4]
    rfl
  · refine ⟨e0, ?_⟩
    rw [h7, h8] at h
    rw [h7]
    have hvs : es_vs J (p - 1) t := by
      rcases ht with ht | ht
      · omega
      · exact ht.2
    have hk := (es_key (lp := J 7 4) (t := t) (q - b) r3 r4 ht' (by unfold es_vs at hvs; omega)).1 h.2.2.2
    unfold es_w
    rw [R7, R8, R9, if_pos ⟨h.2.1, h.2.2.1⟩, if_neg (by omega)]
    unfold es_f_mo
    rw [R13, R14, R15, hk.1, if_neg hk.2]
    have hvn : es_vs J p (es_nx (J 7 4) t (q - b)) := by
      have h3 := es_nx_c (J 7 4) t (q - b)
      have h4 := h.2.2.2
      unfold es_may at h4
      unfold es_vs at hvs ⊢
      omega
    rw [hrows p (by omega) (by omega) q _ h.2.1 h.2.2.1 hvn]
    rfl
  · refine ⟨e0, ?_⟩
    rw [h7, h8] at h
    unfold es_w
    rw [R7, R8, R9]
    by_cases c : J 7 1 ≤ q ∧ q ≤ J 7 2
    · rw [if_pos c, if_neg (by omega)]
      have hvs : es_vs J (p - 1) t := by
        rcases ht with ht | ht
        · omega
        · exact ht.2
      have hk := (es_key (stp := J 8 3) (lp := J 7 4) (t := t) (q - b) r3 r4 ht' (by unfold es_vs at hvs; omega)).2 (fun z => h (Or.inr ⟨by unfold es_v0 at ht; omega, c.1, c.2, z⟩))
      unfold es_f_mo
      rw [R13, R14, R15, if_pos hk]
    · rw [if_neg c]
theorem es_cf_fd {f : Int → Int} {a : Int} : ∀ m : Nat, es_cf f a m = es_fd es_oc 0 f a m
  | 0 => rfl
  | m + 1 => by
    show min 1000000000000000000 (es_cf f a m + f (a + m)) = min 1000000000000000000 (es_fd es_oc 0 f a m + f (a + m))
    rw [es_cf_fd m]
theorem c_ct_tot (d : Nat) (I J : am_I) (h7 : I 7 = J 7) (h8 : I 8 = J 8) (hr : es_rb J) (hv : ∀ j : Nat, 0 ≤ I 10 j ∧ I 10 j ≤ 1000000000000000000) (hrows : ∀ p' : Int, 0 ≤ p' → p' < J 7 3 → es_row_ct J I p') : am_C (d + 3) Y_mt_total [.inr (.inr 9)] I (fun r I' => I' = I ∧ r = some (.inr (.inl (es_tot (es_Rc J))))) := by
  have hr' : es_rb I := by unfold es_rb; rw [h7]; exact hr
  obtain ⟨r1, r2, r3, r4⟩ := id hr
  refine am_C_mono (c_ct_total d I hr' hv) ?_
  rintro r I' ⟨e0, rfl⟩
  refine ⟨e0, ?_⟩
  rw [h7, es_cf_fd]
  congr 3
  refine es_fd_cg _ (fun x h1 h2 => ?_)
  show I 10 ((0 * 37 + x - J 7 1) * 18 + 0).toNat = es_g_mo (es_Rc J) (J 7 3 - 1).toNat x 0
  have h4 := hrows 0 (by omega) (by omega) x 0 h1 (by omega) (by unfold es_vs; omega)
  rw [show J 7 3 - 1 - 0 = J 7 3 - 1 by omega] at h4
  rw [h4]
  rfl
theorem c_ct_stateAt2 (d : Nat) (p b t q : Int) (I J : am_I) (h7 : I 7 = J 7) (hr : es_rb J) (hp : 0 ≤ p ∧ p < 16) (hb : 0 ≤ b ∧ b ≤ 127) (ht : 0 ≤ t ∧ t ≤ 17) (hq : 0 ≤ q ∧ q ≤ 127) : am_C (d + 2) Y_mt_stateAt [.inr (.inr 9), .inl p, .inl b, .inl t, .inl q] I (fun r I' => I' = I ∧ r = some (.inl (if p = 0 then 0 else es_nx (J 7 4) t (q - b)))) := by
  have hr' : es_rb I := by unfold es_rb; rw [h7]; exact hr
  refine am_C_mono (c_ct_stateAt d p b t q I hr' hp hb ht hq) ?_
  rintro r I' ⟨e0, (⟨h, rfl⟩ | ⟨h, rfl⟩)⟩
  · exact ⟨e0, by rw [if_pos h]⟩
  · exact ⟨e0, by rw [if_neg (by omega), h7]⟩
theorem c_ct_spell (d : Nat) (k : Int) (I0 J : am_I) (h7 : I0 7 = J 7) (h8 : I0 8 = J 8) (hr : es_rb J) (hrows : ∀ p' : Int, 0 ≤ p' → p' < J 7 3 → es_row_ct J I0 p') (hk : 0 ≤ k ∧ k < es_tot (es_Rc J)) : am_C (d + 4) Y_ct_spell [.inr (.inr 9), .inr (.inl k), .inr (.inr 1)] I0 (fun r I' => r = none ∧ am_fr I0 I' [1, 2, 3] ∧ I' 1 2 = J 7 3 ∧ ∀ j : Nat, (j : Int) < J 7 3 → I' 2 j = (es_sp (es_Rc J) k (j + 1)).1 ∧ I' 3 j = 24) := by
  refine am_enter ok_ct_spell rfl ?_
  obtain ⟨r1, r2, r3, r4⟩ := id hr
  have hal := es_sp_al (es_rb_m hr) hk
  have R7 : es_Rc J 7 = J 7 1 := rfl
  have R8 : es_Rc J 8 = J 7 2 := rfl
  have R9 : es_Rc J 9 = J 7 3 := rfl
  have loopp : ∀ (m p : Nat) (t : Int) (I : am_I), (p : Int) ≤ J 7 3 → J 7 3 - p < m → am_fr I0 I [1, 2, 3] → I 1 2 = p → (∀ j : Nat, j < p → I 2 j = (es_sp (es_Rc J) k (j + 1)).1 ∧ I 3 j = 24) → es_v0 J p t → es_T t = (es_sp (es_Rc J) k p).2.1 → am_V (d + 4) Y_ct_spell (fun r I' => r = none ∧ am_fr I0 I' [1, 2, 3] ∧ I' 1 2 = J 7 3 ∧ ∀ j : Nat, (j : Int) < J 7 3 → I' 2 j = (es_sp (es_Rc J) k (j + 1)).1 ∧ I' 3 j = 24) 23 [(0, .inr (.inr 9)), (1, .inr (.inl k)), (3, .inr (.inr 1)), (4, .inr (.inl (es_sp (es_Rc J) k p).2.2)), (6, .inl (es_sp (es_Rc J) k p).1), (7, .inl t), (8, .inl p)] [] I := by
    intro m
    induction m with
    | zero => intro p t I h1 h2; omega
    | succ m ih =>
      intro p t I h1 h2 hf hsz hin hv hT
      have e7 : I 7 = J 7 := (hf 7 rfl).trans h7
      have e8 : I 8 = J 8 := (hf 8 rfl).trans h8
      have e71 : I 7 1 = J 7 1 := congrFun e7 1
      have e72 : I 7 2 = J 7 2 := congrFun e7 2
      have e73 : I 7 3 = J 7 3 := congrFun e7 3
      have hrows' : ∀ p' : Int, 0 ≤ p' → p' < J 7 3 → es_row_ct J I p' := fun p' g1 g2 => es_row_ct_u (hrows p' g1 g2) (fun q' t' _ _ _ => by rw [hf 10 rfl])
      have ha := hal p (by omega)
      have hst : (p : Int) < J 7 3 → _ := fun h => es_st_al (es_rb_m hr) (i := p) ⟨by omega, by omega⟩ ha
      have hsp : es_sp (es_Rc J) k (p + 1) = es_st (es_Rc J) p (es_sp (es_Rc J) k p) := rfl
      obtain ⟨a1, a2, a3, a4⟩ := ha
      rw [R7, R8] at a1
      generalize es_sp (es_Rc J) k p = x at *
      have ht17 : 0 ≤ t ∧ t ≤ 17 := by unfold es_v0 es_vs at hv; omega
      have fin : ∀ (q here : Int), (p : Int) < J 7 3 → q = (es_sp (es_Rc J) k (p + 1)).1 → am_V (d + 4) Y_ct_spell (fun r I' => r = none ∧ am_fr I0 I' [1, 2, 3] ∧ I' 1 2 = J 7 3 ∧ ∀ j : Nat, (j : Int) < J 7 3 → I' 2 j = (es_sp (es_Rc J) k (j + 1)).1 ∧ I' 3 j = 24) 105 [(0, .inr (.inr 9)), (1, .inr (.inl k)), (3, .inr (.inr 1)), (4, .inr (.inl (es_sp (es_Rc J) k (p + 1)).2.2)), (6, .inl x.1), (7, .inl t), (8, .inl p), (9, .inl q), (10, .inr (.inl here))] [] I := by
        intro q here hpn hq
        obtain ⟨s1, s2⟩ := hst hpn
        rw [← hsp] at s1 s2
        have hqr := s1.1
        rw [R7, R8, ← hq] at hqr
        rw [← hq, ← hT] at s2
        have hs0 := s1.2.2.1
        have hv2 := es_v0_u hr (b := x.1) (q := q) ⟨by omega, hpn⟩ hv (by omega)
        repeat' (first
          | (refine am_gp 80 [23] rfl (by first | trivial | exact Or.inl rfl | exact Or.inr rfl | (simp (decide := true) only [am_p, am_u_at, am_u_j, am_u_ne]; omega) | (simp (decide := true) only [am_p, and_true, true_and, true_or, or_true, am_u_at, am_u_j, am_u_ne]; omega) | (simp (decide := true) [am_p, am_u_at, am_u_j, am_u_ne]; omega)) ?_)
          | (show am_V _ _ _ _ _ _ _; simp only [Int.reduceToNat])
          | (refine am_bt rfl (by first | omega | (simp (decide := true) only [am_u_at, am_u_j, am_u_ne]; omega)) (by first | omega | (simp (decide := true) only [am_u_at, am_u_j, am_u_ne]; omega)) ?_)
          | (refine am_bf rfl (by first | omega | (simp (decide := true) only [am_u_at, am_u_j, am_u_ne]; omega)) (by first | omega | (simp (decide := true) only [am_u_at, am_u_j, am_u_ne]; omega)) ?_)
          | (refine am_br rfl (by first | omega | (simp (decide := true) only [am_u_at, am_u_j, am_u_ne]; omega)) (fun h => ?_) (fun h => ?_))
          | (refine am_cU (y' := Y_mt_stateAt) rfl lk_ct_40_ct ok_mt_stateAt rfl rfl rfl (c_ct_stateAt2 _ _ _ _ _ _ J (by assumption) hr (by first | omega | (simp (decide := true) only [am_u_at, am_u_j, am_u_ne]; omega)) (by first | omega | (simp (decide := true) only [am_u_at, am_u_j, am_u_ne]; omega)) (by first | omega | (simp (decide := true) only [am_u_at, am_u_j, am_u_ne]; omega)) (by first | omega | (simp (decide := true) only [am_u_at, am_u_j, am_u_ne]; omega))) ?_; rintro r I ⟨rfl, rfl⟩)
          | (refine am_cV (y' := Y_no_push) rfl lk_ct_44 ok_no_push rfl rfl rfl (c_push_row _ _ _ _ (by first | omega | (simp (decide := true) only [am_u_at, am_u_j, am_u_ne]; omega))) ?_; rintro r I ⟨rfl, rfl⟩)
          | (refine am_rt rfl (by first | trivial | exact Or.inl rfl | exact Or.inr rfl) ?_))
        refine am_wk [9, 10] ?_
        have h9 := ih (p + 1) (if (p : Int) = 0 then 0 else es_nx (J 7 4) t (q - x.1)) (am_u (am_u (am_u I 2 (I 1 2).toNat q) 3 (I 1 2).toNat 24) 1 2 (I 1 2 + 1)) (by omega) (by omega) (((hf.u _ _ rfl).u _ _ rfl).u _ _ rfl) ?_ ?_ ?_ ?_
        · rw [← hq, show ((p + 1 : Nat) : Int) = (p : Int) + 1 by omega] at h9
          exact h9
        · simp (decide := true) only [am_u_at, am_u_j, am_u_ne]; omega
        · intro j hj
          simp (decide := true) only [am_u_at, am_u_j, am_u_ne]
          rw [am_u_eq, am_u_eq, hsz]
          by_cases c : j = (p : Int).toNat
          · rw [c, am_up_eq, am_up_eq]
            rw [show (p : Int).toNat = p by omega]
            exact ⟨hq, rfl⟩
          · rw [am_up_ne c, am_up_ne c]
            exact hin j (by omega)
        · rw [show ((p + 1 : Nat) : Int) = (p : Int) + 1 by omega]
          exact hv2.1
        · rw [hv2.2, hT, hsp]
          unfold es_st
          rw [hsp] at hq
          unfold es_st at hq
          rw [hq]
      have loopq : ∀ (n : Nat) (q l : Int), (p : Int) < J 7 3 → J 7 1 ≤ q → q ≤ J 7 2 → J 7 2 - q < n → 0 ≤ l → l ≤ 1000000000000000000 → l < es_fd es_oc 0 (es_w (es_Rc J) p x.1 x.2.1) q (J 7 2 + 1 - q).toNat → es_pk (es_w (es_Rc J) p x.1 x.2.1) q (J 7 2 + 1 - q).toNat l = es_pk (es_w (es_Rc J) p x.1 x.2.1) (J 7 1) (J 7 2 + 1 - J 7 1).toNat x.2.2 → am_V (d + 4) Y_ct_spell (fun r I' => r = none ∧ am_fr I0 I' [1, 2, 3] ∧ I' 1 2 = J 7 3 ∧ ∀ j : Nat, (j : Int) < J 7 3 → I' 2 j = (es_sp (es_Rc J) k (j + 1)).1 ∧ I' 3 j = 24) 58 [(0, .inr (.inr 9)), (1, .inr (.inl k)), (3, .inr (.inr 1)), (4, .inr (.inl l)), (6, .inl x.1), (7, .inl t), (8, .inl p), (9, .inl q), (10, .inr (.inl (es_w (es_Rc J) p x.1 x.2.1 q)))] [] I := by
        intro n
        induction n with
        | zero => intro q l g0 g1 g2 g3; omega
        | succ n ihq =>
          intro q l g0 g1 g2 g3 g4 g5 g6 g7
          have hwd := es_w_D (es_Rc J) p x.1 x.2.1 q
          unfold es_Dc at hwd
          have em : (J 7 2 + 1 - q).toNat = (J 7 2 + 1 - (q + 1)).toNat + 1 := by omega
          rw [em, es_fd_l es_mc (fun z => es_w_D _ _ _ _ _)] at g6
          have g6' : l < min 1000000000000000000 (es_w (es_Rc J) p x.1 x.2.1 q + es_fd es_oc 0 (es_w (es_Rc J) p x.1 x.2.1) (q + 1) (J 7 2 + 1 - (q + 1)).toNat) := g6
          rw [em] at g7
          have done : l < es_w (es_Rc J) p x.1 x.2.1 q → q = (es_sp (es_Rc J) k (p + 1)).1 ∧ l = (es_sp (es_Rc J) k (p + 1)).2.2 := by
            intro hl
            have e1 : es_pk (es_w (es_Rc J) p x.1 x.2.1) q ((J 7 2 + 1 - (q + 1)).toNat + 1) l = (q, l) := by
              show (if l < es_w (es_Rc J) p x.1 x.2.1 q then (q, l) else _) = _
              rw [if_pos hl]
            rw [e1] at g7
            rw [hsp]
            unfold es_st
            rw [R7, R8, ← g7]
            exact ⟨rfl, rfl⟩
          refine am_go 1 [] rfl trivial ?_
          repeat' (first
            | (refine am_gp 80 [58, 105, 88] rfl (by first | trivial | exact Or.inl rfl | exact Or.inr rfl | (simp (decide := true) only [am_p, am_u_at, am_u_j, am_u_ne]; omega) | (simp (decide := true) only [am_p, and_true, true_and, true_or, or_true, am_u_at, am_u_j, am_u_ne]; omega) | (simp (decide := true) [am_p, am_u_at, am_u_j, am_u_ne]; omega)) ?_)
            | (show am_V _ _ _ _ _ _ _; simp only [Int.reduceToNat])
            | (refine am_bt rfl (by first | omega | (simp (decide := true) only [am_u_at, am_u_j, am_u_ne]; omega)) (by first | omega | (simp (decide := true) only [am_u_at, am_u_j, am_u_ne]; omega)) ?_)
            | (refine am_bf rfl (by first | omega | (simp (decide := true) only [am_u_at, am_u_j, am_u_ne]; omega)) (by first | omega | (simp (decide := true) only [am_u_at, am_u_j, am_u_ne]; omega)) ?_)
            | (refine am_br rfl (by first | omega | (simp (decide := true) only [am_u_at, am_u_j, am_u_ne]; omega)) (fun h => ?_) (fun h => ?_))
            | (refine am_rt rfl (by first | trivial | exact Or.inl rfl | exact Or.inr rfl) ?_))
          · have hl : l < es_w (es_Rc J) p x.1 x.2.1 q := by
              have e2 : (J 7 2 + 1 - (q + 1)).toNat = 0 := by omega
              rw [e2] at g6'
              have e3 : es_fd es_oc 0 (es_w (es_Rc J) p x.1 x.2.1) (q + 1) 0 = 0 := rfl
              omega
            have hd := done hl
            rw [hd.2]
            exact fin q _ g0 hd.1
          · have hd := done (by omega)
            rw [hd.2]
            exact fin q _ g0 hd.1
          · rw [← hT]
            repeat' (first
              | (refine am_gp 80 [58] rfl (by first | trivial | exact Or.inl rfl | exact Or.inr rfl | (simp (decide := true) only [am_p, am_u_at, am_u_j, am_u_ne]; omega) | (simp (decide := true) only [am_p, and_true, true_and, true_or, or_true, am_u_at, am_u_j, am_u_ne]; omega) | (simp (decide := true) [am_p, am_u_at, am_u_j, am_u_ne]; omega)) ?_)
              | (show am_V _ _ _ _ _ _ _; simp only [Int.reduceToNat])
              | (refine am_bt rfl (by first | omega | (simp (decide := true) only [am_u_at, am_u_j, am_u_ne]; omega)) (by first | omega | (simp (decide := true) only [am_u_at, am_u_j, am_u_ne]; omega)) ?_)
              | (refine am_bf rfl (by first | omega | (simp (decide := true) only [am_u_at, am_u_j, am_u_ne]; omega)) (by first | omega | (simp (decide := true) only [am_u_at, am_u_j, am_u_ne]; omega)) ?_)
              | (refine am_br rfl (by first | omega | (simp (decide := true) only [am_u_at, am_u_j, am_u_ne]; omega)) (fun h => ?_) (fun h => ?_))
              | (refine am_cU (y' := Y_mt_onward) rfl lk_ct_33_ct ok_mt_onward rfl rfl rfl (c_ct_on _ _ _ _ _ _ J (by assumption) (by assumption) hr (by first | omega | (simp (decide := true) only [am_u_at, am_u_j, am_u_ne]; omega)) (by first | omega | (simp (decide := true) only [am_u_at, am_u_j, am_u_ne]; omega)) (by assumption) (by first | omega | (simp (decide := true) only [am_u_at, am_u_j, am_u_ne]; omega)) (by assumption)) ?_; rintro r I ⟨rfl, rfl⟩)
              | (refine am_rt rfl (by first | trivial | exact Or.inl rfl | exact Or.inr rfl) ?_))
            rw [hT]
            have g8 : es_pk (es_w (es_Rc J) p x.1 x.2.1) q ((J 7 2 + 1 - (q + 1)).toNat + 1) l = es_pk (es_w (es_Rc J) p x.1 x.2.1) (q + 1) (J 7 2 + 1 - (q + 1)).toNat (l - es_w (es_Rc J) p x.1 x.2.1 q) := by
              show (if l < es_w (es_Rc J) p x.1 x.2.1 q then (q, l) else _) = _
              rw [if_neg (by omega)]
            exact ihq (q + 1) _ g0 (by omega) (by omega) (by omega) (by omega) (by omega) (by omega) (g8.symm.trans g7)
      refine am_go 1 [] rfl trivial ?_
      repeat' (first
        | (refine am_gp 80 [58] rfl (by first | trivial | exact Or.inl rfl | exact Or.inr rfl | (simp (decide := true) only [am_p, am_u_at, am_u_j, am_u_ne]; omega) | (simp (decide := true) only [am_p, and_true, true_and, true_or, or_true, am_u_at, am_u_j, am_u_ne]; omega) | (simp (decide := true) [am_p, am_u_at, am_u_j, am_u_ne]; omega)) ?_)
        | (show am_V _ _ _ _ _ _ _; simp only [Int.reduceToNat])
        | (refine am_bt rfl (by first | omega | (simp (decide := true) only [am_u_at, am_u_j, am_u_ne]; omega)) (by first | omega | (simp (decide := true) only [am_u_at, am_u_j, am_u_ne]; omega)) ?_)
        | (refine am_bf rfl (by first | omega | (simp (decide := true) only [am_u_at, am_u_j, am_u_ne]; omega)) (by first | omega | (simp (decide := true) only [am_u_at, am_u_j, am_u_ne]; omega)) ?_)
        | (refine am_br rfl (by first | omega | (simp (decide := true) only [am_u_at, am_u_j, am_u_ne]; omega)) (fun h => ?_) (fun h => ?_))
        | (refine am_cU (y' := Y_mt_onward) rfl lk_ct_33_ct ok_mt_onward rfl rfl rfl (c_ct_on _ _ _ _ _ _ J (by assumption) (by assumption) hr (by first | omega | (simp (decide := true) only [am_u_at, am_u_j, am_u_ne]; omega)) (by first | omega | (simp (decide := true) only [am_u_at, am_u_j, am_u_ne]; omega)) (by assumption) (by first | omega | (simp (decide := true) only [am_u_at, am_u_j, am_u_ne]; omega)) (by assumption)) ?_; rintro r I ⟨rfl, rfl⟩)
        | (refine am_rt rfl (by first | trivial | exact Or.inl rfl | exact Or.inr rfl) ?_))
      · have ep : (p : Int) = J 7 3 := by omega
        exact ⟨rfl, hf, by omega, fun j hj => hin j (by omega)⟩
      · rw [e71, hT]
        rw [R7, R8, R9] at a4
        have a5 := a4 (by omega)
        have a6 := es_fc_D (f := es_w (es_Rc J) p x.1 x.2.1) (fun z => es_w_D _ _ _ _ _) (J 7 1) (J 7 2 + 1 - J 7 1).toNat
        exact loopq 200 (J 7 1) x.2.2 (by omega) (by omega) (by omega) (by omega) a3 (by omega) a5 rfl
  have a71 : I0 7 1 = J 7 1 := congrFun h7 1
  repeat' (first
    | (refine am_gp 80 [23] rfl (by first | trivial | exact Or.inl rfl | exact Or.inr rfl | (simp (decide := true) only [am_p, am_u_at, am_u_j, am_u_ne]; omega) | (simp (decide := true) only [am_p, and_true, true_and, true_or, or_true, am_u_at, am_u_j, am_u_ne]; omega) | (simp (decide := true) [am_p, am_u_at, am_u_j, am_u_ne]; omega)) ?_)
    | (show am_V _ _ _ _ _ _ _; simp only [Int.reduceToNat])
    | (refine am_bt rfl (by first | omega | (simp (decide := true) only [am_u_at, am_u_j, am_u_ne]; omega)) (by first | omega | (simp (decide := true) only [am_u_at, am_u_j, am_u_ne]; omega)) ?_)
    | (refine am_bf rfl (by first | omega | (simp (decide := true) only [am_u_at, am_u_j, am_u_ne]; omega)) (by first | omega | (simp (decide := true) only [am_u_at, am_u_j, am_u_ne]; omega)) ?_)
    | (refine am_br rfl (by first | omega | (simp (decide := true) only [am_u_at, am_u_j, am_u_ne]; omega)) (fun h => ?_) (fun h => ?_))
    | (refine am_rt rfl (by first | trivial | exact Or.inl rfl | exact Or.inr rfl) ?_))
  rw [a71]
  exact loopp 17 0 0 _ (by omega) (by omega) (am_fr.rf.u _ _ rfl) (by simp (decide := true) only [am_u_at, am_u_j, am_u_ne]) (fun j hj => by omega) (Or.inl ⟨rfl, rfl⟩) rfl
