theorem c_ct_ahead (d : Nat) (I J : am_I) (h7 : I 7 = J 7) (h8 : I 8 = J 8) (hr : es_rb J) (hrows : ∀ p' : Int, 0 ≤ p' → p' < J 7 3 → es_row_ct J I p') (hsz : I 1 2 = J 7 3) (hpt : ∀ j : Nat, (j : Int) < J 7 3 → 0 ≤ I 2 j ∧ I 2 j ≤ 127) : am_C (d + 4) Y_ct_ahead [.inr (.inr 9), .inr (.inr 1)] I (fun r I' => I' = I ∧ r = some (.inr (.inl (es_ah (es_Rc J) (I 2) (J 7 3).toNat 0 (J 7 1) 0 0)))) := by
  refine am_enter ok_ct_ahead rfl ?_
  obtain ⟨r1, r2, r3, r4⟩ := id hr
  have a71 : I 7 1 = J 7 1 := congrFun h7 1
  have a72 : I 7 2 = J 7 2 := congrFun h7 2
  have a73 : I 7 3 = J 7 3 := congrFun h7 3
  have R7 : es_Rc J 7 = J 7 1 := rfl
  have R8 : es_Rc J 8 = J 7 2 := rfl
  have R9 : es_Rc J 9 = J 7 3 := rfl
  generalize hTT : es_ah (es_Rc J) (I 2) (J 7 3).toNat 0 (J 7 1) 0 0 = TT
  have loopp : ∀ (m p : Nat) (b t s : Int), (p : Int) + m = J 7 3 → (J 7 1 ≤ b ∧ b ≤ J 7 2) → es_v0 J p t → (0 ≤ s ∧ s ≤ 1000000000000000000) → es_ah (es_Rc J) (I 2) m p b (es_T t) s = TT → am_V (d + 4) Y_ct_ahead (fun r I' => I' = I ∧ r = some (.inr (.inl TT))) 17 [(0, .inr (.inr 9)), (1, .inr (.inr 1)), (2, .inr (.inl s)), (4, .inl b), (5, .inl t), (6, .inl p)] [] I := by
    intro m
    induction m with
    | zero =>
      intro p b t s h1 h2 h3 h4 h5
      have h6 : s = TT := h5
      repeat' (first
        | (refine am_gp 80 [] rfl (by first | trivial | exact Or.inl rfl | exact Or.inr rfl | (simp (decide := true) only [am_p, am_u_at, am_u_j, am_u_ne]; omega) | (simp (decide := true) only [am_p, and_true, true_and, true_or, or_true, am_u_at, am_u_j, am_u_ne]; omega) | (simp (decide := true) [am_p, am_u_at, am_u_j, am_u_ne]; omega)) ?_)
        | (show am_V _ _ _ _ _ _ _; simp only [Int.reduceToNat])
        | (refine am_bt rfl (by first | omega | (simp (decide := true) only [am_u_at, am_u_j, am_u_ne]; omega)) (by first | omega | (simp (decide := true) only [am_u_at, am_u_j, am_u_ne]; omega)) ?_)
        | (refine am_bf rfl (by first | omega | (simp (decide := true) only [am_u_at, am_u_j, am_u_ne]; omega)) (by first | omega | (simp (decide := true) only [am_u_at, am_u_j, am_u_ne]; omega)) ?_)
        | (refine am_br rfl (by first | omega | (simp (decide := true) only [am_u_at, am_u_j, am_u_ne]; omega)) (fun h => ?_) (fun h => ?_))
        | (refine am_rt rfl (by first | trivial | exact Or.inl rfl | exact Or.inr rfl) ?_))
      exact ⟨rfl, by rw [h6]⟩
    | succ m ih =>
      intro p b t s h1 h2 h3 h4 h5
      have hown := hpt p (by omega)
      have ht17 : 0 ≤ t ∧ t ≤ 17 := by unfold es_v0 es_vs at h3; omega
      have hwo := es_w_D (es_Rc J) p b (es_T t) (I 2 p)
      unfold es_Dc at hwo
      have hah : (if es_w (es_Rc J) p b (es_T t) (I 2 p) = 0 then es_oc s (es_fd es_oc 0 (es_w (es_Rc J) p b (es_T t)) (J 7 1) (min (I 2 p) (J 7 2 + 1) - J 7 1).toNat) else es_ah (es_Rc J) (I 2) m (p + 1) (I 2 p) (es_us (es_Rc J) p b (es_T t) (I 2 p)) (es_oc s (es_fd es_oc 0 (es_w (es_Rc J) p b (es_T t)) (J 7 1) (min (I 2 p) (J 7 2 + 1) - J 7 1).toNat))) = TT := h5
      have ep : (p : Int).toNat = p := by omega
      have loopq : ∀ (n k : Nat), k ≤ (min (I 2 p) (J 7 2 + 1) - J 7 1).toNat → (min (I 2 p) (J 7 2 + 1) - J 7 1).toNat - k < n → am_V (d + 4) Y_ct_ahead (fun r I' => I' = I ∧ r = some (.inr (.inl TT))) 56 [(0, .inr (.inr 9)), (1, .inr (.inr 1)), (2, .inr (.inl (es_oc s (es_fd es_oc 0 (es_w (es_Rc J) p b (es_T t)) (J 7 1) k)))), (4, .inl b), (5, .inl t), (6, .inl p), (7, .inl (I 2 p)), (8, .inl (J 7 1 + k))] [] I := by
        intro n
        induction n with
        | zero => intro k g1 g2; omega
        | succ n ihq =>
          intro k g1 g2
          have hk := es_fc_D (f := es_w (es_Rc J) p b (es_T t)) (fun z => es_w_D _ _ _ _ _) (J 7 1) k
          have hk2 : 0 ≤ es_oc s (es_fd es_oc 0 (es_w (es_Rc J) p b (es_T t)) (J 7 1) k) ∧ es_oc s (es_fd es_oc 0 (es_w (es_Rc J) p b (es_T t)) (J 7 1) k) ≤ 1000000000000000000 := es_mc.2.1 _ _ h4 hk
          have hwk := es_w_D (es_Rc J) p b (es_T t) (J 7 1 + k)
          have hwk2 : 0 ≤ es_w (es_Rc J) p b (es_T t) (J 7 1 + k) ∧ es_w (es_Rc J) p b (es_T t) (J 7 1 + k) ≤ 1000000000000000000 := hwk
          have fin : k = (min (I 2 p) (J 7 2 + 1) - J 7 1).toNat → am_V (d + 4) Y_ct_ahead (fun r I' => I' = I ∧ r = some (.inr (.inl TT))) 98 [(0, .inr (.inr 9)), (1, .inr (.inr 1)), (2, .inr (.inl (es_oc s (es_fd es_oc 0 (es_w (es_Rc J) p b (es_T t)) (J 7 1) k)))), (4, .inl b), (5, .inl t), (6, .inl p), (7, .inl (I 2 p)), (8, .inl (J 7 1 + k))] [] I := by
            intro ek
            rw [← ek] at hah
            repeat' (first
              | (refine am_gp 80 [17] rfl (by first | trivial | exact Or.inl rfl | exact Or.inr rfl | (simp (decide := true) only [am_p, am_u_at, am_u_j, am_u_ne]; omega) | (simp (decide := true) only [am_p, and_true, true_and, true_or, or_true, am_u_at, am_u_j, am_u_ne]; omega) | (simp (decide := true) [am_p, am_u_at, am_u_j, am_u_ne]; omega)) ?_)
              | (show am_V _ _ _ _ _ _ _; simp only [Int.reduceToNat])
              | (refine am_bt rfl (by first | omega | (simp (decide := true) only [am_u_at, am_u_j, am_u_ne]; omega)) (by first | omega | (simp (decide := true) only [am_u_at, am_u_j, am_u_ne]; omega)) ?_)
              | (refine am_bf rfl (by first | omega | (simp (decide := true) only [am_u_at, am_u_j, am_u_ne]; omega)) (by first | omega | (simp (decide := true) only [am_u_at, am_u_j, am_u_ne]; omega)) ?_)
              | (refine am_br rfl (by first | omega | (simp (decide := true) only [am_u_at, am_u_j, am_u_ne]; omega)) (fun h => ?_) (fun h => ?_))
              | (refine am_cU (y' := Y_mt_onward) rfl lk_ct_33_ct ok_mt_onward rfl rfl rfl (c_ct_on _ _ _ _ _ _ J (by assumption) (by assumption) hr (by first | omega | (simp (decide := true) only [am_u_at, am_u_j, am_u_ne]; omega)) (by first | omega | (simp (decide := true) only [am_u_at, am_u_j, am_u_ne]; omega)) (by assumption) (by first | omega | (simp (decide := true) only [am_u_at, am_u_j, am_u_ne]; omega)) (by assumption)) ?_; rintro r I ⟨rfl, rfl⟩)
              | (refine am_cU (y' := Y_mt_stateAt) rfl lk_ct_40_ct ok_mt_stateAt rfl rfl rfl (c_ct_stateAt2 _ _ _ _ _ _ J (by assumption) hr (by first | omega | (simp (decide := true) only [am_u_at, am_u_j, am_u_ne]; omega)) (by first | omega | (simp (decide := true) only [am_u_at, am_u_j, am_u_ne]; omega)) (by first | omega | (simp (decide := true) only [am_u_at, am_u_j, am_u_ne]; omega)) (by first | omega | (simp (decide := true) only [am_u_at, am_u_j, am_u_ne]; omega))) ?_; rintro r I ⟨rfl, rfl⟩)
              | (refine am_rt rfl (by first | trivial | exact Or.inl rfl | exact Or.inr rfl) ?_))
            · refine am_wk [7, 8] ?_
              rw [if_neg (by omega)] at hah
              have hv2 := es_v0_u hr (b := b) (q := I 2 p) ⟨by omega, by omega⟩ h3 (by omega)
              have hwg := (es_w_g (R := es_Rc J) (i := p) (b := b) (u := es_T t) (q := I 2 p) (by omega)).1
              rw [R7, R8] at hwg
              rw [← hv2.2] at hah
              have h9 := ih (p + 1) (I 2 p) (if (p : Int) = 0 then 0 else es_nx (J 7 4) t (I 2 p - b)) _ (by omega) hwg (by rw [show ((p + 1 : Nat) : Int) = (p : Int) + 1 by omega]; exact hv2.1) hk2 hah
              rw [show ((p + 1 : Nat) : Int) = (p : Int) + 1 by omega] at h9
              exact h9
            · rw [if_pos (by omega)] at hah
              exact ⟨rfl, by rw [hah]⟩
          refine am_go 1 [] rfl trivial ?_
          repeat' (first
            | (refine am_gp 80 [56, 98] rfl (by first | trivial | exact Or.inl rfl | exact Or.inr rfl | (simp (decide := true) only [am_p, am_u_at, am_u_j, am_u_ne]; omega) | (simp (decide := true) only [am_p, and_true, true_and, true_or, or_true, am_u_at, am_u_j, am_u_ne]; omega) | (simp (decide := true) [am_p, am_u_at, am_u_j, am_u_ne]; omega)) ?_)
            | (show am_V _ _ _ _ _ _ _; simp only [Int.reduceToNat])
            | (refine am_bt rfl (by first | omega | (simp (decide := true) only [am_u_at, am_u_j, am_u_ne]; omega)) (by first | omega | (simp (decide := true) only [am_u_at, am_u_j, am_u_ne]; omega)) ?_)
            | (refine am_bf rfl (by first | omega | (simp (decide := true) only [am_u_at, am_u_j, am_u_ne]; omega)) (by first | omega | (simp (decide := true) only [am_u_at, am_u_j, am_u_ne]; omega)) ?_)
            | (refine am_br rfl (by first | omega | (simp (decide := true) only [am_u_at, am_u_j, am_u_ne]; omega)) (fun h => ?_) (fun h => ?_))
            | (refine am_cU (y' := Y_mt_onward) rfl lk_ct_33_ct ok_mt_onward rfl rfl rfl (c_ct_on _ _ _ _ _ _ J (by assumption) (by assumption) hr (by first | omega | (simp (decide := true) only [am_u_at, am_u_j, am_u_ne]; omega)) (by first | omega | (simp (decide := true) only [am_u_at, am_u_j, am_u_ne]; omega)) (by assumption) (by first | omega | (simp (decide := true) only [am_u_at, am_u_j, am_u_ne]; omega)) (by assumption)) ?_; rintro r I ⟨rfl, rfl⟩)
            | (refine am_cN (y' := Y_es_cappedSum) rfl lk_ct_9 ok_es_cappedSum rfl rfl (c_capped _ _ _ _ (by first | omega | (simp (decide := true) only [am_u_at, am_u_j, am_u_ne]; omega)) (by first | omega | (simp (decide := true) only [am_u_at, am_u_j, am_u_ne]; omega))) ?_; rintro r I ⟨rfl, rfl⟩)
            | (refine am_rt rfl (by first | trivial | exact Or.inl rfl | exact Or.inr rfl) ?_))
          · exact fin (by omega)
          · exact fin (by omega)
          · have h9 := ihq (k + 1) (by omega) (by omega)
            rw [show J 7 1 + ((k + 1 : Nat) : Int) = J 7 1 + (k : Int) + 1 by omega] at h9
            have e9 : es_oc s (es_fd es_oc 0 (es_w (es_Rc J) p b (es_T t)) (J 7 1) (k + 1)) = es_oc (es_oc s (es_fd es_oc 0 (es_w (es_Rc J) p b (es_T t)) (J 7 1) k)) (es_w (es_Rc J) p b (es_T t) (J 7 1 + k)) := (es_mc.2.2.1 _ _ _ h4 hk hwk).symm
            rw [e9] at h9
            exact h9
      refine am_go 1 [] rfl trivial ?_
      repeat' (first
        | (refine am_gp 80 [56] rfl (by first | trivial | exact Or.inl rfl | exact Or.inr rfl | (simp (decide := true) only [am_p, am_u_at, am_u_j, am_u_ne]; omega) | (simp (decide := true) only [am_p, and_true, true_and, true_or, or_true, am_u_at, am_u_j, am_u_ne]; omega) | (simp (decide := true) [am_p, am_u_at, am_u_j, am_u_ne]; omega)) ?_)
        | (show am_V _ _ _ _ _ _ _; simp only [Int.reduceToNat])
        | (refine am_bt rfl (by first | omega | (simp (decide := true) only [am_u_at, am_u_j, am_u_ne]; omega)) (by first | omega | (simp (decide := true) only [am_u_at, am_u_j, am_u_ne]; omega)) ?_)
        | (refine am_bf rfl (by first | omega | (simp (decide := true) only [am_u_at, am_u_j, am_u_ne]; omega)) (by first | omega | (simp (decide := true) only [am_u_at, am_u_j, am_u_ne]; omega)) ?_)
        | (refine am_br rfl (by first | omega | (simp (decide := true) only [am_u_at, am_u_j, am_u_ne]; omega)) (fun h => ?_) (fun h => ?_))
        | (refine am_rt rfl (by first | trivial | exact Or.inl rfl | exact Or.inr rfl) ?_))
      rw [ep, a71]
      have h9 := loopq 200 0 (by omega) (by omega)
      rw [show J 7 1 + ((0 : Nat) : Int) = J 7 1 by omega, show es_oc s (es_fd es_oc 0 (es_w (es_Rc J) p b (es_T t)) (J 7 1) 0) = s from es_mn_r es_mc h4] at h9
      exact h9
  repeat' (first
    | (refine am_gp 80 [17] rfl (by first | trivial | exact Or.inl rfl | exact Or.inr rfl | (simp (decide := true) only [am_p, am_u_at, am_u_j, am_u_ne]; omega) | (simp (decide := true) only [am_p, and_true, true_and, true_or, or_true, am_u_at, am_u_j, am_u_ne]; omega) | (simp (decide := true) [am_p, am_u_at, am_u_j, am_u_ne]; omega)) ?_)
    | (show am_V _ _ _ _ _ _ _; simp only [Int.reduceToNat])
    | (refine am_bt rfl (by first | omega | (simp (decide := true) only [am_u_at, am_u_j, am_u_ne]; omega)) (by first | omega | (simp (decide := true) only [am_u_at, am_u_j, am_u_ne]; omega)) ?_)
    | (refine am_bf rfl (by first | omega | (simp (decide := true) only [am_u_at, am_u_j, am_u_ne]; omega)) (by first | omega | (simp (decide := true) only [am_u_at, am_u_j, am_u_ne]; omega)) ?_)
    | (refine am_br rfl (by first | omega | (simp (decide := true) only [am_u_at, am_u_j, am_u_ne]; omega)) (fun h => ?_) (fun h => ?_))
    | (refine am_rt rfl (by first | trivial | exact Or.inl rfl | exact Or.inr rfl) ?_))
  rw [a71]
  exact loopp (J 7 3).toNat 0 (J 7 1) 0 0 (by omega) (by omega) (Or.inl ⟨rfl, rfl⟩) (by omega) hTT
def es_i9 (I : am_I) : Prop := (∀ j : Nat, 0 ≤ I 10 j ∧ I 10 j ≤ 1000000000000000000) ∧ (I 9 2 = 0 ∨ (I 9 2 = 1 ∧ ∀ p : Int, 0 ≤ p → p < I 7 3 → es_row_ct I I p))
theorem es_row_ct_J {J J' I : am_I} {p : Int} (h7 : J' 7 = J 7) (h8 : J' 8 = J 8) (h : es_row_ct J I p) : es_row_ct J' I p := by
  unfold es_row_ct es_vs es_g_ct at h ⊢
  rw [h7, h8]
  exact h
theorem es_i9_mk {J I : am_I} (h7 : I 7 = J 7) (h8 : I 8 = J 8) (hv : ∀ j : Nat, 0 ≤ I 10 j ∧ I 10 j ≤ 1000000000000000000) (h9 : I 9 2 = 1) (hrows : ∀ p : Int, 0 ≤ p → p < J 7 3 → es_row_ct J I p) : es_i9 I := ⟨hv, Or.inr ⟨h9, fun p h1 h2 => es_row_ct_J h7 h8 (hrows p h1 (by rw [h7] at h2; exact h2))⟩⟩
theorem c_es_melodies (d : Nat) (I0 : am_I) (hr : es_rb I0) (h9 : es_i9 I0) : am_C (d + 5) Y_es_melodies [.inr (.inr 0)] I0 (fun r I' => r = some (.inr (.inl (es_tot (es_Rc I0)))) ∧ am_fr I0 I' [9, 10] ∧ es_i9 I') := by
  refine am_enter ok_es_melodies rfl ?_
  obtain ⟨hv, hfl⟩ := h9
  repeat' (first
    | (refine am_gp 80 [] rfl (by first | trivial | exact Or.inl rfl | exact Or.inr rfl | (simp (decide := true) only [am_p, am_u_at, am_u_j, am_u_ne]; omega) | (simp (decide := true) only [am_p, and_true, true_and, true_or, or_true, am_u_at, am_u_j, am_u_ne]; omega) | (simp (decide := true) [am_p, am_u_at, am_u_j, am_u_ne]; omega)) ?_)
    | (show am_V _ _ _ _ _ _ _; simp only [Int.reduceToNat])
    | (refine am_bt rfl (by first | omega | (simp (decide := true) only [am_u_at, am_u_j, am_u_ne]; omega)) (by first | omega | (simp (decide := true) only [am_u_at, am_u_j, am_u_ne]; omega)) ?_)
    | (refine am_bf rfl (by first | omega | (simp (decide := true) only [am_u_at, am_u_j, am_u_ne]; omega)) (by first | omega | (simp (decide := true) only [am_u_at, am_u_j, am_u_ne]; omega)) ?_)
    | (refine am_br rfl (by first | omega | (simp (decide := true) only [am_u_at, am_u_j, am_u_ne]; omega)) (fun h => ?_) (fun h => ?_))
    | (refine am_cU (y' := Y_mt_fill) rfl lk_es_114_ct ok_mt_fill rfl rfl rfl (c_ct_fill _ I0 hr hv hfl) ?_; rintro r I ⟨rfl, hfr, hf1, hvn, hrows⟩)
    | (refine am_cU (y' := Y_mt_total) rfl lk_es_117_ct ok_mt_total rfl rfl rfl (c_ct_tot _ _ I0 (hfr 7 rfl) (hfr 8 rfl) hr hvn hrows) ?_; rintro r I ⟨rfl, rfl⟩)
    | (refine am_rt rfl (by first | trivial | exact Or.inl rfl | exact Or.inr rfl) ?_))
  exact ⟨rfl, hfr, es_i9_mk (hfr 7 rfl) (hfr 8 rfl) hvn hf1 hrows⟩
theorem c_es_melody (d : Nat) (k : Int) (I0 : am_I) (hk : -9223372036854775808 ≤ k ∧ k < 9223372036854775808) (hr : es_rb I0) (h9 : es_i9 I0) : am_C (d + 5) Y_es_melody [.inr (.inr 0), .inr (.inl k)] I0 (fun r I' => (k < 0 ∧ r = some (.inl (-2)) ∧ I' = I0) ∨ ((0 ≤ k ∧ es_tot (es_Rc I0) ≤ k) ∧ r = some (.inl (-1)) ∧ am_fr I0 I' [9, 10] ∧ es_i9 I') ∨ ((0 ≤ k ∧ k < es_tot (es_Rc I0)) ∧ r = some (.inl 1) ∧ am_fr I0 I' [1, 2, 3, 9, 10, 23] ∧ es_i9 I' ∧ I' 23 9 = 0 ∧ I' 1 2 = I0 7 3 ∧ ∀ j : Nat, (j : Int) < I0 7 3 → I' 2 j = (es_sp (es_Rc I0) k (j + 1)).1 ∧ I' 3 j = 24)) := by
  refine am_enter ok_es_melody rfl ?_
  obtain ⟨hv, hfl⟩ := h9
  have htd : 0 ≤ es_tot (es_Rc I0) ∧ es_tot (es_Rc I0) ≤ 1000000000000000000 := es_fc_D (fun q => es_g_mo_D _ _ _ _) _ _
  repeat' (first
    | (refine am_gp 80 [] rfl (by first | trivial | exact Or.inl rfl | exact Or.inr rfl | (simp (decide := true) only [am_p, am_u_at, am_u_j, am_u_ne]; omega) | (simp (decide := true) only [am_p, and_true, true_and, true_or, or_true, am_u_at, am_u_j, am_u_ne]; omega) | (simp (decide := true) [am_p, am_u_at, am_u_j, am_u_ne]; omega)) ?_)
    | (show am_V _ _ _ _ _ _ _; simp only [Int.reduceToNat])
    | (refine am_bt rfl (by first | omega | (simp (decide := true) only [am_u_at, am_u_j, am_u_ne]; omega)) (by first | omega | (simp (decide := true) only [am_u_at, am_u_j, am_u_ne]; omega)) ?_)
    | (refine am_bf rfl (by first | omega | (simp (decide := true) only [am_u_at, am_u_j, am_u_ne]; omega)) (by first | omega | (simp (decide := true) only [am_u_at, am_u_j, am_u_ne]; omega)) ?_)
    | (refine am_br rfl (by first | omega | (simp (decide := true) only [am_u_at, am_u_j, am_u_ne]; omega)) (fun h => ?_) (fun h => ?_))
    | (refine am_cU (y' := Y_mt_fill) rfl lk_es_114_ct ok_mt_fill rfl rfl rfl (c_ct_fill _ I0 hr hv hfl) ?_; rintro r I ⟨rfl, hfr, hf1, hvn, hrows⟩)
    | (refine am_cU (y' := Y_mt_total) rfl lk_es_117_ct ok_mt_total rfl rfl rfl (c_ct_tot _ _ I0 (hfr 7 rfl) (hfr 8 rfl) hr hvn hrows) ?_; rintro r I ⟨rfl, rfl⟩)
    | (refine am_cV (y' := Y_ct_spell) rfl lk_es_121_ct ok_ct_spell rfl rfl rfl (c_ct_spell _ _ _ I0 (hfr 7 rfl) (hfr 8 rfl) hr hrows (by first | omega | (simp (decide := true) only [am_u_at, am_u_j, am_u_ne]; omega))) ?_; rintro r I ⟨rfl, hfs, hsz, hsp⟩)
    | (refine am_cV (y' := Y_ju_forget) rfl lk_es_84 ok_ju_forget rfl rfl rfl (c_ju_forget _ _) ?_; rintro r I ⟨rfl, rfl⟩)
    | (refine am_rt rfl (by first | trivial | exact Or.inl rfl | exact Or.inr rfl) ?_))
  · refine Or.inr (Or.inr ⟨⟨by omega, by omega⟩, rfl, ?_, ?_, ?_, ?_, ?_⟩)
    · exact ((hfr.wd rfl).tr (hfs.wd rfl)).u _ _ rfl
    · refine es_i9_mk (J := I0) ?_ ?_ ?_ ?_ ?_
      · rw [am_u_ne (by decide), hfs 7 rfl, hfr 7 rfl]
      · rw [am_u_ne (by decide), hfs 8 rfl, hfr 8 rfl]
      · intro j
        rw [am_u_ne (by decide), hfs 10 rfl]
        exact hvn j
      · rw [am_u_ne (by decide), hfs 9 rfl]
        exact hf1
      · intro p h1 h2
        refine es_row_ct_u (hrows p h1 h2) (fun q t _ _ _ => ?_)
        rw [am_u_ne (by decide), hfs 10 rfl]
    · simp (decide := true) only [am_u_at, am_u_j, am_u_ne]
    · rw [am_u_ne (by decide)]
      exact hsz
    · intro j hj
      rw [am_u_ne (by decide), am_u_ne (by decide)]
      exact hsp j hj
  · exact Or.inr (Or.inl ⟨⟨by omega, by omega⟩, rfl, hfr, es_i9_mk (hfr 7 rfl) (hfr 8 rfl) hvn hf1 hrows⟩)
  · exact Or.inl ⟨by omega, rfl, rfl⟩
theorem c_es_place (d : Nat) (I0 : am_I) (hr : es_rb I0) (h9 : es_i9 I0) (hn : 0 ≤ I0 1 2 ∧ I0 1 2 ≤ 24) (hp2 : ∀ j : Nat, (j : Int) < I0 1 2 → 0 ≤ I0 2 j ∧ I0 2 j ≤ 127) : am_C (d + 5) Y_es_place [.inr (.inr 0)] I0 (fun r I' => (I0 1 2 ≠ I0 7 3 ∧ r = some (.inr (.inl (-1))) ∧ I' = I0) ∨ (I0 1 2 = I0 7 3 ∧ r = some (.inr (.inl (es_ah (es_Rc I0) (I0 2) (I0 7 3).toNat 0 (I0 7 1) 0 0))) ∧ am_fr I0 I' [9, 10] ∧ es_i9 I')) := by
  refine am_enter ok_es_place rfl ?_
  obtain ⟨hv, hfl⟩ := h9
  obtain ⟨r1, r2, r3, r4⟩ := id hr
  repeat' (first
    | (refine am_gp 80 [21] rfl (by first | trivial | exact Or.inl rfl | exact Or.inr rfl | (simp (decide := true) only [am_p, am_u_at, am_u_j, am_u_ne]; omega) | (simp (decide := true) only [am_p, and_true, true_and, true_or, or_true, am_u_at, am_u_j, am_u_ne]; omega) | (simp (decide := true) [am_p, am_u_at, am_u_j, am_u_ne]; omega)) ?_)
    | (show am_V _ _ _ _ _ _ _; simp only [Int.reduceToNat])
    | (refine am_bt rfl (by first | omega | (simp (decide := true) only [am_u_at, am_u_j, am_u_ne]; omega)) (by first | omega | (simp (decide := true) only [am_u_at, am_u_j, am_u_ne]; omega)) ?_)
    | (refine am_bf rfl (by first | omega | (simp (decide := true) only [am_u_at, am_u_j, am_u_ne]; omega)) (by first | omega | (simp (decide := true) only [am_u_at, am_u_j, am_u_ne]; omega)) ?_)
    | (refine am_br rfl (by first | omega | (simp (decide := true) only [am_u_at, am_u_j, am_u_ne]; omega)) (fun h => ?_) (fun h => ?_))
    | (refine am_rt rfl (by first | trivial | exact Or.inl rfl | exact Or.inr rfl) ?_))
  · have hpt : ∀ j : Nat, (j : Int) < I0 7 3 → 0 ≤ I0 2 j ∧ I0 2 j ≤ 127 := fun j hj => hp2 j (by omega)
    repeat' (first
      | (refine am_gp 80 [] rfl (by first | trivial | exact Or.inl rfl | exact Or.inr rfl | (simp (decide := true) only [am_p, am_u_at, am_u_j, am_u_ne]; omega) | (simp (decide := true) only [am_p, and_true, true_and, true_or, or_true, am_u_at, am_u_j, am_u_ne]; omega) | (simp (decide := true) [am_p, am_u_at, am_u_j, am_u_ne]; omega)) ?_)
      | (show am_V _ _ _ _ _ _ _; simp only [Int.reduceToNat])
      | (refine am_bt rfl (by first | omega | (simp (decide := true) only [am_u_at, am_u_j, am_u_ne]; omega)) (by first | omega | (simp (decide := true) only [am_u_at, am_u_j, am_u_ne]; omega)) ?_)
      | (refine am_bf rfl (by first | omega | (simp (decide := true) only [am_u_at, am_u_j, am_u_ne]; omega)) (by first | omega | (simp (decide := true) only [am_u_at, am_u_j, am_u_ne]; omega)) ?_)
      | (refine am_br rfl (by first | omega | (simp (decide := true) only [am_u_at, am_u_j, am_u_ne]; omega)) (fun h => ?_) (fun h => ?_))
      | (refine am_cU (y' := Y_mt_fill) rfl lk_es_114_ct ok_mt_fill rfl rfl rfl (c_ct_fill _ I0 hr hv hfl) ?_; rintro r I ⟨rfl, hfr, hf1, hvn, hrows⟩)
      | (refine am_cV (y' := Y_ct_ahead) rfl lk_es_127_ct ok_ct_ahead rfl rfl rfl (c_ct_ahead _ _ I0 (hfr 7 rfl) (hfr 8 rfl) hr hrows (by rw [hfr 1 rfl]; omega) (by rw [hfr 2 rfl]; exact hpt)) ?_; rintro r I ⟨rfl, rfl⟩)
      | (refine am_rt rfl (by first | trivial | exact Or.inl rfl | exact Or.inr rfl) ?_))
    refine Or.inr ⟨by omega, ?_, hfr, es_i9_mk (hfr 7 rfl) (hfr 8 rfl) hvn hf1 hrows⟩
    rw [hfr 2 rfl]
  · exact Or.inl ⟨by omega, rfl, rfl⟩
