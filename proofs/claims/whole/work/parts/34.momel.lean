theorem c_mo_melody (d : Nat) (k : Int) (I0 : am_I) (hk : -9223372036854775808 ≤ k ∧ k < 9223372036854775808) (hr : es_rm (I0 44)) : am_C (d + 5) Y_mo_melody [.inr (.inr 44), .inr (.inl k)] I0 (fun r I' => (k < 0 ∧ r = some (.inl (-2)) ∧ I' = I0) ∨ ((0 ≤ k ∧ es_tot (es_cut (I0 44)) ≤ k) ∧ r = some (.inl (-1)) ∧ am_fr I0 I' [54]) ∨ ((0 ≤ k ∧ k < es_tot (es_cut (I0 44))) ∧ r = some (.inl 1) ∧ am_fr I0 I' [44, 45, 46, 54] ∧ I' 44 = am_up (am_up (I0 44) 0 (I0 44 9)) 6 0 ∧ ∀ j : Nat, (j : Int) < I0 44 9 → I' 45 j = (es_sp (es_cut (I0 44)) k (j + 1)).1 ∧ I' 46 j = 24)) := by
  refine am_enter ok_mo_melody rfl ?_
  obtain ⟨r1, r2, r3, r4⟩ := id hr
  have hrR : es_rm (es_cut (I0 44)) := hr
  have htd : 0 ≤ es_tot (es_cut (I0 44)) ∧ es_tot (es_cut (I0 44)) ≤ 1000000000000000000 := es_fc_D (fun q => es_g_mo_D _ _ _ _) _ _
  have htt : es_tot (I0 44) = es_tot (es_cut (I0 44)) := rfl
  have R7 : es_cut (I0 44) 7 = I0 44 7 := rfl
  have R8 : es_cut (I0 44) 8 = I0 44 8 := rfl
  have R9 : es_cut (I0 44) 9 = I0 44 9 := rfl
  have R13 : es_cut (I0 44) 13 = I0 44 13 := rfl
  have R14 : es_cut (I0 44) 14 = I0 44 14 := rfl
  have R15 : es_cut (I0 44) 15 = I0 44 15 := rfl
  have main : ∀ I1 : am_I, am_fr I0 I1 [54] → (∀ i : Int, 0 ≤ i → i < I0 44 9 → es_row_mo (I0 44) (I1 54) i) → (0 ≤ k ∧ k < es_tot (es_cut (I0 44))) → am_V (d + 5) Y_mo_melody (fun r I' => (k < 0 ∧ r = some (.inl (-2)) ∧ I' = I0) ∨ ((0 ≤ k ∧ es_tot (es_cut (I0 44)) ≤ k) ∧ r = some (.inl (-1)) ∧ am_fr I0 I' [54]) ∨ ((0 ≤ k ∧ k < es_tot (es_cut (I0 44))) ∧ r = some (.inl 1) ∧ am_fr I0 I' [44, 45, 46, 54] ∧ I' 44 = am_up (am_up (I0 44) 0 (I0 44 9)) 6 0 ∧ ∀ j : Nat, (j : Int) < I0 44 9 → I' 45 j = (es_sp (es_cut (I0 44)) k (j + 1)).1 ∧ I' 46 j = 24)) 36 [(0, .inr (.inr 44)), (1, .inr (.inl k)), (3, .inr (.inl k)), (5, .inl 0), (6, .inl 0)] [] I1 := by
    intro I1 hfr hrows hkt
    have hal := es_sp_al hrR hkt
    have loopi : ∀ (m i : Nat) (I : am_I), (i : Int) ≤ I0 44 9 → I0 44 9 - i < m → am_fr I0 I [45, 46, 54] → I 54 = I1 54 → (∀ j : Nat, j < i → I 45 j = (es_sp (es_cut (I0 44)) k (j + 1)).1 ∧ I 46 j = 24) → am_V (d + 5) Y_mo_melody (fun r I' => (k < 0 ∧ r = some (.inl (-2)) ∧ I' = I0) ∨ ((0 ≤ k ∧ es_tot (es_cut (I0 44)) ≤ k) ∧ r = some (.inl (-1)) ∧ am_fr I0 I' [54]) ∨ ((0 ≤ k ∧ k < es_tot (es_cut (I0 44))) ∧ r = some (.inl 1) ∧ am_fr I0 I' [44, 45, 46, 54] ∧ I' 44 = am_up (am_up (I0 44) 0 (I0 44 9)) 6 0 ∧ ∀ j : Nat, (j : Int) < I0 44 9 → I' 45 j = (es_sp (es_cut (I0 44)) k (j + 1)).1 ∧ I' 46 j = 24)) 36 [(0, .inr (.inr 44)), (1, .inr (.inl k)), (3, .inr (.inl (es_sp (es_cut (I0 44)) k i).2.2)), (5, .inl (es_sp (es_cut (I0 44)) k i).2.1), (6, .inl i)] [] I := by
      intro m
      induction m with
      | zero => intro i I h1 h2; omega
      | succ m ih =>
        intro i I h1 h2 hf h54 hin
        have e44 : I 44 = I0 44 := hf 44 rfl
        have e7 : I 44 7 = I0 44 7 := congrFun e44 7
        have e8 : I 44 8 = I0 44 8 := congrFun e44 8
        have e9 : I 44 9 = I0 44 9 := congrFun e44 9
        have e14 : I 44 14 = I0 44 14 := congrFun e44 14
        have e15 : I 44 15 = I0 44 15 := congrFun e44 15
        have ha := hal i (by omega)
        have hst : (i : Int) < I0 44 9 → _ := fun h => es_st_al hrR (i := i) ⟨by omega, by omega⟩ ha
        have hsp : es_sp (es_cut (I0 44)) k (i + 1) = es_st (es_cut (I0 44)) i (es_sp (es_cut (I0 44)) k i) := rfl
        obtain ⟨a1, a2, a3, a4⟩ := ha
        rw [R7, R8] at a1
        have hprev : 0 < (i : Int) → I 45 ((i : Int) - 1).toNat = (es_sp (es_cut (I0 44)) k i).1 := by
          intro h
          have h5 := (hin ((i : Int) - 1).toNat (by omega)).1
          rw [show ((i : Int) - 1).toNat + 1 = i by omega] at h5
          exact h5
        generalize es_sp (es_cut (I0 44)) k i = x at *
        have fin : ∀ (q l q2 u : Int), (i : Int) < I0 44 9 → q = (es_sp (es_cut (I0 44)) k (i + 1)).1 → l = (es_sp (es_cut (I0 44)) k (i + 1)).2.2 → u = (es_sp (es_cut (I0 44)) k (i + 1)).2.1 → (0 ≤ q2 ∧ q2 ≤ 200) → am_V (d + 5) Y_mo_melody (fun r I' => (k < 0 ∧ r = some (.inl (-2)) ∧ I' = I0) ∨ ((0 ≤ k ∧ es_tot (es_cut (I0 44)) ≤ k) ∧ r = some (.inl (-1)) ∧ am_fr I0 I' [54]) ∨ ((0 ≤ k ∧ k < es_tot (es_cut (I0 44))) ∧ r = some (.inl 1) ∧ am_fr I0 I' [44, 45, 46, 54] ∧ I' 44 = am_up (am_up (I0 44) 0 (I0 44 9)) 6 0 ∧ ∀ j : Nat, (j : Int) < I0 44 9 → I' 45 j = (es_sp (es_cut (I0 44)) k (j + 1)).1 ∧ I' 46 j = 24)) 54 [(0, .inr (.inr 44)), (1, .inr (.inl k)), (3, .inr (.inl l)), (5, .inl u), (6, .inl i), (7, .inl 1), (8, .inl q2)] [] (am_u (am_u I 45 (i : Int).toNat q) 46 (i : Int).toNat 24) := by
          intro q l q2 u hin9 hq hl hu hq2
          have h9 := ih (i + 1) (am_u (am_u I 45 (i : Int).toNat q) 46 (i : Int).toNat 24) (by omega) (by omega) ((hf.u _ _ rfl).u _ _ rfl) (by rw [am_u_ne (by decide), am_u_ne (by decide)]; exact h54) ?_
          · rw [← hl, ← hu, show ((i + 1 : Nat) : Int) = (i : Int) + 1 by omega] at h9
            repeat' (first
              | (refine am_gp 80 [36] rfl (by first | trivial | exact Or.inl rfl | exact Or.inr rfl | (simp (decide := true) only [am_p, am_u_at, am_u_j, am_u_ne]; omega) | (simp (decide := true) only [am_p, and_true, true_and, true_or, or_true, am_u_at, am_u_j, am_u_ne]; omega) | (simp (decide := true) [am_p, am_u_at, am_u_j, am_u_ne]; omega)) ?_)
              | (show am_V _ _ _ _ _ _ _; simp only [Int.reduceToNat])
              | (refine am_bt rfl (by first | omega | (simp (decide := true) only [am_u_at, am_u_j, am_u_ne]; omega)) (by first | omega | (simp (decide := true) only [am_u_at, am_u_j, am_u_ne]; omega)) ?_)
              | (refine am_bf rfl (by first | omega | (simp (decide := true) only [am_u_at, am_u_j, am_u_ne]; omega)) (by first | omega | (simp (decide := true) only [am_u_at, am_u_j, am_u_ne]; omega)) ?_)
              | (refine am_br rfl (by first | omega | (simp (decide := true) only [am_u_at, am_u_j, am_u_ne]; omega)) (fun h => ?_) (fun h => ?_))
              | (refine am_rt rfl (by first | trivial | exact Or.inl rfl | exact Or.inr rfl) ?_))
            · exact am_wk [7, 8] h9
            · exact am_wk [7, 8] h9
          · intro j hj
            simp (decide := true) only [am_u_at, am_u_j, am_u_ne]
            rw [am_u_eq, am_u_eq, show (i : Int).toNat = i by omega]
            by_cases c : j = i
            · rw [c, am_up_eq, am_up_eq]
              exact ⟨hq, rfl⟩
            · rw [am_up_ne c, am_up_ne c]
              exact hin j (by omega)
        have loopq : ∀ (n : Nat) (q l : Int), (i : Int) < I0 44 9 → I0 44 7 ≤ q → q ≤ I0 44 8 + 1 → I0 44 8 + 1 - q < n → 0 ≤ l → l ≤ 1000000000000000000 → l < es_fd es_oc 0 (es_w (es_cut (I0 44)) i x.1 x.2.1) q (I0 44 8 + 1 - q).toNat → es_pk (es_w (es_cut (I0 44)) i x.1 x.2.1) q (I0 44 8 + 1 - q).toNat l = es_pk (es_w (es_cut (I0 44)) i x.1 x.2.1) (I0 44 7) (I0 44 8 + 1 - I0 44 7).toNat x.2.2 → am_V (d + 5) Y_mo_melody (fun r I' => (k < 0 ∧ r = some (.inl (-2)) ∧ I' = I0) ∨ ((0 ≤ k ∧ es_tot (es_cut (I0 44)) ≤ k) ∧ r = some (.inl (-1)) ∧ am_fr I0 I' [54]) ∨ ((0 ≤ k ∧ k < es_tot (es_cut (I0 44))) ∧ r = some (.inl 1) ∧ am_fr I0 I' [44, 45, 46, 54] ∧ I' 44 = am_up (am_up (I0 44) 0 (I0 44 9)) 6 0 ∧ ∀ j : Nat, (j : Int) < I0 44 9 → I' 45 j = (es_sp (es_cut (I0 44)) k (j + 1)).1 ∧ I' 46 j = 24)) 54 [(0, .inr (.inr 44)), (1, .inr (.inl k)), (3, .inr (.inl l)), (5, .inl x.2.1), (6, .inl i), (7, .inl 0), (8, .inl q)] [] I := by
          intro n
          induction n with
          | zero => intro q l g0 g1 g2 g3; omega
          | succ n ihq =>
            intro q l g0 g1 g2 g3 g4 g5 g6 g7
            have hq8 : q ≤ I0 44 8 := by
              refine Classical.byContradiction (fun c => ?_)
              rw [show (I0 44 8 + 1 - q).toNat = 0 by omega] at g6
              have e3 : es_fd es_oc 0 (es_w (es_cut (I0 44)) i x.1 x.2.1) q 0 = 0 := rfl
              omega
            have hwd := es_w_D (es_cut (I0 44)) i x.1 x.2.1 q
            unfold es_Dc at hwd
            have em : (I0 44 8 + 1 - q).toNat = (I0 44 8 + 1 - (q + 1)).toNat + 1 := by omega
            rw [em, es_fd_l es_mc (fun z => es_w_D _ _ _ _ _)] at g6
            have g6' : l < min 1000000000000000000 (es_w (es_cut (I0 44)) i x.1 x.2.1 q + es_fd es_oc 0 (es_w (es_cut (I0 44)) i x.1 x.2.1) (q + 1) (I0 44 8 + 1 - (q + 1)).toNat) := g6
            rw [em] at g7
            have done : l < es_w (es_cut (I0 44)) i x.1 x.2.1 q → q = (es_sp (es_cut (I0 44)) k (i + 1)).1 ∧ l = (es_sp (es_cut (I0 44)) k (i + 1)).2.2 ∧ es_us (es_cut (I0 44)) i x.1 x.2.1 q = (es_sp (es_cut (I0 44)) k (i + 1)).2.1 := by
              intro hl
              have e1 : es_pk (es_w (es_cut (I0 44)) i x.1 x.2.1) q ((I0 44 8 + 1 - (q + 1)).toNat + 1) l = (q, l) := by
                show (if l < es_w (es_cut (I0 44)) i x.1 x.2.1 q then (q, l) else _) = _
                rw [if_pos hl]
              rw [e1] at g7
              rw [hsp]
              unfold es_st
              rw [R7, R8, ← g7]
              exact ⟨rfl, rfl, rfl⟩
            have cont : ¬ l < es_w (es_cut (I0 44)) i x.1 x.2.1 q → am_V (d + 5) Y_mo_melody (fun r I' => (k < 0 ∧ r = some (.inl (-2)) ∧ I' = I0) ∨ ((0 ≤ k ∧ es_tot (es_cut (I0 44)) ≤ k) ∧ r = some (.inl (-1)) ∧ am_fr I0 I' [54]) ∨ ((0 ≤ k ∧ k < es_tot (es_cut (I0 44))) ∧ r = some (.inl 1) ∧ am_fr I0 I' [44, 45, 46, 54] ∧ I' 44 = am_up (am_up (I0 44) 0 (I0 44 9)) 6 0 ∧ ∀ j : Nat, (j : Int) < I0 44 9 → I' 45 j = (es_sp (es_cut (I0 44)) k (j + 1)).1 ∧ I' 46 j = 24)) 54 [(0, .inr (.inr 44)), (1, .inr (.inl k)), (3, .inr (.inl (l - es_w (es_cut (I0 44)) i x.1 x.2.1 q))), (5, .inl x.2.1), (6, .inl i), (7, .inl 0), (8, .inl (q + 1))] [] I := by
              intro hl
              have g8 : es_pk (es_w (es_cut (I0 44)) i x.1 x.2.1) q ((I0 44 8 + 1 - (q + 1)).toNat + 1) l = es_pk (es_w (es_cut (I0 44)) i x.1 x.2.1) (q + 1) (I0 44 8 + 1 - (q + 1)).toNat (l - es_w (es_cut (I0 44)) i x.1 x.2.1 q) := by
                show (if l < es_w (es_cut (I0 44)) i x.1 x.2.1 q then (q, l) else _) = _
                rw [if_neg hl]
              exact ihq (q + 1) _ g0 (by omega) (by omega) (by omega) (by omega) (by omega) (by omega) (g8.symm.trans g7)
            have hbr := es_bh_rng (I 44 13) (I 44 14) (I 44 15) x.2.1 (q - I 45 ((i : Int) - 1).toNat) (by omega) a2
            have hw0 : (i : Int) = 0 → I 54 ((37 * (i : Int) + (q - I 44 7)) * 18 + 0).toNat = es_w (es_cut (I0 44)) i x.1 x.2.1 q ∧ es_us (es_cut (I0 44)) i x.1 x.2.1 q = 0 := by
              intro hi0
              rw [h54, e7, hrows i (by omega) (by omega) q 0 (by omega) (by omega) (by omega) (by omega)]
              unfold es_w es_us
              rw [R7, R8, R9, if_pos ⟨by omega, by omega⟩, if_pos hi0, if_pos hi0, show I0 44 9 - 1 - (i : Int) = I0 44 9 - 1 by omega]
              exact ⟨rfl, rfl⟩
            have hw1 : (i : Int) ≠ 0 → es_bh (I 44 13) (I 44 14) (I 44 15) x.2.1 (q - I 45 ((i : Int) - 1).toNat) ≠ -1 → I 54 ((37 * (i : Int) + (q - I 44 7)) * 18 + es_bh (I 44 13) (I 44 14) (I 44 15) x.2.1 (q - I 45 ((i : Int) - 1).toNat)).toNat = es_w (es_cut (I0 44)) i x.1 x.2.1 q ∧ es_us (es_cut (I0 44)) i x.1 x.2.1 q = es_bh (I 44 13) (I 44 14) (I 44 15) x.2.1 (q - I 45 ((i : Int) - 1).toNat) := by
              intro hi0 hb1
              rw [hprev (by omega), e44] at hb1 hbr
              rw [hprev (by omega), h54, e44, hrows i (by omega) (by omega) q _ (by omega) (by omega) (by omega) (by omega)]
              unfold es_w es_us
              rw [R7, R8, R9, if_pos ⟨by omega, by omega⟩, if_neg hi0, if_neg hi0]
              unfold es_f_mo
              rw [R13, R14, R15, if_neg hb1]
              exact ⟨rfl, rfl⟩
            have hw2 : (i : Int) ≠ 0 → es_bh (I 44 13) (I 44 14) (I 44 15) x.2.1 (q - I 45 ((i : Int) - 1).toNat) = -1 → es_w (es_cut (I0 44)) i x.1 x.2.1 q = 0 := by
              intro hi0 hb1
              rw [hprev (by omega), e44] at hb1
              unfold es_w
              rw [R7, R8, R9, if_pos ⟨by omega, by omega⟩, if_neg hi0]
              unfold es_f_mo
              rw [R13, R14, R15, if_pos hb1]
            refine am_go 1 [] rfl trivial ?_
            repeat' (first
              | (refine am_gp 80 [54, 36] rfl (by first | trivial | exact Or.inl rfl | exact Or.inr rfl | (simp (decide := true) only [am_p, am_u_at, am_u_j, am_u_ne]; omega) | (simp (decide := true) only [am_p, and_true, true_and, true_or, or_true, am_u_at, am_u_j, am_u_ne]; omega) | (simp (decide := true) [am_p, am_u_at, am_u_j, am_u_ne]; omega)) ?_)
              | (show am_V _ _ _ _ _ _ _; simp only [Int.reduceToNat])
              | (refine am_bt rfl (by first | omega | (simp (decide := true) only [am_u_at, am_u_j, am_u_ne]; omega)) (by first | omega | (simp (decide := true) only [am_u_at, am_u_j, am_u_ne]; omega)) ?_)
              | (refine am_bf rfl (by first | omega | (simp (decide := true) only [am_u_at, am_u_j, am_u_ne]; omega)) (by first | omega | (simp (decide := true) only [am_u_at, am_u_j, am_u_ne]; omega)) ?_)
              | (refine am_br rfl (by first | omega | (simp (decide := true) only [am_u_at, am_u_j, am_u_ne]; omega)) (fun h => ?_) (fun h => ?_))
              | (refine am_cV (y' := Y_mo_behind) rfl lk_mo_158 ok_mo_behind rfl rfl rfl (c_behind _ _ _ _ (by first | omega | (simp (decide := true) only [am_u_at, am_u_j, am_u_ne]; omega)) (by first | omega | (simp (decide := true) only [am_u_at, am_u_j, am_u_ne]; omega)) (by first | omega | (simp (decide := true) only [am_u_at, am_u_j, am_u_ne]; omega)) (by first | omega | (simp (decide := true) only [am_u_at, am_u_j, am_u_ne]; omega))) ?_; rintro r I ⟨rfl, rfl⟩)
              | (refine am_cS (y' := Y_mo_cellAt) rfl lk_mo_147 ok_mo_cellAt rfl rfl (c_cellAt _ _ _ _ _) ?_; rintro r I ⟨rfl, rfl⟩)
              | (refine am_cV (y' := Y_mo_lay) rfl lk_mo_173 ok_mo_lay rfl rfl rfl (c_lay _ _ _ _ _ (by first | omega | (simp (decide := true) only [am_u_at, am_u_j, am_u_ne]; omega))) ?_; rintro r I ⟨rfl, rfl⟩)
              | (refine am_rt rfl (by first | trivial | exact Or.inl rfl | exact Or.inr rfl) ?_))
            · refine am_wk [9, 10] ?_
              rw [(hw1 (by omega) (by omega)).1]
              exact cont (by omega)
            · refine am_wk [9, 10] ?_
              have hd := done (by omega)
              exact fin q l (q + 1) _ g0 hd.1 hd.2.1 ((hw1 (by omega) (by omega)).2.symm.trans hd.2.2) (by omega)
            · refine am_wk [9, 10] ?_
              have h9 := cont (by rw [hw2 (by omega) (by omega)]; omega)
              rw [hw2 (by omega) (by omega)] at h9
              exact h9
            · refine am_wk [9, 10] ?_
              rw [(hw0 (by omega)).1]
              exact cont (by omega)
            · refine am_wk [9, 10] ?_
              have hd := done (by omega)
              exact fin q l (q + 1) _ g0 hd.1 hd.2.1 ((hw0 (by omega)).2.symm.trans hd.2.2) (by omega)
        refine am_go 1 [] rfl trivial ?_
        repeat' (first
          | (refine am_gp 80 [54] rfl (by first | trivial | exact Or.inl rfl | exact Or.inr rfl | (simp (decide := true) only [am_p, am_u_at, am_u_j, am_u_ne]; omega) | (simp (decide := true) only [am_p, and_true, true_and, true_or, or_true, am_u_at, am_u_j, am_u_ne]; omega) | (simp (decide := true) [am_p, am_u_at, am_u_j, am_u_ne]; omega)) ?_)
          | (show am_V _ _ _ _ _ _ _; simp only [Int.reduceToNat])
          | (refine am_bt rfl (by first | omega | (simp (decide := true) only [am_u_at, am_u_j, am_u_ne]; omega)) (by first | omega | (simp (decide := true) only [am_u_at, am_u_j, am_u_ne]; omega)) ?_)
          | (refine am_bf rfl (by first | omega | (simp (decide := true) only [am_u_at, am_u_j, am_u_ne]; omega)) (by first | omega | (simp (decide := true) only [am_u_at, am_u_j, am_u_ne]; omega)) ?_)
          | (refine am_br rfl (by first | omega | (simp (decide := true) only [am_u_at, am_u_j, am_u_ne]; omega)) (fun h => ?_) (fun h => ?_))
          | (refine am_cV (y' := Y_mo_laid) rfl lk_mo_177 ok_mo_laid rfl rfl rfl (c_laid _ _ _) ?_; rintro r I ⟨rfl, rfl⟩)
          | (refine am_rt rfl (by first | trivial | exact Or.inl rfl | exact Or.inr rfl) ?_))
        · have ei : (i : Int) = I0 44 9 := by omega
          refine Or.inr (Or.inr ⟨hkt, rfl, ((hf.wd rfl).u _ _ rfl).u _ _ rfl, ?_, ?_⟩)
          · rw [am_u_eq, am_u_eq, e44]
          · intro j hj
            rw [am_u_ne (by decide), am_u_ne (by decide), am_u_ne (by decide), am_u_ne (by decide)]
            exact hin j (by omega)
        · rw [e7]
          rw [R7, R8, R9] at a4
          have a5 := a4 (by omega)
          have a6 := es_fc_D (f := es_w (es_cut (I0 44)) i x.1 x.2.1) (fun z => es_w_D _ _ _ _ _) (I0 44 7) (I0 44 8 + 1 - I0 44 7).toNat
          exact loopq 200 (I0 44 7) x.2.2 (by omega) (by omega) (by omega) (by omega) a3 (by omega) a5 rfl
    exact loopi 17 0 I1 (by omega) (by omega) (hfr.wd rfl) rfl (fun j hj => by omega)
  repeat' (first
    | (refine am_gp 80 [36] rfl (by first | trivial | exact Or.inl rfl | exact Or.inr rfl | (simp (decide := true) only [am_p, am_u_at, am_u_j, am_u_ne]; omega) | (simp (decide := true) only [am_p, and_true, true_and, true_or, or_true, am_u_at, am_u_j, am_u_ne]; omega) | (simp (decide := true) [am_p, am_u_at, am_u_j, am_u_ne]; omega)) ?_)
    | (show am_V _ _ _ _ _ _ _; simp only [Int.reduceToNat])
    | (refine am_bt rfl (by first | omega | (simp (decide := true) only [am_u_at, am_u_j, am_u_ne]; omega)) (by first | omega | (simp (decide := true) only [am_u_at, am_u_j, am_u_ne]; omega)) ?_)
    | (refine am_bf rfl (by first | omega | (simp (decide := true) only [am_u_at, am_u_j, am_u_ne]; omega)) (by first | omega | (simp (decide := true) only [am_u_at, am_u_j, am_u_ne]; omega)) ?_)
    | (refine am_br rfl (by first | omega | (simp (decide := true) only [am_u_at, am_u_j, am_u_ne]; omega)) (fun h => ?_) (fun h => ?_))
    | (refine am_cV (y' := Y_mo_melodies) rfl lk_mo_169 ok_mo_melodies rfl rfl rfl (c_mo_melodies _ _ hr) ?_; rintro r I ⟨rfl, hfr, hrows⟩)
    | (refine am_rt rfl (by first | trivial | exact Or.inl rfl | exact Or.inr rfl) ?_))
  · exact Or.inr (Or.inl ⟨⟨by omega, by omega⟩, rfl, hfr⟩)
  · exact main _ hfr hrows ⟨by omega, by omega⟩
  · exact Or.inl ⟨by omega, rfl, rfl⟩
theorem es_w_g2 {R : Nat → Int} {i b u q : Int} (h1 : R 7 ≤ q ∧ q ≤ R 8) (h3 : es_us R i b u q ≠ -1) : es_w R i b u q = es_g_mo R (R 9 - 1 - i).toNat q (es_us R i b u q) := by
  unfold es_w
  unfold es_us at h3 ⊢
  rw [if_pos h1]
  by_cases h2 : i = 0
  · rw [if_pos h2, if_pos h2, h2, show R 9 - 1 - 0 = R 9 - 1 by omega]
  · rw [if_neg h2] at h3
    rw [if_neg h2, if_neg h2]
    unfold es_f_mo
    rw [if_neg h3]
    rfl
theorem c_mo_place (d : Nat) (I0 : am_I) (hr : es_rm (I0 44)) (hn : 0 ≤ I0 44 0 ∧ I0 44 0 ≤ 24) (hpt : ∀ j : Nat, (j : Int) < I0 44 0 → 0 ≤ I0 45 j ∧ I0 45 j ≤ 127) : am_C (d + 4) Y_mo_place [.inr (.inr 44)] I0 (fun r I' => (I0 44 0 ≠ I0 44 9 ∧ r = some (.inr (.inl (-1))) ∧ I' = I0) ∨ (I0 44 0 = I0 44 9 ∧ r = some (.inr (.inl (es_ah (es_cut (I0 44)) (I0 45) (I0 44 9).toNat 0 (I0 44 7) 0 0))) ∧ am_fr I0 I' [54])) := by
  refine am_enter ok_mo_place rfl ?_
  obtain ⟨r1, r2, r3, r4⟩ := id hr
  have hrR : es_rm (es_cut (I0 44)) := hr
  have R7 : es_cut (I0 44) 7 = I0 44 7 := rfl
  have R8 : es_cut (I0 44) 8 = I0 44 8 := rfl
  have R9 : es_cut (I0 44) 9 = I0 44 9 := rfl
  have R13 : es_cut (I0 44) 13 = I0 44 13 := rfl
  have R14 : es_cut (I0 44) 14 = I0 44 14 := rfl
  have R15 : es_cut (I0 44) 15 = I0 44 15 := rfl
  generalize hTT : es_ah (es_cut (I0 44)) (I0 45) (I0 44 9).toNat 0 (I0 44 7) 0 0 = TT
  have loopi : ∀ (m i : Nat) (b u s : Int) (I : am_I), am_fr I0 I [54] → (∀ i : Int, 0 ≤ i → i < I0 44 9 → es_row_mo (I0 44) (I 54) i) → I0 44 0 = I0 44 9 → (i : Int) + m = I0 44 9 → (I0 44 7 ≤ b ∧ b ≤ I0 44 8) → (0 < (i : Int) → b = I0 45 ((i : Int) - 1).toNat) → (0 ≤ u ∧ u ≤ 17) → (0 ≤ s ∧ s ≤ 1000000000000000000) → es_ah (es_cut (I0 44)) (I0 45) m i b u s = TT → am_V (d + 4) Y_mo_place (fun r I' => (I0 44 0 ≠ I0 44 9 ∧ r = some (.inr (.inl (-1))) ∧ I' = I0) ∨ (I0 44 0 = I0 44 9 ∧ r = some (.inr (.inl TT)) ∧ am_fr I0 I' [54])) 26 [(0, .inr (.inr 44)), (1, .inr (.inl s)), (3, .inl u), (4, .inl i)] [] I := by
    intro m
    induction m with
    | zero =>
      intro i b u s I hf hrows hn9 h1 h2 h3 h4 h5 h6
      have e9 : I 44 9 = I0 44 9 := by rw [hf 44 rfl]
      have h7 : s = TT := h6
      repeat' (first
        | (refine am_gp 80 [] rfl (by first | trivial | exact Or.inl rfl | exact Or.inr rfl | (simp (decide := true) only [am_p, am_u_at, am_u_j, am_u_ne]; omega) | (simp (decide := true) only [am_p, and_true, true_and, true_or, or_true, am_u_at, am_u_j, am_u_ne]; omega) | (simp (decide := true) [am_p, am_u_at, am_u_j, am_u_ne]; omega)) ?_)
        | (show am_V _ _ _ _ _ _ _; simp only [Int.reduceToNat])
        | (refine am_bt rfl (by first | omega | (simp (decide := true) only [am_u_at, am_u_j, am_u_ne]; omega)) (by first | omega | (simp (decide := true) only [am_u_at, am_u_j, am_u_ne]; omega)) ?_)
        | (refine am_bf rfl (by first | omega | (simp (decide := true) only [am_u_at, am_u_j, am_u_ne]; omega)) (by first | omega | (simp (decide := true) only [am_u_at, am_u_j, am_u_ne]; omega)) ?_)
        | (refine am_br rfl (by first | omega | (simp (decide := true) only [am_u_at, am_u_j, am_u_ne]; omega)) (fun h => ?_) (fun h => ?_))
        | (refine am_rt rfl (by first | trivial | exact Or.inl rfl | exact Or.inr rfl) ?_))
      exact Or.inr ⟨hn9, by rw [h7], hf⟩
    | succ m ih =>
      intro i b u s I hf hrows hn9 h1 h2 h3 h4 h5 h6
      have e44 : I 44 = I0 44 := hf 44 rfl
      have e45 : I 45 = I0 45 := hf 45 rfl
      have e7 : I 44 7 = I0 44 7 := congrFun e44 7
      have e8 : I 44 8 = I0 44 8 := congrFun e44 8
      have e9 : I 44 9 = I0 44 9 := congrFun e44 9
      have e14 : I 44 14 = I0 44 14 := congrFun e44 14
      have e15 : I 44 15 = I0 44 15 := congrFun e44 15
      have ep : (i : Int).toNat = i := by omega
      have ho : I 45 (i : Int).toNat = I0 45 i := by rw [ep, e45]
      have hown := hpt i (by omega)
      have hprev : 0 < (i : Int) → I 45 ((i : Int) - 1).toNat = b := by
        intro h
        rw [e45, h3 h]
      have hwo := es_w_D (es_cut (I0 44)) i b u (I0 45 i)
      unfold es_Dc at hwo
      have hah : (if es_w (es_cut (I0 44)) i b u (I0 45 i) = 0 then es_oc s (es_fd es_oc 0 (es_w (es_cut (I0 44)) i b u) (I0 44 7) (min (I0 45 i) (I0 44 8 + 1) - I0 44 7).toNat) else es_ah (es_cut (I0 44)) (I0 45) m (i + 1) (I0 45 i) (es_us (es_cut (I0 44)) i b u (I0 45 i)) (es_oc s (es_fd es_oc 0 (es_w (es_cut (I0 44)) i b u) (I0 44 7) (min (I0 45 i) (I0 44 8 + 1) - I0 44 7).toNat))) = TT := h6
      have loopq : ∀ (n k : Nat), k ≤ (min (I0 45 i) (I0 44 8 + 1) - I0 44 7).toNat → (min (I0 45 i) (I0 44 8 + 1) - I0 44 7).toNat - k < n → am_V (d + 4) Y_mo_place (fun r I' => (I0 44 0 ≠ I0 44 9 ∧ r = some (.inr (.inl (-1))) ∧ I' = I0) ∨ (I0 44 0 = I0 44 9 ∧ r = some (.inr (.inl TT)) ∧ am_fr I0 I' [54])) 41 [(0, .inr (.inr 44)), (1, .inr (.inl (es_oc s (es_fd es_oc 0 (es_w (es_cut (I0 44)) i b u) (I0 44 7) k)))), (3, .inl u), (4, .inl i), (5, .inl (I0 44 7 + k))] [] I := by
        intro n
        induction n with
        | zero => intro k g1 g2; omega
        | succ n ihq =>
          intro k g1 g2
          have hk := es_fc_D (f := es_w (es_cut (I0 44)) i b u) (fun z => es_w_D _ _ _ _ _) (I0 44 7) k
          have hk2 : 0 ≤ es_oc s (es_fd es_oc 0 (es_w (es_cut (I0 44)) i b u) (I0 44 7) k) ∧ es_oc s (es_fd es_oc 0 (es_w (es_cut (I0 44)) i b u) (I0 44 7) k) ≤ 1000000000000000000 := es_mc.2.1 _ _ h5 hk
          have hwk := es_w_D (es_cut (I0 44)) i b u (I0 44 7 + k)
          have hwk2 : 0 ≤ es_w (es_cut (I0 44)) i b u (I0 44 7 + k) ∧ es_w (es_cut (I0 44)) i b u (I0 44 7 + k) ≤ 1000000000000000000 := hwk
          have fin : k = (min (I0 45 i) (I0 44 8 + 1) - I0 44 7).toNat → am_V (d + 4) Y_mo_place (fun r I' => (I0 44 0 ≠ I0 44 9 ∧ r = some (.inr (.inl (-1))) ∧ I' = I0) ∨ (I0 44 0 = I0 44 9 ∧ r = some (.inr (.inl TT)) ∧ am_fr I0 I' [54])) 130 [(0, .inr (.inr 44)), (1, .inr (.inl (es_oc s (es_fd es_oc 0 (es_w (es_cut (I0 44)) i b u) (I0 44 7) k)))), (3, .inl u), (4, .inl i), (5, .inl (I0 44 7 + k))] [] I := by
            intro ek
            rw [← ek] at hah
            have hbr := es_bh_rng (I 44 13) (I 44 14) (I 44 15) u (I 45 (i : Int).toNat - I 45 ((i : Int) - 1).toNat) (by omega) h4
            have ret : es_w (es_cut (I0 44)) i b u (I0 45 i) = 0 → es_oc s (es_fd es_oc 0 (es_w (es_cut (I0 44)) i b u) (I0 44 7) k) = TT := by
              intro h0
              rw [if_pos h0] at hah
              exact hah
            have w0 : (i : Int) = 0 → es_us (es_cut (I0 44)) i b u (I0 45 i) = 0 := by
              intro hi0
              unfold es_us
              rw [if_pos hi0]
            have w1 : (i : Int) ≠ 0 → es_bh (I 44 13) (I 44 14) (I 44 15) u (I 45 (i : Int).toNat - I 45 ((i : Int) - 1).toNat) = es_us (es_cut (I0 44)) i b u (I0 45 i) := by
              intro hi0
              rw [hprev (by omega), ho, e44]
              unfold es_us
              rw [if_neg hi0]
              rfl
            have nofit : ¬ ((I0 44 7 ≤ I0 45 i ∧ I0 45 i ≤ I0 44 8) ∧ es_fit (I0 44 10) (I0 44 11) (I0 44 12) (I0 44 9) i (I0 45 i)) → es_w (es_cut (I0 44)) i b u (I0 45 i) = 0 := by
              intro hft
              refine Classical.byContradiction (fun c => ?_)
              have hg := es_w_g c
              refine hft ⟨hg.1, es_g_fit (R := es_cut (I0 44)) (i := i) (b := I0 45 i) (u := es_us (es_cut (I0 44)) i b u (I0 45 i)) ⟨by omega, by omega⟩ ?_⟩
              rw [← hg.2.1]
              exact c
            have go : ((I0 44 7 ≤ I0 45 i ∧ I0 45 i ≤ I0 44 8) ∧ es_fit (I0 44 10) (I0 44 11) (I0 44 12) (I0 44 9) i (I0 45 i)) → es_us (es_cut (I0 44)) i b u (I0 45 i) ≠ -1 → am_V (d + 4) Y_mo_place (fun r I' => (I0 44 0 ≠ I0 44 9 ∧ r = some (.inr (.inl (-1))) ∧ I' = I0) ∨ (I0 44 0 = I0 44 9 ∧ r = some (.inr (.inl TT)) ∧ am_fr I0 I' [54])) 26 [(0, .inr (.inr 44)), (1, .inr (.inl (es_oc s (es_fd es_oc 0 (es_w (es_cut (I0 44)) i b u) (I0 44 7) k)))), (3, .inl (es_us (es_cut (I0 44)) i b u (I0 45 i))), (4, .inl ((i : Int) + 1))] [] I := by
              intro hft hus
              have h9 := ih (i + 1) (I0 45 i) (es_us (es_cut (I0 44)) i b u (I0 45 i)) (es_oc s (es_fd es_oc 0 (es_w (es_cut (I0 44)) i b u) (I0 44 7) k)) I hf hrows hn9 (by omega) hft.1 (fun _ => by rw [show (((i + 1 : Nat) : Int) - 1).toNat = i by omega]) (es_us_rng hrR h4 hus) hk2 ?_
              · rw [show ((i + 1 : Nat) : Int) = (i : Int) + 1 by omega] at h9
                exact h9
              · by_cases c : es_w (es_cut (I0 44)) i b u (I0 45 i) = 0
                · rw [if_pos c] at hah
                  rw [es_w_g2 (R := es_cut (I0 44)) hft.1 hus] at c
                  rw [es_ah_0 (R := es_cut (I0 44)) hrR hk2 (by rw [R9]; omega) hft.2 c]
                  exact hah
                · rw [if_neg c] at hah
                  exact hah
            repeat' (first
              | (refine am_gp 80 [26] rfl (by first | trivial | exact Or.inl rfl | exact Or.inr rfl | (simp (decide := true) only [am_p, am_u_at, am_u_j, am_u_ne]; omega) | (simp (decide := true) only [am_p, and_true, true_and, true_or, or_true, am_u_at, am_u_j, am_u_ne]; omega) | (simp (decide := true) [am_p, am_u_at, am_u_j, am_u_ne]; omega)) ?_)
              | (show am_V _ _ _ _ _ _ _; simp only [Int.reduceToNat])
              | (refine am_bt rfl (by first | omega | (simp (decide := true) only [am_u_at, am_u_j, am_u_ne]; omega)) (by first | omega | (simp (decide := true) only [am_u_at, am_u_j, am_u_ne]; omega)) ?_)
              | (refine am_bf rfl (by first | omega | (simp (decide := true) only [am_u_at, am_u_j, am_u_ne]; omega)) (by first | omega | (simp (decide := true) only [am_u_at, am_u_j, am_u_ne]; omega)) ?_)
              | (refine am_br rfl (by first | omega | (simp (decide := true) only [am_u_at, am_u_j, am_u_ne]; omega)) (fun h => ?_) (fun h => ?_))
              | (refine am_cV (y' := Y_mo_behind) rfl lk_mo_158 ok_mo_behind rfl rfl rfl (c_behind _ _ _ _ (by first | omega | (simp (decide := true) only [am_u_at, am_u_j, am_u_ne]; omega)) (by first | omega | (simp (decide := true) only [am_u_at, am_u_j, am_u_ne]; omega)) (by first | omega | (simp (decide := true) only [am_u_at, am_u_j, am_u_ne]; omega)) (by first | omega | (simp (decide := true) only [am_u_at, am_u_j, am_u_ne]; omega))) ?_; rintro r I ⟨rfl, rfl⟩)
              | (refine am_cV (y' := Y_mo_fits) rfl lk_mo_151 ok_mo_fits rfl rfl rfl (c_fits _ _ _ _ (by first | omega | (simp (decide := true) only [am_u_at, am_u_j, am_u_ne]; omega)) (by first | omega | (simp (decide := true) only [am_u_at, am_u_j, am_u_ne]; omega)) (by first | omega | (simp (decide := true) only [am_u_at, am_u_j, am_u_ne]; omega)) (by first | omega | (simp (decide := true) only [am_u_at, am_u_j, am_u_ne]; omega)) (by first | omega | (simp (decide := true) only [am_u_at, am_u_j, am_u_ne]; omega))) ?_; rintro r I ⟨rfl, (⟨rfl, hft⟩ | ⟨rfl, hft⟩)⟩ <;> (try (exfalso; omega)))
              | (refine am_rt rfl (by first | trivial | exact Or.inl rfl | exact Or.inr rfl) ?_))
            · have hw := ret (Classical.byContradiction (fun c => (es_w_g c).2.2 (by rw [← w1 (by omega)]; omega)))
              exact Or.inr ⟨hn9, by rw [hw], hf⟩
            · refine am_wk [5] ?_
              rw [e44, ho] at hft
              have h9 := go hft (by rw [← w1 (by omega)]; omega)
              rw [← w1 (by omega)] at h9
              exact h9
            · rw [e44, ho] at hft
              exact Or.inr ⟨hn9, by rw [ret (nofit hft)], hf⟩
            · refine am_wk [5] ?_
              rw [e44, ho] at hft
              have h9 := go hft (by rw [w0 (by omega)]; omega)
              rw [w0 (by omega)] at h9
              exact h9
            · rw [e44, ho] at hft
              exact Or.inr ⟨hn9, by rw [ret (nofit hft)], hf⟩
          have hbr := es_bh_rng (I 44 13) (I 44 14) (I 44 15) u (I0 44 7 + k - I 45 ((i : Int) - 1).toNat) (by omega) h4
          have hw0 : (i : Int) = 0 → I0 44 7 + k ≤ I0 44 8 → I 54 ((37 * (i : Int) + (I0 44 7 + k - I 44 7)) * 18 + 0).toNat = es_w (es_cut (I0 44)) i b u (I0 44 7 + k) := by
            intro hi0 hq8
            rw [e7, hrows i (by omega) (by omega) (I0 44 7 + k) 0 (by omega) (by omega) (by omega) (by omega)]
            unfold es_w
            rw [R7, R8, R9, if_pos ⟨by omega, by omega⟩, if_pos hi0, show I0 44 9 - 1 - (i : Int) = I0 44 9 - 1 by omega]
            rfl
          have hw1 : (i : Int) ≠ 0 → I0 44 7 + k ≤ I0 44 8 → es_bh (I 44 13) (I 44 14) (I 44 15) u (I0 44 7 + k - I 45 ((i : Int) - 1).toNat) ≠ -1 → I 54 ((37 * (i : Int) + (I0 44 7 + k - I 44 7)) * 18 + es_bh (I 44 13) (I 44 14) (I 44 15) u (I0 44 7 + k - I 45 ((i : Int) - 1).toNat)).toNat = es_w (es_cut (I0 44)) i b u (I0 44 7 + k) := by
            intro hi0 hq8 hb1
            rw [hprev (by omega), e44] at hb1 hbr
            rw [hprev (by omega), e44, hrows i (by omega) (by omega) (I0 44 7 + k) _ (by omega) (by omega) (by omega) (by omega)]
            unfold es_w
            rw [R7, R8, R9, if_pos ⟨by omega, by omega⟩, if_neg hi0]
            unfold es_f_mo
            rw [R13, R14, R15, if_neg hb1]
            rfl
          have hw2 : (i : Int) ≠ 0 → I0 44 7 + k ≤ I0 44 8 → es_bh (I 44 13) (I 44 14) (I 44 15) u (I0 44 7 + k - I 45 ((i : Int) - 1).toNat) = -1 → es_w (es_cut (I0 44)) i b u (I0 44 7 + k) = 0 := by
            intro hi0 hq8 hb1
            rw [hprev (by omega), e44] at hb1
            unfold es_w
            rw [R7, R8, R9, if_pos ⟨by omega, by omega⟩, if_neg hi0]
            unfold es_f_mo
            rw [R13, R14, R15, if_pos hb1]
          have e9' : es_oc s (es_fd es_oc 0 (es_w (es_cut (I0 44)) i b u) (I0 44 7) (k + 1)) = es_oc (es_oc s (es_fd es_oc 0 (es_w (es_cut (I0 44)) i b u) (I0 44 7) k)) (es_w (es_cut (I0 44)) i b u (I0 44 7 + k)) := (es_mc.2.2.1 _ _ _ h5 hk hwk).symm
          refine am_go 1 [] rfl trivial ?_
          repeat' (first
            | (refine am_gp 80 [41, 130] rfl (by first | trivial | exact Or.inl rfl | exact Or.inr rfl | (simp (decide := true) only [am_p, am_u_at, am_u_j, am_u_ne]; omega) | (simp (decide := true) only [am_p, and_true, true_and, true_or, or_true, am_u_at, am_u_j, am_u_ne]; omega) | (simp (decide := true) [am_p, am_u_at, am_u_j, am_u_ne]; omega)) ?_)
            | (show am_V _ _ _ _ _ _ _; simp only [Int.reduceToNat])
            | (refine am_bt rfl (by first | omega | (simp (decide := true) only [am_u_at, am_u_j, am_u_ne]; omega)) (by first | omega | (simp (decide := true) only [am_u_at, am_u_j, am_u_ne]; omega)) ?_)
            | (refine am_bf rfl (by first | omega | (simp (decide := true) only [am_u_at, am_u_j, am_u_ne]; omega)) (by first | omega | (simp (decide := true) only [am_u_at, am_u_j, am_u_ne]; omega)) ?_)
            | (refine am_br rfl (by first | omega | (simp (decide := true) only [am_u_at, am_u_j, am_u_ne]; omega)) (fun h => ?_) (fun h => ?_))
            | (refine am_cV (y' := Y_mo_behind) rfl lk_mo_158 ok_mo_behind rfl rfl rfl (c_behind _ _ _ _ (by first | omega | (simp (decide := true) only [am_u_at, am_u_j, am_u_ne]; omega)) (by first | omega | (simp (decide := true) only [am_u_at, am_u_j, am_u_ne]; omega)) (by first | omega | (simp (decide := true) only [am_u_at, am_u_j, am_u_ne]; omega)) (by first | omega | (simp (decide := true) only [am_u_at, am_u_j, am_u_ne]; omega))) ?_; rintro r I ⟨rfl, rfl⟩)
            | (refine am_cS (y' := Y_mo_cellAt) rfl lk_mo_147 ok_mo_cellAt rfl rfl (c_cellAt _ _ _ _ _) ?_; rintro r I ⟨rfl, rfl⟩)
            | (refine am_cS (y' := Y_mo_plus) rfl lk_mo_162 ok_mo_plus rfl rfl (c_mo_plus _ _ _ _ (by first | omega | (simp (decide := true) only [am_u_at, am_u_j, am_u_ne]; omega)) (by first | omega | (simp (decide := true) only [am_u_at, am_u_j, am_u_ne]; omega))) ?_; rintro r I ⟨rfl, rfl⟩)
            | (refine am_rt rfl (by first | trivial | exact Or.inl rfl | exact Or.inr rfl) ?_))
          · exact fin (by omega)
          · exact fin (by omega)
          · refine am_wk [6] ?_
            have h9 := ihq (k + 1) (by omega) (by omega)
            rw [show I0 44 7 + ((k + 1 : Nat) : Int) = I0 44 7 + (k : Int) + 1 by omega, e9', ← hw1 (by omega) (by omega) (by omega)] at h9
            exact h9
          · refine am_wk [6] ?_
            have h9 := ihq (k + 1) (by omega) (by omega)
            rw [show I0 44 7 + ((k + 1 : Nat) : Int) = I0 44 7 + (k : Int) + 1 by omega, e9', hw2 (by omega) (by omega) (by omega), es_mn_r es_mc hk2] at h9
            exact h9
          · refine am_wk [6] ?_
            have h9 := ihq (k + 1) (by omega) (by omega)
            rw [show I0 44 7 + ((k + 1 : Nat) : Int) = I0 44 7 + (k : Int) + 1 by omega, e9', ← hw0 (by omega) (by omega)] at h9
            exact h9
      refine am_go 1 [] rfl trivial ?_
      repeat' (first
        | (refine am_gp 80 [41] rfl (by first | trivial | exact Or.inl rfl | exact Or.inr rfl | (simp (decide := true) only [am_p, am_u_at, am_u_j, am_u_ne]; omega) | (simp (decide := true) only [am_p, and_true, true_and, true_or, or_true, am_u_at, am_u_j, am_u_ne]; omega) | (simp (decide := true) [am_p, am_u_at, am_u_j, am_u_ne]; omega)) ?_)
        | (show am_V _ _ _ _ _ _ _; simp only [Int.reduceToNat])
        | (refine am_bt rfl (by first | omega | (simp (decide := true) only [am_u_at, am_u_j, am_u_ne]; omega)) (by first | omega | (simp (decide := true) only [am_u_at, am_u_j, am_u_ne]; omega)) ?_)
        | (refine am_bf rfl (by first | omega | (simp (decide := true) only [am_u_at, am_u_j, am_u_ne]; omega)) (by first | omega | (simp (decide := true) only [am_u_at, am_u_j, am_u_ne]; omega)) ?_)
        | (refine am_br rfl (by first | omega | (simp (decide := true) only [am_u_at, am_u_j, am_u_ne]; omega)) (fun h => ?_) (fun h => ?_))
        | (refine am_rt rfl (by first | trivial | exact Or.inl rfl | exact Or.inr rfl) ?_))
      rw [e7]
      have h9 := loopq 200 0 (by omega) (by omega)
      rw [show I0 44 7 + ((0 : Nat) : Int) = I0 44 7 by omega, show es_oc s (es_fd es_oc 0 (es_w (es_cut (I0 44)) i b u) (I0 44 7) 0) = s from es_mn_r es_mc h5] at h9
      exact h9
  repeat' (first
    | (refine am_gp 80 [26] rfl (by first | trivial | exact Or.inl rfl | exact Or.inr rfl | (simp (decide := true) only [am_p, am_u_at, am_u_j, am_u_ne]; omega) | (simp (decide := true) only [am_p, and_true, true_and, true_or, or_true, am_u_at, am_u_j, am_u_ne]; omega) | (simp (decide := true) [am_p, am_u_at, am_u_j, am_u_ne]; omega)) ?_)
    | (show am_V _ _ _ _ _ _ _; simp only [Int.reduceToNat])
    | (refine am_bt rfl (by first | omega | (simp (decide := true) only [am_u_at, am_u_j, am_u_ne]; omega)) (by first | omega | (simp (decide := true) only [am_u_at, am_u_j, am_u_ne]; omega)) ?_)
    | (refine am_bf rfl (by first | omega | (simp (decide := true) only [am_u_at, am_u_j, am_u_ne]; omega)) (by first | omega | (simp (decide := true) only [am_u_at, am_u_j, am_u_ne]; omega)) ?_)
    | (refine am_br rfl (by first | omega | (simp (decide := true) only [am_u_at, am_u_j, am_u_ne]; omega)) (fun h => ?_) (fun h => ?_))
    | (refine am_cV (y' := Y_mo_countWays) rfl lk_mo_166 ok_mo_countWays rfl rfl rfl (c_countWays _ _ (by assumption)) ?_; rintro r I ⟨rfl, hfr, hrows⟩)
    | (refine am_rt rfl (by first | trivial | exact Or.inl rfl | exact Or.inr rfl) ?_))
  · exact loopi (I0 44 9).toNat 0 (I0 44 7) 0 0 _ hfr hrows (by omega) (by omega) (by omega) (fun h => by omega) (by omega) (by omega) hTT
  · exact Or.inl ⟨by omega, rfl, rfl⟩
