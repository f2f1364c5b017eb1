def es_ex (P : Int → Prop) : Prop := ∃ y, P y
theorem c_mo_drill (d : Nat) (pu : Int) (I0 : am_I) (hpr : (-2147483648 ≤ pu ∧ pu < 2147483648)) (hr : es_rm (I0 44)) (hA : es_hA (I0 52) (I0 53)) : am_C (d + 4) Y_mo_drill [.inr (.inr 44), .inl pu] I0 (fun r I' => (¬ (0 ≤ pu ∧ pu ≤ 5) ∧ r = some (.inl (-2)) ∧ I' = I0) ∨ (((0 ≤ pu ∧ pu ≤ 5) ∧ es_dt (es_cut (I0 44)) (es_ws (es_pw (I0 52) (I0 53) pu)) = -1) ∧ r = some (.inl (-1)) ∧ am_fr I0 I' [54]) ∨ (((0 ≤ pu ∧ pu ≤ 5) ∧ 0 ≤ es_dt (es_cut (I0 44)) (es_ws (es_pw (I0 52) (I0 53) pu))) ∧ r = some (.inl (es_dt (es_cut (I0 44)) (es_ws (es_pw (I0 52) (I0 53) pu)))) ∧ am_fr I0 I' [44, 45, 46, 54] ∧ I' 44 = am_up (am_up (I0 44) 0 (I0 44 9)) 6 0 ∧ ∀ j : Nat, (j : Int) < I0 44 9 → I' 45 j = (es_dp (es_cut (I0 44)) (es_ws (es_pw (I0 52) (I0 53) pu)) (j + 1)).1 ∧ I' 46 j = 24)) := by
  refine am_enter ok_mo_drill rfl ?_
  obtain ⟨r1, r2, r3, r4⟩ := id hr
  have R7 : es_cut (I0 44) 7 = I0 44 7 := rfl
  have R8 : es_cut (I0 44) 8 = I0 44 8 := rfl
  have R9 : es_cut (I0 44) 9 = I0 44 9 := rfl
  have hrR : es_rm (es_cut (I0 44)) := hr
  generalize hsf : es_ws (es_pw (I0 52) (I0 53) pu) = sf at *
  have last : ∀ (I1 : am_I), (0 ≤ pu ∧ pu ≤ 5) → am_fr I0 I1 [54] → (∀ i' : Int, 0 ≤ i' → i' < I0 44 9 → es_row_mw (I0 44) sf (I1 54) i') → 0 ≤ es_dt (es_cut (I0 44)) sf → ∀ (first : Int), first = (es_dp (es_cut (I0 44)) sf 1).1 → am_V (d + 4) Y_mo_drill (fun r I' => (¬ (0 ≤ pu ∧ pu ≤ 5) ∧ r = some (.inl (-2)) ∧ I' = I0) ∨ (((0 ≤ pu ∧ pu ≤ 5) ∧ es_dt (es_cut (I0 44)) sf = -1) ∧ r = some (.inl (-1)) ∧ am_fr I0 I' [54]) ∨ (((0 ≤ pu ∧ pu ≤ 5) ∧ 0 ≤ es_dt (es_cut (I0 44)) sf) ∧ r = some (.inl (es_dt (es_cut (I0 44)) sf)) ∧ am_fr I0 I' [44, 45, 46, 54] ∧ I' 44 = am_up (am_up (I0 44) 0 (I0 44 9)) 6 0 ∧ ∀ j : Nat, (j : Int) < I0 44 9 → I' 45 j = (es_dp (es_cut (I0 44)) sf (j + 1)).1 ∧ I' 46 j = 24)) 199 [(0, .inr (.inr 44)), (1, .inl pu), (2, .inl first), (3, .inr (.inl (es_dt (es_cut (I0 44)) sf)))] [] I1 := by
    intro I1 hpu hf1 hrows hdt first hfi
    have hw := es_pw_hw hA hpu
    have hal : ∀ i : Nat, (i : Int) ≤ I0 44 9 → es_da (es_cut (I0 44)) sf i (es_dp (es_cut (I0 44)) sf i) := by
      rw [← hsf] at hdt ⊢
      exact es_dp_da hrR hdt
    have hdtu : es_dt (es_cut (I0 44)) sf ≤ 20000000 := by
      rw [← hsf]
      refine es_fm_le (by omega) (fun q => ?_) _
      have := es_gw_D hw (es_cut (I0 44)) (es_cut (I0 44) 9 - 1).toNat q 0
      rw [R9] at this ⊢
      omega
    have loopi : ∀ (m i : Nat) (I : am_I), (i : Int) + 1 ≤ I0 44 9 → I0 44 9 - (i : Int) < m → am_fr I0 I [45, 46, 54] → I 54 = I1 54 → (∀ j : Nat, j < i + 1 → I 45 j = (es_dp (es_cut (I0 44)) sf (j + 1)).1 ∧ I 46 j = 24) → am_V (d + 4) Y_mo_drill (fun r I' => (¬ (0 ≤ pu ∧ pu ≤ 5) ∧ r = some (.inl (-2)) ∧ I' = I0) ∨ (((0 ≤ pu ∧ pu ≤ 5) ∧ es_dt (es_cut (I0 44)) sf = -1) ∧ r = some (.inl (-1)) ∧ am_fr I0 I' [54]) ∨ (((0 ≤ pu ∧ pu ≤ 5) ∧ 0 ≤ es_dt (es_cut (I0 44)) sf) ∧ r = some (.inl (es_dt (es_cut (I0 44)) sf)) ∧ am_fr I0 I' [44, 45, 46, 54] ∧ I' 44 = am_up (am_up (I0 44) 0 (I0 44 9)) 6 0 ∧ ∀ j : Nat, (j : Int) < I0 44 9 → I' 45 j = (es_dp (es_cut (I0 44)) sf (j + 1)).1 ∧ I' 46 j = 24)) 213 [(0, .inr (.inr 44)), (1, .inl pu), (2, .inl first), (3, .inr (.inl (es_dt (es_cut (I0 44)) sf))), (5, .inl (es_dp (es_cut (I0 44)) sf (i + 1)).2), (6, .inl i)] [] I := by
      intro m
      induction m with
      | zero => intro i I h1 h2; omega
      | succ m ih =>
        intro i I h1 h2 hf h54 hin
        have e44 : I 44 = I0 44 := hf 44 rfl
        have e52 : I 52 = I0 52 := hf 52 rfl
        have e53 : I 53 = I0 53 := hf 53 rfl
        have e7 : I 44 7 = I0 44 7 := congrFun e44 7
        have e8 : I 44 8 = I0 44 8 := congrFun e44 8
        have e9 : I 44 9 = I0 44 9 := congrFun e44 9
        have e14 : I 44 14 = I0 44 14 := congrFun e44 14
        have e15 : I 44 15 = I0 44 15 := congrFun e44 15
        have hr' : es_rm (I 44) := by rw [e44]; exact hr
        have hA' : es_hA (I 52) (I 53) := by rw [e52, e53]; exact hA
        have hrow' : i < I0 44 9 - 1 → es_row_mw (I 44) (es_ws (es_pw (I 52) (I 53) pu)) (I 54) ((i : Int) + 1) := by
          intro h
          rw [e44, e52, e53, hsf, h54]
          exact hrows _ (by omega) (by omega)
        have ha := hal (i + 1) (by omega)
        have hsp : es_dp (es_cut (I0 44)) sf (i + 1 + 1) = es_ds (es_cut (I0 44)) sf (i + 1) (es_dp (es_cut (I0 44)) sf (i + 1)) := rfl
        obtain ⟨a1, a2, a3, a4⟩ := ha
        rw [R7, R8] at a1
        have hx0 : I 45 (i : Int).toNat = (es_dp (es_cut (I0 44)) sf (i + 1)).1 := by
          rw [show (i : Int).toNat = i by omega]
          exact (hin i (by omega)).1
        have a5 : (i : Int) + 1 < I0 44 9 → es_ex (fun y => I0 44 7 ≤ y ∧ y ≤ I0 44 8 ∧ es_x (es_cut (I0 44)) sf ((i : Int) + 1) (es_dp (es_cut (I0 44)) sf (i + 1)).1 (es_dp (es_cut (I0 44)) sf (i + 1)).2 y = es_dl (es_cut (I0 44)) sf (i + 1) (es_dp (es_cut (I0 44)) sf (i + 1))) := by
          intro h
          obtain ⟨y, y1, y2, y3⟩ := a4 (by rw [R9]; omega)
          rw [R7] at y1
          rw [R7, R8] at y2
          exact ⟨y, y1, by omega, y3⟩
        clear a4
        generalize es_dp (es_cut (I0 44)) sf (i + 1) = x at *
        have hL : es_dl (es_cut (I0 44)) sf (i + 1) x = es_gw (es_cut (I0 44)) sf (I0 44 9 - 1 - (i : Int)).toNat x.1 x.2 := by
          unfold es_dl
          rw [if_neg (by omega), R9, show I0 44 9 - ((i + 1 : Nat) : Int) = I0 44 9 - 1 - (i : Int) by omega]
        have hent : I 54 ((37 * (i : Int) + (I 45 (i : Int).toNat - I 44 7)) * 18 + x.2).toNat = es_dl (es_cut (I0 44)) sf (i + 1) x := by
          rw [hL, hx0, e7, h54, hrows i (by omega) (by omega) x.1 x.2 a1.1 a1.2 a2.1 a2.2]
          rfl
        have hLu : es_dl (es_cut (I0 44)) sf (i + 1) x ≤ 20000000 := by
          rw [hL, ← hsf]
          have := es_gw_D hw (es_cut (I0 44)) (I0 44 9 - 1 - (i : Int)).toNat x.1 x.2
          omega
        have hds : ∀ q : Int, es_x (es_cut (I0 44)) sf ((i : Int) + 1) x.1 x.2 q = es_dl (es_cut (I0 44)) sf (i + 1) x → I0 44 7 ≤ q → q ≤ I0 44 8 → (∀ z, I0 44 7 ≤ z → z < q → es_x (es_cut (I0 44)) sf ((i : Int) + 1) x.1 x.2 z ≠ es_dl (es_cut (I0 44)) sf (i + 1) x) → es_dp (es_cut (I0 44)) sf (i + 1 + 1) = (q, es_us (es_cut (I0 44)) ((i : Int) + 1) x.1 x.2 q) := by
          intro q h3 h4 h5 h6
          have h7 : es_fst (es_x (es_cut (I0 44)) sf ((i + 1 : Nat) : Int) x.1 x.2) (es_dl (es_cut (I0 44)) sf (i + 1) x) (es_cut (I0 44) 7) (es_cut (I0 44) 8 + 1 - es_cut (I0 44) 7).toNat = q := es_fst_eq _ _ q h4 (by rw [R7, R8]; omega) h3 h6
          rw [hsp]
          unfold es_ds
          rw [h7]
          rfl
        generalize es_dl (es_cut (I0 44)) sf (i + 1) x = L at *
        have loopq : ∀ (n : Nat) (q : Int), (i : Int) + 1 < I0 44 9 → I0 44 7 ≤ q → q ≤ I0 44 8 → I0 44 8 - q < n → es_ex (fun y => q ≤ y ∧ y ≤ I0 44 8 ∧ es_x (es_cut (I0 44)) sf ((i : Int) + 1) x.1 x.2 y = L) → (∀ y, I0 44 7 ≤ y → y < q → es_x (es_cut (I0 44)) sf ((i : Int) + 1) x.1 x.2 y ≠ L) → am_V (d + 4) Y_mo_drill (fun r I' => (¬ (0 ≤ pu ∧ pu ≤ 5) ∧ r = some (.inl (-2)) ∧ I' = I0) ∨ (((0 ≤ pu ∧ pu ≤ 5) ∧ es_dt (es_cut (I0 44)) sf = -1) ∧ r = some (.inl (-1)) ∧ am_fr I0 I' [54]) ∨ (((0 ≤ pu ∧ pu ≤ 5) ∧ 0 ≤ es_dt (es_cut (I0 44)) sf) ∧ r = some (.inl (es_dt (es_cut (I0 44)) sf)) ∧ am_fr I0 I' [44, 45, 46, 54] ∧ I' 44 = am_up (am_up (I0 44) 0 (I0 44 9)) 6 0 ∧ ∀ j : Nat, (j : Int) < I0 44 9 → I' 45 j = (es_dp (es_cut (I0 44)) sf (j + 1)).1 ∧ I' 46 j = 24)) 230 [(0, .inr (.inr 44)), (1, .inl pu), (2, .inl first), (3, .inr (.inl (es_dt (es_cut (I0 44)) sf))), (5, .inl x.2), (6, .inl i), (7, .inl q)] [] I := by
          intro n
          induction n with
          | zero => intro q g0 g1 g2 g3; omega
          | succ n ihq =>
            intro q g0 g1 g2 g3 g4 g5
            have hx1 : -1 ≤ es_x (es_cut (I0 44)) sf ((i : Int) + 1) x.1 x.2 q ∧ es_x (es_cut (I0 44)) sf ((i : Int) + 1) x.1 x.2 q ≤ 20000000 := by
              rw [← hsf]
              exact es_x_D hw hrR (by omega) _ _ _
            have hrow := hrow' (by omega)
            have hgo : es_x (es_cut (I 44)) (es_ws (es_pw (I 52) (I 53) pu)) ((i : Int) + 1) (I 45 (i : Int).toNat) x.2 q = es_x (es_cut (I0 44)) sf ((i : Int) + 1) x.1 x.2 q := by rw [e44, e52, e53, hsf, hx0]
            have hbu : es_bh (I 44 13) (I 44 14) (I 44 15) x.2 (q - I 45 (i : Int).toNat) = es_us (es_cut (I0 44)) ((i : Int) + 1) x.1 x.2 q := by
              rw [hx0, e44]
              unfold es_us
              rw [if_neg (by omega)]
              rfl
            refine am_go 1 [] rfl trivial ?_
            repeat' (first
              | (refine am_gp 80 [230, 282] rfl (by first | trivial | exact Or.inl rfl | exact Or.inr rfl | (simp (decide := true) only [am_p, am_u_at, am_u_j, am_u_ne]; omega) | (simp (decide := true) only [am_p, and_true, true_and, true_or, or_true, am_u_at, am_u_j, am_u_ne]; omega) | (simp (decide := true) [am_p, am_u_at, am_u_j, am_u_ne]; omega)) ?_)
              | (show am_V _ _ _ _ _ _ _; simp only [Int.reduceToNat])
              | (refine am_bt rfl (by first | omega | (simp (decide := true) only [am_u_at, am_u_j, am_u_ne]; omega)) (by first | omega | (simp (decide := true) only [am_u_at, am_u_j, am_u_ne]; omega)) ?_)
              | (refine am_bf rfl (by first | omega | (simp (decide := true) only [am_u_at, am_u_j, am_u_ne]; omega)) (by first | omega | (simp (decide := true) only [am_u_at, am_u_j, am_u_ne]; omega)) ?_)
              | (refine am_br rfl (by first | omega | (simp (decide := true) only [am_u_at, am_u_j, am_u_ne]; omega)) (fun h => ?_) (fun h => ?_))
              | (refine am_cV (y' := Y_mo_goingOn) rfl lk_mo_253 ok_mo_goingOn rfl rfl rfl (c_goingOn _ _ _ _ _ _ _ (by assumption) hpu (by assumption) (by first | omega | (simp (decide := true) only [am_u_at, am_u_j, am_u_ne]; omega)) (by first | omega | (simp (decide := true) only [am_u_at, am_u_j, am_u_ne]; omega)) (by first | omega | (simp (decide := true) only [am_u_at, am_u_j, am_u_ne]; omega)) (by first | omega | (simp (decide := true) only [am_u_at, am_u_j, am_u_ne]; omega)) (by assumption)) ?_; rintro r I ⟨rfl, rfl⟩)
              | (refine am_cS (y' := Y_mo_cellAt) rfl lk_mo_147 ok_mo_cellAt rfl rfl (c_cellAt _ _ _ _ _) ?_; rintro r I ⟨rfl, rfl⟩)
              | (refine am_rt rfl (by first | trivial | exact Or.inl rfl | exact Or.inr rfl) ?_))
            · have hxq : es_x (es_cut (I0 44)) sf ((i : Int) + 1) x.1 x.2 q = L := by omega
              have hd := hds q hxq g1 g2 g5
              repeat' (first
                | (refine am_gp 80 [213] rfl (by first | trivial | exact Or.inl rfl | exact Or.inr rfl | (simp (decide := true) only [am_p, am_u_at, am_u_j, am_u_ne]; omega) | (simp (decide := true) only [am_p, and_true, true_and, true_or, or_true, am_u_at, am_u_j, am_u_ne]; omega) | (simp (decide := true) [am_p, am_u_at, am_u_j, am_u_ne]; omega)) ?_)
                | (show am_V _ _ _ _ _ _ _; simp only [Int.reduceToNat])
                | (refine am_bt rfl (by first | omega | (simp (decide := true) only [am_u_at, am_u_j, am_u_ne]; omega)) (by first | omega | (simp (decide := true) only [am_u_at, am_u_j, am_u_ne]; omega)) ?_)
                | (refine am_bf rfl (by first | omega | (simp (decide := true) only [am_u_at, am_u_j, am_u_ne]; omega)) (by first | omega | (simp (decide := true) only [am_u_at, am_u_j, am_u_ne]; omega)) ?_)
                | (refine am_br rfl (by first | omega | (simp (decide := true) only [am_u_at, am_u_j, am_u_ne]; omega)) (fun h => ?_) (fun h => ?_))
                | (refine am_cV (y' := Y_mo_behind) rfl lk_mo_158 ok_mo_behind rfl rfl rfl (c_behind _ _ _ _ (by first | omega | (simp (decide := true) only [am_u_at, am_u_j, am_u_ne]; omega)) (by first | omega | (simp (decide := true) only [am_u_at, am_u_j, am_u_ne]; omega)) (by first | omega | (simp (decide := true) only [am_u_at, am_u_j, am_u_ne]; omega)) (by first | omega | (simp (decide := true) only [am_u_at, am_u_j, am_u_ne]; omega))) ?_; rintro r I ⟨rfl, rfl⟩)
                | (refine am_cV (y' := Y_mo_lay) rfl lk_mo_173 ok_mo_lay rfl rfl rfl (c_lay _ _ _ _ _ (by first | omega | (simp (decide := true) only [am_u_at, am_u_j, am_u_ne]; omega))) ?_; rintro r I ⟨rfl, rfl⟩)
                | (refine am_rt rfl (by first | trivial | exact Or.inl rfl | exact Or.inr rfl) ?_))
              refine am_wk [7] ?_
              have h9 := ih (i + 1) (am_u (am_u I 45 ((i : Int) + 1).toNat q) 46 ((i : Int) + 1).toNat 24) (by omega) (by omega) ((hf.u _ _ rfl).u _ _ rfl) (by rw [am_u_ne (by decide), am_u_ne (by decide)]; exact h54) ?_
              · rw [hd, show ((i + 1 : Nat) : Int) = (i : Int) + 1 by omega] at h9
                rw [hbu]
                exact h9
              · intro j hj
                simp (decide := true) only [am_u_at, am_u_j, am_u_ne]
                rw [am_u_eq, am_u_eq, show ((i : Int) + 1).toNat = i + 1 by omega]
                by_cases c : j = i + 1
                · rw [c, am_up_eq, am_up_eq, hd]
                  exact ⟨rfl, rfl⟩
                · rw [am_up_ne c, am_up_ne c]
                  exact hin j (by omega)
            · have hxq : es_x (es_cut (I0 44)) sf ((i : Int) + 1) x.1 x.2 q ≠ L := by omega
              obtain ⟨y, y1, y2, y3⟩ := g4
              have hyq : y ≠ q := fun e => hxq (by rw [← e]; exact y3)
              refine ihq (q + 1) g0 (by omega) (by omega) (by omega) ⟨y, by omega, y2, y3⟩ ?_
              intro z z1 z2
              by_cases c : z = q
              · rw [c]; exact hxq
              · exact g5 z z1 (by omega)
        refine am_go 1 [] rfl trivial ?_
        repeat' (first
          | (refine am_gp 80 [230] rfl (by first | trivial | exact Or.inl rfl | exact Or.inr rfl | (simp (decide := true) only [am_p, am_u_at, am_u_j, am_u_ne]; omega) | (simp (decide := true) only [am_p, and_true, true_and, true_or, or_true, am_u_at, am_u_j, am_u_ne]; omega) | (simp (decide := true) [am_p, am_u_at, am_u_j, am_u_ne]; omega)) ?_)
          | (show am_V _ _ _ _ _ _ _; simp only [Int.reduceToNat])
          | (refine am_bt rfl (by first | omega | (simp (decide := true) only [am_u_at, am_u_j, am_u_ne]; omega)) (by first | omega | (simp (decide := true) only [am_u_at, am_u_j, am_u_ne]; omega)) ?_)
          | (refine am_bf rfl (by first | omega | (simp (decide := true) only [am_u_at, am_u_j, am_u_ne]; omega)) (by first | omega | (simp (decide := true) only [am_u_at, am_u_j, am_u_ne]; omega)) ?_)
          | (refine am_br rfl (by first | omega | (simp (decide := true) only [am_u_at, am_u_j, am_u_ne]; omega)) (fun h => ?_) (fun h => ?_))
          | (refine am_cV (y' := Y_mo_laid) rfl lk_mo_177 ok_mo_laid rfl rfl rfl (c_laid _ _ _) ?_; rintro r I ⟨rfl, rfl⟩)
          | (refine am_rt rfl (by first | trivial | exact Or.inl rfl | exact Or.inr rfl) ?_))
        · have ei : (i : Int) + 1 = I0 44 9 := by omega
          refine Or.inr (Or.inr ⟨⟨hpu, hdt⟩, rfl, ((hf.wd rfl).u _ _ rfl).u _ _ rfl, ?_, ?_⟩)
          · rw [am_u_eq, am_u_eq, e44]
          · intro j hj
            rw [am_u_ne (by decide), am_u_ne (by decide), am_u_ne (by decide), am_u_ne (by decide)]
            exact hin j (by omega)
        · rw [e7]
          obtain ⟨y, y1, y2, y3⟩ := a5 (by omega)
          exact loopq 200 (I0 44 7) (by omega) (by omega) (by omega) (by omega) ⟨y, y1, y2, y3⟩ (fun y h1 h2 => by omega)
    have e9 : I1 44 9 = I0 44 9 := by rw [hf1 44 rfl]
    repeat' (first
      | (refine am_gp 80 [213] rfl (by first | trivial | exact Or.inl rfl | exact Or.inr rfl | (simp (decide := true) only [am_p, am_u_at, am_u_j, am_u_ne]; omega) | (simp (decide := true) only [am_p, and_true, true_and, true_or, or_true, am_u_at, am_u_j, am_u_ne]; omega) | (simp (decide := true) [am_p, am_u_at, am_u_j, am_u_ne]; omega)) ?_)
      | (show am_V _ _ _ _ _ _ _; simp only [Int.reduceToNat])
      | (refine am_bt rfl (by first | omega | (simp (decide := true) only [am_u_at, am_u_j, am_u_ne]; omega)) (by first | omega | (simp (decide := true) only [am_u_at, am_u_j, am_u_ne]; omega)) ?_)
      | (refine am_bf rfl (by first | omega | (simp (decide := true) only [am_u_at, am_u_j, am_u_ne]; omega)) (by first | omega | (simp (decide := true) only [am_u_at, am_u_j, am_u_ne]; omega)) ?_)
      | (refine am_br rfl (by first | omega | (simp (decide := true) only [am_u_at, am_u_j, am_u_ne]; omega)) (fun h => ?_) (fun h => ?_))
      | (refine am_cV (y' := Y_mo_lay) rfl lk_mo_173 ok_mo_lay rfl rfl rfl (c_lay _ _ _ _ _ (by first | omega | (simp (decide := true) only [am_u_at, am_u_j, am_u_ne]; omega))) ?_; rintro r I ⟨rfl, rfl⟩)
      | (refine am_rt rfl (by first | trivial | exact Or.inl rfl | exact Or.inr rfl) ?_))
    have h9 := loopi 17 0 (am_u (am_u I1 45 0 first) 46 0 24) (by omega) (by omega) (((hf1.wd rfl).u _ _ rfl).u _ _ rfl) (by rw [am_u_ne (by decide), am_u_ne (by decide)]) ?_
    · exact h9
    · intro j hj
      simp (decide := true) only [am_u_at, am_u_j, am_u_ne]
      rw [show j = 0 by omega, am_u_eq, am_up_eq, am_u_eq, am_up_eq]
      exact ⟨hfi, rfl⟩
  have scan : ∀ (m k : Nat) (best first : Int) (I1 : am_I), (0 ≤ pu ∧ pu ≤ 5) → am_fr I0 I1 [54] → (∀ i' : Int, 0 ≤ i' → i' < I0 44 9 → es_row_mw (I0 44) sf (I1 54) i') → I0 44 7 + k ≤ I0 44 8 + 1 → I0 44 8 + 1 - (I0 44 7 + k) < m → best = es_fd es_om (-1) (fun q => es_gw (es_cut (I0 44)) sf (I0 44 9 - 1).toNat q 0) (I0 44 7) k → ((best = -1 ∧ first = -1) ∨ ((0 ≤ best ∧ I0 44 7 ≤ first ∧ first < I0 44 7 + k) ∧ es_gw (es_cut (I0 44)) sf (I0 44 9 - 1).toNat first 0 = best ∧ ∀ y, I0 44 7 ≤ y → y < first → es_gw (es_cut (I0 44)) sf (I0 44 9 - 1).toNat y 0 ≠ best)) → am_V (d + 4) Y_mo_drill (fun r I' => (¬ (0 ≤ pu ∧ pu ≤ 5) ∧ r = some (.inl (-2)) ∧ I' = I0) ∨ (((0 ≤ pu ∧ pu ≤ 5) ∧ es_dt (es_cut (I0 44)) sf = -1) ∧ r = some (.inl (-1)) ∧ am_fr I0 I' [54]) ∨ (((0 ≤ pu ∧ pu ≤ 5) ∧ 0 ≤ es_dt (es_cut (I0 44)) sf) ∧ r = some (.inl (es_dt (es_cut (I0 44)) sf)) ∧ am_fr I0 I' [44, 45, 46, 54] ∧ I' 44 = am_up (am_up (I0 44) 0 (I0 44 9)) 6 0 ∧ ∀ j : Nat, (j : Int) < I0 44 9 → I' 45 j = (es_dp (es_cut (I0 44)) sf (j + 1)).1 ∧ I' 46 j = 24)) 134 [(0, .inr (.inr 44)), (1, .inl pu), (2, .inl first), (3, .inr (.inl best)), (5, .inl (I0 44 7 + k))] [] I1 := by
    intro m
    induction m with
    | zero => intro k best first I1 hpu hf1 hrows h1 h2; omega
    | succ m ih =>
      intro k best first I hpu hf1 hrows h1 h2 hb hfi
      have hw := es_pw_hw hA hpu
      have e44 : I 44 = I0 44 := hf1 44 rfl
      have e7 : I 44 7 = I0 44 7 := congrFun e44 7
      have e8 : I 44 8 = I0 44 8 := congrFun e44 8
      have hgD : ∀ q, -1 ≤ es_gw (es_cut (I0 44)) sf (I0 44 9 - 1).toNat q 0 ∧ es_gw (es_cut (I0 44)) sf (I0 44 9 - 1).toNat q 0 ≤ 20000000 := by
        intro q
        rw [← hsf]
        have := es_gw_D hw (es_cut (I0 44)) (I0 44 9 - 1).toNat q 0
        omega
      have hb1 : -1 ≤ best := by
        rw [hb]
        exact es_fd_D (D := es_Dm) es_mm (fun q => (hgD q).1) k
      have hb2 : best ≤ 20000000 := by
        rw [hb]
        exact es_fm_le (by omega) (fun q => (hgD q).2) k
      have hub : ∀ x, I0 44 7 ≤ x → x < I0 44 7 + (k : Int) → es_gw (es_cut (I0 44)) sf (I0 44 9 - 1).toNat x 0 ≤ best := by
        rw [hb]
        exact es_fm_ub (f := fun q => es_gw (es_cut (I0 44)) sf (I0 44 9 - 1).toNat q 0) k
      have hgk := hgD (I0 44 7 + k)
      have hent : I0 44 7 + k ≤ I0 44 8 → I 54 ((37 * 0 + (I0 44 7 + k - I 44 7)) * 18 + 0).toNat = es_gw (es_cut (I0 44)) sf (I0 44 9 - 1).toNat (I0 44 7 + k) 0 := by
        intro h
        rw [e7, hrows 0 (by omega) (by omega) (I0 44 7 + k) 0 (by omega) h (by omega) (by omega), show I0 44 9 - 1 - 0 = I0 44 9 - 1 by omega]
        rfl
      have e9 : es_fd es_om (-1) (fun q => es_gw (es_cut (I0 44)) sf (I0 44 9 - 1).toNat q 0) (I0 44 7) (k + 1) = max best (es_gw (es_cut (I0 44)) sf (I0 44 9 - 1).toNat (I0 44 7 + k) 0) := by
        rw [hb]
        rfl
      have hf2 : -1 ≤ first ∧ first ≤ 1000 := by
        rcases hfi with c | c
        · omega
        · have := c.1
          omega
      have ek1 : (k : Int) = I0 44 8 + 1 - I0 44 7 → es_dt (es_cut (I0 44)) sf = best := by
        intro h
        rw [hb]
        unfold es_dt
        rw [R7, R8, R9, show (I0 44 8 + 1 - I0 44 7).toNat = k by omega]
      have hfx : first ≠ -1 → (0 ≤ best ∧ I0 44 7 ≤ first ∧ first < I0 44 7 + k) ∧ es_gw (es_cut (I0 44)) sf (I0 44 9 - 1).toNat first 0 = best ∧ ∀ y, I0 44 7 ≤ y → y < first → es_gw (es_cut (I0 44)) sf (I0 44 9 - 1).toNat y 0 ≠ best := by
        intro h
        rcases hfi with c | c
        · exact absurd c.2 h
        · exact c
      have hfy : first = -1 → best = -1 := by
        intro h
        rcases hfi with c | c
        · exact c.1
        · have := c.1
          omega
      refine am_go 1 [] rfl trivial ?_
      repeat' (first
        | (refine am_gp 80 [134, 199] rfl (by first | trivial | exact Or.inl rfl | exact Or.inr rfl | (simp (decide := true) only [am_p, am_u_at, am_u_j, am_u_ne]; omega) | (simp (decide := true) only [am_p, and_true, true_and, true_or, or_true, am_u_at, am_u_j, am_u_ne]; omega) | (simp (decide := true) [am_p, am_u_at, am_u_j, am_u_ne]; omega)) ?_)
        | (show am_V _ _ _ _ _ _ _; simp only [Int.reduceToNat])
        | (refine am_bt rfl (by first | omega | (simp (decide := true) only [am_u_at, am_u_j, am_u_ne]; omega)) (by first | omega | (simp (decide := true) only [am_u_at, am_u_j, am_u_ne]; omega)) ?_)
        | (refine am_bf rfl (by first | omega | (simp (decide := true) only [am_u_at, am_u_j, am_u_ne]; omega)) (by first | omega | (simp (decide := true) only [am_u_at, am_u_j, am_u_ne]; omega)) ?_)
        | (refine am_br rfl (by first | omega | (simp (decide := true) only [am_u_at, am_u_j, am_u_ne]; omega)) (fun h => ?_) (fun h => ?_))
        | (refine am_cS (y' := Y_mo_cellAt) rfl lk_mo_147 ok_mo_cellAt rfl rfl (c_cellAt _ _ _ _ _) ?_; rintro r I ⟨rfl, rfl⟩)
        | (refine am_rt rfl (by first | trivial | exact Or.inl rfl | exact Or.inr rfl) ?_))
      · have hdt := ek1 (by omega)
        obtain ⟨c1, c2, c3⟩ := hfx (by omega)
        refine am_wk [5] ?_
        rw [← hdt]
        refine last I hpu hf1 hrows (by omega) first ?_
        show first = es_fst (es_x (es_cut (I0 44)) sf ((0 : Nat) : Int) (es_cut (I0 44) 7) 0) (es_dl (es_cut (I0 44)) sf 0 (es_cut (I0 44) 7, 0)) (es_cut (I0 44) 7) (es_cut (I0 44) 8 + 1 - es_cut (I0 44) 7).toNat
        have hxx : ∀ y, I0 44 7 ≤ y → y ≤ I0 44 8 → es_x (es_cut (I0 44)) sf ((0 : Nat) : Int) (es_cut (I0 44) 7) 0 y = es_gw (es_cut (I0 44)) sf (I0 44 9 - 1).toNat y 0 := by
          intro y y1 y2
          unfold es_x
          rw [R7, R8, R9, if_pos ⟨y1, y2⟩, if_pos (by omega)]
        have hdl : es_dl (es_cut (I0 44)) sf 0 (es_cut (I0 44) 7, 0) = best := hdt
        rw [hdl]
        refine (es_fst_eq _ _ first (by rw [R7]; exact c1.2.1) (by rw [R7, R8]; omega) ?_ ?_).symm
        · rw [hxx first c1.2.1 (by omega)]
          exact c2
        · intro y y1 y2
          rw [R7] at y1
          rw [hxx y y1 (by omega)]
          exact c3 y y1 y2
      · have hdt := ek1 (by omega)
        exact Or.inr (Or.inl ⟨⟨hpu, by have := hfy (by omega); omega⟩, rfl, hf1⟩)
      · rw [show I0 44 7 + (k : Int) + 1 = I0 44 7 + ((k + 1 : Nat) : Int) by omega]
        refine ih (k + 1) best first I hpu hf1 hrows (by omega) (by omega) (by rw [e9]; omega) ?_
        rcases hfi with c | c
        · exact Or.inl c
        · obtain ⟨c1, c2, c3⟩ := c
          exact Or.inr ⟨by omega, c2, c3⟩
      · rw [show I0 44 7 + (k : Int) + 1 = I0 44 7 + ((k + 1 : Nat) : Int) by omega, hent (by omega)]
        refine ih (k + 1) _ (I0 44 7 + k) I hpu hf1 hrows (by omega) (by omega) (by rw [e9]; omega) (Or.inr ⟨⟨by omega, by omega, by omega⟩, rfl, ?_⟩)
        intro y y1 y2
        have := hub y y1 y2
        omega
  have loopi : ∀ (m : Nat) (i : Int) (I : am_I), (0 ≤ pu ∧ pu ≤ 5) → -1 ≤ i → i < I0 44 9 → i + 1 < m → am_fr I0 I [54] → (∀ i' : Int, i < i' → i' < I0 44 9 → es_row_mw (I0 44) sf (I 54) i') → am_V (d + 4) Y_mo_drill (fun r I' => (¬ (0 ≤ pu ∧ pu ≤ 5) ∧ r = some (.inl (-2)) ∧ I' = I0) ∨ (((0 ≤ pu ∧ pu ≤ 5) ∧ es_dt (es_cut (I0 44)) sf = -1) ∧ r = some (.inl (-1)) ∧ am_fr I0 I' [54]) ∨ (((0 ≤ pu ∧ pu ≤ 5) ∧ 0 ≤ es_dt (es_cut (I0 44)) sf) ∧ r = some (.inl (es_dt (es_cut (I0 44)) sf)) ∧ am_fr I0 I' [44, 45, 46, 54] ∧ I' 44 = am_up (am_up (I0 44) 0 (I0 44 9)) 6 0 ∧ ∀ j : Nat, (j : Int) < I0 44 9 → I' 45 j = (es_dp (es_cut (I0 44)) sf (j + 1)).1 ∧ I' 46 j = 24)) 22 [(0, .inr (.inr 44)), (1, .inl pu), (2, .inl i)] [] I := by
    intro m
    induction m with
    | zero => intro i I hpu h1 h2 h3; omega
    | succ m ih =>
      intro i I hpu h1 h2 h3 hf hrw
      have loopp : ∀ (k : Nat) (p : Int) (I : am_I), 0 ≤ i → I0 44 7 ≤ p → p ≤ I0 44 8 + 1 → I0 44 8 + 1 - p < k → am_fr I0 I [54] → (∀ i' : Int, i < i' → i' < I0 44 9 → es_row_mw (I0 44) sf (I 54) i') → (∀ q u : Int, I0 44 7 ≤ q → q < p → 0 ≤ u → u ≤ 17 → I 54 ((37 * i + (q - I0 44 7)) * 18 + u).toNat = es_gw (I0 44) sf (I0 44 9 - 1 - i).toNat q u) → am_V (d + 4) Y_mo_drill (fun r I' => (¬ (0 ≤ pu ∧ pu ≤ 5) ∧ r = some (.inl (-2)) ∧ I' = I0) ∨ (((0 ≤ pu ∧ pu ≤ 5) ∧ es_dt (es_cut (I0 44)) sf = -1) ∧ r = some (.inl (-1)) ∧ am_fr I0 I' [54]) ∨ (((0 ≤ pu ∧ pu ≤ 5) ∧ 0 ≤ es_dt (es_cut (I0 44)) sf) ∧ r = some (.inl (es_dt (es_cut (I0 44)) sf)) ∧ am_fr I0 I' [44, 45, 46, 54] ∧ I' 44 = am_up (am_up (I0 44) 0 (I0 44 9)) 6 0 ∧ ∀ j : Nat, (j : Int) < I0 44 9 → I' 45 j = (es_dp (es_cut (I0 44)) sf (j + 1)).1 ∧ I' 46 j = 24)) 31 [(0, .inr (.inr 44)), (1, .inl pu), (2, .inl i), (3, .inl p)] [] I := by
        intro k
        induction k with
        | zero => intro p I g0 g1 g2 g3; omega
        | succ k ihp =>
          intro p I g0 g1 g2 g3 hf hrw hq
          have loops : ∀ (n : Nat) (s : Int) (I : am_I), p ≤ I0 44 8 → 0 ≤ s → s ≤ 18 → 18 - s < n → am_fr I0 I [54] → (∀ i' : Int, i < i' → i' < I0 44 9 → es_row_mw (I0 44) sf (I 54) i') → (∀ q u : Int, I0 44 7 ≤ q → q < p → 0 ≤ u → u ≤ 17 → I 54 ((37 * i + (q - I0 44 7)) * 18 + u).toNat = es_gw (I0 44) sf (I0 44 9 - 1 - i).toNat q u) → (∀ u : Int, 0 ≤ u → u < s → I 54 ((37 * i + (p - I0 44 7)) * 18 + u).toNat = es_gw (I0 44) sf (I0 44 9 - 1 - i).toNat p u) → am_V (d + 4) Y_mo_drill (fun r I' => (¬ (0 ≤ pu ∧ pu ≤ 5) ∧ r = some (.inl (-2)) ∧ I' = I0) ∨ (((0 ≤ pu ∧ pu ≤ 5) ∧ es_dt (es_cut (I0 44)) sf = -1) ∧ r = some (.inl (-1)) ∧ am_fr I0 I' [54]) ∨ (((0 ≤ pu ∧ pu ≤ 5) ∧ 0 ≤ es_dt (es_cut (I0 44)) sf) ∧ r = some (.inl (es_dt (es_cut (I0 44)) sf)) ∧ am_fr I0 I' [44, 45, 46, 54] ∧ I' 44 = am_up (am_up (I0 44) 0 (I0 44 9)) 6 0 ∧ ∀ j : Nat, (j : Int) < I0 44 9 → I' 45 j = (es_dp (es_cut (I0 44)) sf (j + 1)).1 ∧ I' 46 j = 24)) 42 [(0, .inr (.inr 44)), (1, .inl pu), (2, .inl i), (3, .inl p), (4, .inl s)] [] I := by
            intro n
            induction n with
            | zero => intro s I f0 f1 f2 f3; omega
            | succ n ihs =>
              intro s I f0 f1 f2 f3 hf hrw hq hs
              have e44 : I 44 = I0 44 := hf 44 rfl
              have e52 : I 52 = I0 52 := hf 52 rfl
              have e53 : I 53 = I0 53 := hf 53 rfl
              have e7 : I 44 7 = I0 44 7 := congrFun e44 7
              have e8 : I 44 8 = I0 44 8 := congrFun e44 8
              have e9 : I 44 9 = I0 44 9 := congrFun e44 9
              have hr' : es_rm (I 44) := by rw [e44]; exact hr
              have hA' : es_hA (I 52) (I 53) := by rw [e52, e53]; exact hA
              have hrw' : i < I0 44 9 - 1 → es_row_mw (I 44) (es_ws (es_pw (I 52) (I 53) pu)) (I 54) (i + 1) := fun h => by rw [e44, e52, e53, hsf]; exact hrw _ (by omega) (by omega)
              have step : ∀ v : Int, s < 18 → v = es_gw (I0 44) sf (I0 44 9 - 1 - i).toNat p s → am_V (d + 4) Y_mo_drill (fun r I' => (¬ (0 ≤ pu ∧ pu ≤ 5) ∧ r = some (.inl (-2)) ∧ I' = I0) ∨ (((0 ≤ pu ∧ pu ≤ 5) ∧ es_dt (es_cut (I0 44)) sf = -1) ∧ r = some (.inl (-1)) ∧ am_fr I0 I' [54]) ∨ (((0 ≤ pu ∧ pu ≤ 5) ∧ 0 ≤ es_dt (es_cut (I0 44)) sf) ∧ r = some (.inl (es_dt (es_cut (I0 44)) sf)) ∧ am_fr I0 I' [44, 45, 46, 54] ∧ I' 44 = am_up (am_up (I0 44) 0 (I0 44 9)) 6 0 ∧ ∀ j : Nat, (j : Int) < I0 44 9 → I' 45 j = (es_dp (es_cut (I0 44)) sf (j + 1)).1 ∧ I' 46 j = 24)) 42 [(0, .inr (.inr 44)), (1, .inl pu), (2, .inl i), (3, .inl p), (4, .inl (s + 1))] [] (am_u I 54 ((37 * i + (p - I 44 7)) * 18 + s).toNat v) := by
                intro v hs8 hv
                refine ihs (s + 1) _ f0 (by omega) (by omega) (by omega) (hf.u _ _ rfl) ?_ ?_ ?_
                · intro i' h5 h6
                  refine es_row_mw_u (hrw i' h5 h6) (fun q u g7 g8 g9 g10 => ?_)
                  rw [am_u_eq, e7, am_up_ne (by omega)]
                · intro q u g7 g8 g9 g10
                  rw [am_u_eq, e7, am_up_ne (by omega)]
                  exact hq q u g7 g8 g9 g10
                · intro u g7 g8
                  rw [am_u_eq, e7]
                  by_cases c : u = s
                  · rw [c, am_up_eq]
                    exact hv
                  · rw [am_up_ne (by omega)]
                    exact hs u g7 (by omega)
              refine am_go 1 [] rfl trivial ?_
              repeat' (first
                | (refine am_gp 80 [31, 42, 94] rfl (by first | trivial | exact Or.inl rfl | exact Or.inr rfl | (simp (decide := true) only [am_p, am_u_at, am_u_j, am_u_ne]; omega) | (simp (decide := true) only [am_p, and_true, true_and, true_or, or_true, am_u_at, am_u_j, am_u_ne]; omega) | (simp (decide := true) [am_p, am_u_at, am_u_j, am_u_ne]; omega)) ?_)
                | (show am_V _ _ _ _ _ _ _; simp only [Int.reduceToNat])
                | (refine am_bt rfl (by first | omega | (simp (decide := true) only [am_u_at, am_u_j, am_u_ne]; omega)) (by first | omega | (simp (decide := true) only [am_u_at, am_u_j, am_u_ne]; omega)) ?_)
                | (refine am_bf rfl (by first | omega | (simp (decide := true) only [am_u_at, am_u_j, am_u_ne]; omega)) (by first | omega | (simp (decide := true) only [am_u_at, am_u_j, am_u_ne]; omega)) ?_)
                | (refine am_br rfl (by first | omega | (simp (decide := true) only [am_u_at, am_u_j, am_u_ne]; omega)) (fun h => ?_) (fun h => ?_))
                | (refine am_cV (y' := Y_mo_fits) rfl lk_mo_151 ok_mo_fits rfl rfl rfl (c_fits _ _ _ _ (by first | omega | (simp (decide := true) only [am_u_at, am_u_j, am_u_ne]; omega)) (by first | omega | (simp (decide := true) only [am_u_at, am_u_j, am_u_ne]; omega)) (by first | omega | (simp (decide := true) only [am_u_at, am_u_j, am_u_ne]; omega)) (by first | omega | (simp (decide := true) only [am_u_at, am_u_j, am_u_ne]; omega)) (by first | omega | (simp (decide := true) only [am_u_at, am_u_j, am_u_ne]; omega))) ?_; rintro r I ⟨rfl, (⟨rfl, hft⟩ | ⟨rfl, hft⟩)⟩ <;> (try (exfalso; omega)))
                | (refine am_cS (y' := Y_mo_cellAt) rfl lk_mo_147 ok_mo_cellAt rfl rfl (c_cellAt _ _ _ _ _) ?_; rintro r I ⟨rfl, rfl⟩)
                | (refine am_rt rfl (by first | trivial | exact Or.inl rfl | exact Or.inr rfl) ?_))
              · refine am_wk [4] ?_
                refine ihp (p + 1) _ g0 (by omega) (by omega) (by omega) hf hrw ?_
                intro q u g7 g8 g9 g10
                by_cases c : q = p
                · rw [c]
                  exact hs u g9 (by omega)
                · exact hq q u g7 (by omega) g9 g10
              · have hrow := hrw' (by omega)
                repeat' (first
                  | (refine am_gp 80 [42] rfl (by first | trivial | exact Or.inl rfl | exact Or.inr rfl | (simp (decide := true) only [am_p, am_u_at, am_u_j, am_u_ne]; omega) | (simp (decide := true) only [am_p, and_true, true_and, true_or, or_true, am_u_at, am_u_j, am_u_ne]; omega) | (simp (decide := true) [am_p, am_u_at, am_u_j, am_u_ne]; omega)) ?_)
                  | (show am_V _ _ _ _ _ _ _; simp only [Int.reduceToNat])
                  | (refine am_bt rfl (by first | omega | (simp (decide := true) only [am_u_at, am_u_j, am_u_ne]; omega)) (by first | omega | (simp (decide := true) only [am_u_at, am_u_j, am_u_ne]; omega)) ?_)
                  | (refine am_bf rfl (by first | omega | (simp (decide := true) only [am_u_at, am_u_j, am_u_ne]; omega)) (by first | omega | (simp (decide := true) only [am_u_at, am_u_j, am_u_ne]; omega)) ?_)
                  | (refine am_br rfl (by first | omega | (simp (decide := true) only [am_u_at, am_u_j, am_u_ne]; omega)) (fun h => ?_) (fun h => ?_))
                  | (refine am_cV (y' := Y_mo_bestOn) rfl lk_mo_257 ok_mo_bestOn rfl rfl rfl (c_bestOn _ _ _ _ _ _ (by assumption) hpu (by assumption) (by first | omega | (simp (decide := true) only [am_u_at, am_u_j, am_u_ne]; omega)) (by first | omega | (simp (decide := true) only [am_u_at, am_u_j, am_u_ne]; omega)) (by first | omega | (simp (decide := true) only [am_u_at, am_u_j, am_u_ne]; omega)) (by assumption)) ?_; rintro r I ⟨rfl, rfl⟩)
                  | (refine am_rt rfl (by first | trivial | exact Or.inl rfl | exact Or.inr rfl) ?_))
                refine step _ (by omega) ?_
                rw [e44, e52, e53, hsf]
                rw [e44] at hft
                have hs9 := es_x_sum (R := es_cut (I0 44)) hrR (sf := sf) (i := i) (b := p) (u := s) ⟨by omega, by rw [R9]; omega⟩ hft.2
                rw [R7, R8, R9] at hs9
                exact hs9.symm
              · refine step _ (by omega) ?_
                rw [e44] at hft
                unfold es_gw
                rw [show (I0 44 9 - 1 - i).toNat = 0 by omega, es_G_end _ _ (by rw [show I0 44 9 - 1 = i by omega]; exact hft.2)]
              · refine step _ (by omega) ?_
                rw [e44] at hft
                unfold es_gw
                rw [es_G_no _ _ _ (by rw [show I0 44 9 - 1 - ((I0 44 9 - 1 - i).toNat : Int) = i by omega]; exact fun z => hft ⟨by omega, z⟩)]
          have e8 : I 44 8 = I0 44 8 := by rw [hf 44 rfl]
          refine am_go 1 [] rfl trivial ?_
          repeat' (first
            | (refine am_gp 80 [22, 42] rfl (by first | trivial | exact Or.inl rfl | exact Or.inr rfl | (simp (decide := true) only [am_p, am_u_at, am_u_j, am_u_ne]; omega) | (simp (decide := true) only [am_p, and_true, true_and, true_or, or_true, am_u_at, am_u_j, am_u_ne]; omega) | (simp (decide := true) [am_p, am_u_at, am_u_j, am_u_ne]; omega)) ?_)
            | (show am_V _ _ _ _ _ _ _; simp only [Int.reduceToNat])
            | (refine am_bt rfl (by first | omega | (simp (decide := true) only [am_u_at, am_u_j, am_u_ne]; omega)) (by first | omega | (simp (decide := true) only [am_u_at, am_u_j, am_u_ne]; omega)) ?_)
            | (refine am_bf rfl (by first | omega | (simp (decide := true) only [am_u_at, am_u_j, am_u_ne]; omega)) (by first | omega | (simp (decide := true) only [am_u_at, am_u_j, am_u_ne]; omega)) ?_)
            | (refine am_br rfl (by first | omega | (simp (decide := true) only [am_u_at, am_u_j, am_u_ne]; omega)) (fun h => ?_) (fun h => ?_))
            | (refine am_rt rfl (by first | trivial | exact Or.inl rfl | exact Or.inr rfl) ?_))
          · refine am_wk [3] ?_
            refine ih (i - 1) _ hpu (by omega) (by omega) (by omega) hf ?_
            intro i' h5 h6
            by_cases c : i' = i
            · rw [c]
              exact fun q u g7 g8 g9 g10 => hq q u g7 (by omega) g9 g10
            · exact hrw i' (by omega) h6
          · exact loops 19 0 _ (by omega) (by omega) (by omega) (by omega) hf hrw hq (fun u g7 g8 => by omega)
      have e7 : I 44 7 = I0 44 7 := by rw [hf 44 rfl]
      refine am_go 1 [] rfl trivial ?_
      repeat' (first
        | (refine am_gp 80 [31, 134] rfl (by first | trivial | exact Or.inl rfl | exact Or.inr rfl | (simp (decide := true) only [am_p, am_u_at, am_u_j, am_u_ne]; omega) | (simp (decide := true) only [am_p, and_true, true_and, true_or, or_true, am_u_at, am_u_j, am_u_ne]; omega) | (simp (decide := true) [am_p, am_u_at, am_u_j, am_u_ne]; omega)) ?_)
        | (show am_V _ _ _ _ _ _ _; simp only [Int.reduceToNat])
        | (refine am_bt rfl (by first | omega | (simp (decide := true) only [am_u_at, am_u_j, am_u_ne]; omega)) (by first | omega | (simp (decide := true) only [am_u_at, am_u_j, am_u_ne]; omega)) ?_)
        | (refine am_bf rfl (by first | omega | (simp (decide := true) only [am_u_at, am_u_j, am_u_ne]; omega)) (by first | omega | (simp (decide := true) only [am_u_at, am_u_j, am_u_ne]; omega)) ?_)
        | (refine am_br rfl (by first | omega | (simp (decide := true) only [am_u_at, am_u_j, am_u_ne]; omega)) (fun h => ?_) (fun h => ?_))
        | (refine am_rt rfl (by first | trivial | exact Or.inl rfl | exact Or.inr rfl) ?_))
      · have h9 := scan 200 0 (-1) (-1) I hpu hf (fun i' h5 h6 => hrw i' (by omega) h6) (by omega) (by omega) rfl (Or.inl ⟨rfl, rfl⟩)
        rw [show I0 44 7 + ((0 : Nat) : Int) = I 44 7 by omega] at h9
        exact h9
      · rw [e7]
        exact loopp 200 (I0 44 7) I (by omega) (by omega) (by omega) (by omega) hf hrw (fun q u g7 g8 => by omega)
  repeat' (first
    | (refine am_gp 80 [22] rfl (by first | trivial | exact Or.inl rfl | exact Or.inr rfl | (simp (decide := true) only [am_p, am_u_at, am_u_j, am_u_ne]; omega) | (simp (decide := true) only [am_p, and_true, true_and, true_or, or_true, am_u_at, am_u_j, am_u_ne]; omega) | (simp (decide := true) [am_p, am_u_at, am_u_j, am_u_ne]; omega)) ?_)
    | (show am_V _ _ _ _ _ _ _; simp only [Int.reduceToNat])
    | (refine am_bt rfl (by first | omega | (simp (decide := true) only [am_u_at, am_u_j, am_u_ne]; omega)) (by first | omega | (simp (decide := true) only [am_u_at, am_u_j, am_u_ne]; omega)) ?_)
    | (refine am_bf rfl (by first | omega | (simp (decide := true) only [am_u_at, am_u_j, am_u_ne]; omega)) (by first | omega | (simp (decide := true) only [am_u_at, am_u_j, am_u_ne]; omega)) ?_)
    | (refine am_br rfl (by first | omega | (simp (decide := true) only [am_u_at, am_u_j, am_u_ne]; omega)) (fun h => ?_) (fun h => ?_))
    | (refine am_cS (y' := Y_mo_in) rfl lk_mo_114 ok_mo_in rfl rfl (c_mo_in _ _ _ _ _ (by first | omega | (simp (decide := true) only [am_u_at, am_u_j, am_u_ne]; omega)) (by first | omega | (simp (decide := true) only [am_u_at, am_u_j, am_u_ne]; omega)) (by first | omega | (simp (decide := true) only [am_u_at, am_u_j, am_u_ne]; omega))) ?_; rintro r I0 ⟨rfl, (⟨rfl, h⟩ | ⟨rfl, h⟩)⟩ <;> (try (exfalso; omega)))
    | (refine am_rt rfl (by first | trivial | exact Or.inl rfl | exact Or.inr rfl) ?_))
  · exact loopi 17 (I0 44 9 - 1) _ (by omega) (by omega) (by omega) (by omega) am_fr.rf (fun i' h5 h6 => by omega)
  · exact Or.inl ⟨by omega, rfl, rfl⟩
