theorem c_pu_weight (d : Nat) (p s : Int) (I : am_I) (hp : 0 ≤ p ∧ p ≤ 5) (hs : 0 ≤ s ∧ s ≤ 12) (ha : 0 ≤ I (31 + p.toNat) s.toNat ∧ I (31 + p.toNat) s.toNat ≤ 20000) (hm : 0 ≤ I (38 + p.toNat) s.toNat ∧ I (38 + p.toNat) s.toNat ≤ 20000) : am_C d Y_pu_weight [.inr (.inr 29), .inl p, .inl s] I (fun r I' => I' = I ∧ r = some (.inl (es_wt (I (31 + p.toNat) s.toNat) (I (38 + p.toNat) s.toNat)))) := by
  refine am_enter ok_pu_weight rfl ?_
  unfold es_wt
  have h6 : p = 0 ∨ p = 1 ∨ p = 2 ∨ p = 3 ∨ p = 4 ∨ p = 5 := by omega
  rcases h6 with rfl | rfl | rfl | rfl | rfl | rfl
  · have ha' : 0 ≤ I 31 s.toNat ∧ I 31 s.toNat ≤ 20000 := ha
    have hm' : 0 ≤ I 38 s.toNat ∧ I 38 s.toNat ≤ 20000 := hm
    show am_V d Y_pu_weight (fun r I' => I' = I ∧ r = some (.inl (if I 31 s.toNat = 0 then 6 else 1 + 10 * I 38 s.toNat / I 31 s.toNat))) _ _ _ _
    repeat' (first
      | (refine am_gp 80 [] rfl (by first | trivial | exact Or.inl rfl | exact Or.inr rfl | (simp (decide := true) only [am_p, am_u_at, am_u_j, am_u_ne]; omega) | (simp (decide := true) only [am_p, and_true, true_and, true_or, or_true, am_u_at, am_u_j, am_u_ne]; omega) | (simp (decide := true) [am_p, am_u_at, am_u_j, am_u_ne]; omega)) ?_)
      | (show am_V _ _ _ _ _ _ _; simp only [Int.reduceToNat])
      | (refine am_bt rfl (by first | omega | (simp (decide := true) only [am_u_at, am_u_j, am_u_ne]; omega)) (by first | omega | (simp (decide := true) only [am_u_at, am_u_j, am_u_ne]; omega)) ?_)
      | (refine am_bf rfl (by first | omega | (simp (decide := true) only [am_u_at, am_u_j, am_u_ne]; omega)) (by first | omega | (simp (decide := true) only [am_u_at, am_u_j, am_u_ne]; omega)) ?_)
      | (refine am_br rfl (by first | omega | (simp (decide := true) only [am_u_at, am_u_j, am_u_ne]; omega)) (fun h => ?_) (fun h => ?_))
      | (refine am_rt rfl (by first | trivial | exact Or.inl rfl | exact Or.inr rfl) ?_))
    · exact ⟨rfl, by rw [if_neg (by omega)]⟩
    · exact ⟨rfl, by rw [if_pos (by omega)]⟩
  · have ha' : 0 ≤ I 32 s.toNat ∧ I 32 s.toNat ≤ 20000 := ha
    have hm' : 0 ≤ I 39 s.toNat ∧ I 39 s.toNat ≤ 20000 := hm
    show am_V d Y_pu_weight (fun r I' => I' = I ∧ r = some (.inl (if I 32 s.toNat = 0 then 6 else 1 + 10 * I 39 s.toNat / I 32 s.toNat))) _ _ _ _
    repeat' (first
      | (refine am_gp 80 [] rfl (by first | trivial | exact Or.inl rfl | exact Or.inr rfl | (simp (decide := true) only [am_p, am_u_at, am_u_j, am_u_ne]; omega) | (simp (decide := true) only [am_p, and_true, true_and, true_or, or_true, am_u_at, am_u_j, am_u_ne]; omega) | (simp (decide := true) [am_p, am_u_at, am_u_j, am_u_ne]; omega)) ?_)
      | (show am_V _ _ _ _ _ _ _; simp only [Int.reduceToNat])
      | (refine am_bt rfl (by first | omega | (simp (decide := true) only [am_u_at, am_u_j, am_u_ne]; omega)) (by first | omega | (simp (decide := true) only [am_u_at, am_u_j, am_u_ne]; omega)) ?_)
      | (refine am_bf rfl (by first | omega | (simp (decide := true) only [am_u_at, am_u_j, am_u_ne]; omega)) (by first | omega | (simp (decide := true) only [am_u_at, am_u_j, am_u_ne]; omega)) ?_)
      | (refine am_br rfl (by first | omega | (simp (decide := true) only [am_u_at, am_u_j, am_u_ne]; omega)) (fun h => ?_) (fun h => ?_))
      | (refine am_rt rfl (by first | trivial | exact Or.inl rfl | exact Or.inr rfl) ?_))
    · exact ⟨rfl, by rw [if_neg (by omega)]⟩
    · exact ⟨rfl, by rw [if_pos (by omega)]⟩
  · have ha' : 0 ≤ I 33 s.toNat ∧ I 33 s.toNat ≤ 20000 := ha
    have hm' : 0 ≤ I 40 s.toNat ∧ I 40 s.toNat ≤ 20000 := hm
    show am_V d Y_pu_weight (fun r I' => I' = I ∧ r = some (.inl (if I 33 s.toNat = 0 then 6 else 1 + 10 * I 40 s.toNat / I 33 s.toNat))) _ _ _ _
    repeat' (first
      | (refine am_gp 80 [] rfl (by first | trivial | exact Or.inl rfl | exact Or.inr rfl | (simp (decide := true) only [am_p, am_u_at, am_u_j, am_u_ne]; omega) | (simp (decide := true) only [am_p, and_true, true_and, true_or, or_true, am_u_at, am_u_j, am_u_ne]; omega) | (simp (decide := true) [am_p, am_u_at, am_u_j, am_u_ne]; omega)) ?_)
      | (show am_V _ _ _ _ _ _ _; simp only [Int.reduceToNat])
      | (refine am_bt rfl (by first | omega | (simp (decide := true) only [am_u_at, am_u_j, am_u_ne]; omega)) (by first | omega | (simp (decide := true) only [am_u_at, am_u_j, am_u_ne]; omega)) ?_)
      | (refine am_bf rfl (by first | omega | (simp (decide := true) only [am_u_at, am_u_j, am_u_ne]; omega)) (by first | omega | (simp (decide := true) only [am_u_at, am_u_j, am_u_ne]; omega)) ?_)
      | (refine am_br rfl (by first | omega | (simp (decide := true) only [am_u_at, am_u_j, am_u_ne]; omega)) (fun h => ?_) (fun h => ?_))
      | (refine am_rt rfl (by first | trivial | exact Or.inl rfl | exact Or.inr rfl) ?_))
    · exact ⟨rfl, by rw [if_neg (by omega)]⟩
    · exact ⟨rfl, by rw [if_pos (by omega)]⟩
  · have ha' : 0 ≤ I 34 s.toNat ∧ I 34 s.toNat ≤ 20000 := ha
    have hm' : 0 ≤ I 41 s.toNat ∧ I 41 s.toNat ≤ 20000 := hm
    show am_V d Y_pu_weight (fun r I' => I' = I ∧ r = some (.inl (if I 34 s.toNat = 0 then 6 else 1 + 10 * I 41 s.toNat / I 34 s.toNat))) _ _ _ _
    repeat' (first
      | (refine am_gp 80 [] rfl (by first | trivial | exact Or.inl rfl | exact Or.inr rfl | (simp (decide := true) only [am_p, am_u_at, am_u_j, am_u_ne]; omega) | (simp (decide := true) only [am_p, and_true, true_and, true_or, or_true, am_u_at, am_u_j, am_u_ne]; omega) | (simp (decide := true) [am_p, am_u_at, am_u_j, am_u_ne]; omega)) ?_)
      | (show am_V _ _ _ _ _ _ _; simp only [Int.reduceToNat])
      | (refine am_bt rfl (by first | omega | (simp (decide := true) only [am_u_at, am_u_j, am_u_ne]; omega)) (by first | omega | (simp (decide := true) only [am_u_at, am_u_j, am_u_ne]; omega)) ?_)
      | (refine am_bf rfl (by first | omega | (simp (decide := true) only [am_u_at, am_u_j, am_u_ne]; omega)) (by first | omega | (simp (decide := true) only [am_u_at, am_u_j, am_u_ne]; omega)) ?_)
      | (refine am_br rfl (by first | omega | (simp (decide := true) only [am_u_at, am_u_j, am_u_ne]; omega)) (fun h => ?_) (fun h => ?_))
      | (refine am_rt rfl (by first | trivial | exact Or.inl rfl | exact Or.inr rfl) ?_))
    · exact ⟨rfl, by rw [if_neg (by omega)]⟩
    · exact ⟨rfl, by rw [if_pos (by omega)]⟩
  · have ha' : 0 ≤ I 35 s.toNat ∧ I 35 s.toNat ≤ 20000 := ha
    have hm' : 0 ≤ I 42 s.toNat ∧ I 42 s.toNat ≤ 20000 := hm
    show am_V d Y_pu_weight (fun r I' => I' = I ∧ r = some (.inl (if I 35 s.toNat = 0 then 6 else 1 + 10 * I 42 s.toNat / I 35 s.toNat))) _ _ _ _
    repeat' (first
      | (refine am_gp 80 [] rfl (by first | trivial | exact Or.inl rfl | exact Or.inr rfl | (simp (decide := true) only [am_p, am_u_at, am_u_j, am_u_ne]; omega) | (simp (decide := true) only [am_p, and_true, true_and, true_or, or_true, am_u_at, am_u_j, am_u_ne]; omega) | (simp (decide := true) [am_p, am_u_at, am_u_j, am_u_ne]; omega)) ?_)
      | (show am_V _ _ _ _ _ _ _; simp only [Int.reduceToNat])
      | (refine am_bt rfl (by first | omega | (simp (decide := true) only [am_u_at, am_u_j, am_u_ne]; omega)) (by first | omega | (simp (decide := true) only [am_u_at, am_u_j, am_u_ne]; omega)) ?_)
      | (refine am_bf rfl (by first | omega | (simp (decide := true) only [am_u_at, am_u_j, am_u_ne]; omega)) (by first | omega | (simp (decide := true) only [am_u_at, am_u_j, am_u_ne]; omega)) ?_)
      | (refine am_br rfl (by first | omega | (simp (decide := true) only [am_u_at, am_u_j, am_u_ne]; omega)) (fun h => ?_) (fun h => ?_))
      | (refine am_rt rfl (by first | trivial | exact Or.inl rfl | exact Or.inr rfl) ?_))
    · exact ⟨rfl, by rw [if_neg (by omega)]⟩
    · exact ⟨rfl, by rw [if_pos (by omega)]⟩
  · have ha' : 0 ≤ I 36 s.toNat ∧ I 36 s.toNat ≤ 20000 := ha
    have hm' : 0 ≤ I 43 s.toNat ∧ I 43 s.toNat ≤ 20000 := hm
    show am_V d Y_pu_weight (fun r I' => I' = I ∧ r = some (.inl (if I 36 s.toNat = 0 then 6 else 1 + 10 * I 43 s.toNat / I 36 s.toNat))) _ _ _ _
    repeat' (first
      | (refine am_gp 80 [] rfl (by first | trivial | exact Or.inl rfl | exact Or.inr rfl | (simp (decide := true) only [am_p, am_u_at, am_u_j, am_u_ne]; omega) | (simp (decide := true) only [am_p, and_true, true_and, true_or, or_true, am_u_at, am_u_j, am_u_ne]; omega) | (simp (decide := true) [am_p, am_u_at, am_u_j, am_u_ne]; omega)) ?_)
      | (show am_V _ _ _ _ _ _ _; simp only [Int.reduceToNat])
      | (refine am_bt rfl (by first | omega | (simp (decide := true) only [am_u_at, am_u_j, am_u_ne]; omega)) (by first | omega | (simp (decide := true) only [am_u_at, am_u_j, am_u_ne]; omega)) ?_)
      | (refine am_bf rfl (by first | omega | (simp (decide := true) only [am_u_at, am_u_j, am_u_ne]; omega)) (by first | omega | (simp (decide := true) only [am_u_at, am_u_j, am_u_ne]; omega)) ?_)
      | (refine am_br rfl (by first | omega | (simp (decide := true) only [am_u_at, am_u_j, am_u_ne]; omega)) (fun h => ?_) (fun h => ?_))
      | (refine am_rt rfl (by first | trivial | exact Or.inl rfl | exact Or.inr rfl) ?_))
    · exact ⟨rfl, by rw [if_neg (by omega)]⟩
    · exact ⟨rfl, by rw [if_pos (by omega)]⟩
def es_pwc (I : am_I) (p : Int) (j : Nat) : Int := es_wt (I (31 + p.toNat) j) (I (38 + p.toNat) j)
def es_hP (I : am_I) : Prop := ∀ p j : Nat, p < 6 → j < 13 → (0 ≤ I (31 + p) j ∧ I (31 + p) j ≤ 20000) ∧ (0 ≤ I (38 + p) j ∧ I (38 + p) j ≤ 20000)
def es_i12 (I : am_I) : Prop := ∀ j : Nat, -1 ≤ I 12 j ∧ I 12 j ≤ 1000000000
theorem am_nm {a : Nat} {l : List Nat} (h : ¬ a ∈ l) : am_mem a l = false := by
  cases c : am_mem a l with
  | false => rfl
  | true => exact absurd (am_mem_iff.1 c) h
theorem c_es_drill (d : Nat) (pu : Int) (I0 : am_I) (hpr : (-2147483648 ≤ pu ∧ pu < 2147483648)) (hr : es_rb I0) (h12 : es_i12 I0) (hP : es_hP I0) : am_C (d + 5) Y_es_drill [.inr (.inr 0), .inl pu] I0 (fun r I' => (¬ (0 ≤ pu ∧ pu ≤ 5) ∧ r = some (.inl (-2)) ∧ I' = I0) ∨ (((0 ≤ pu ∧ pu ≤ 5) ∧ es_dt (es_Rc I0) (es_ws (es_pwc I0 pu)) = -1) ∧ r = some (.inl (-1)) ∧ am_fr I0 I' [11, 12, 13] ∧ es_i12 I') ∨ (((0 ≤ pu ∧ pu ≤ 5) ∧ 0 ≤ es_dt (es_Rc I0) (es_ws (es_pwc I0 pu))) ∧ r = some (.inl (es_dt (es_Rc I0) (es_ws (es_pwc I0 pu)))) ∧ am_fr I0 I' [1, 2, 3, 11, 12, 13, 23] ∧ es_i12 I' ∧ I' 23 9 = 0 ∧ I' 1 2 = I0 7 3 ∧ ∀ j : Nat, (j : Int) < I0 7 3 → I' 2 j = (es_dp (es_Rc I0) (es_ws (es_pwc I0 pu)) (j + 1)).1 ∧ I' 3 j = 24)) := by
  refine am_enter ok_es_drill rfl ?_
  obtain ⟨r1, r2, r3, r4⟩ := id hr
  have rest : ∀ (J2 : am_I), (0 ≤ pu ∧ pu ≤ 5) → am_fr I0 J2 [11, 13] → J2 11 2 = 0 → (∀ j : Nat, j < 13 → J2 13 j = es_pwc I0 pu j) → am_V (d + 5) Y_es_drill (fun r I' => (¬ (0 ≤ pu ∧ pu ≤ 5) ∧ r = some (.inl (-2)) ∧ I' = I0) ∨ (((0 ≤ pu ∧ pu ≤ 5) ∧ es_dt (es_Rc I0) (es_ws (es_pwc I0 pu)) = -1) ∧ r = some (.inl (-1)) ∧ am_fr I0 I' [11, 12, 13] ∧ es_i12 I') ∨ (((0 ≤ pu ∧ pu ≤ 5) ∧ 0 ≤ es_dt (es_Rc I0) (es_ws (es_pwc I0 pu))) ∧ r = some (.inl (es_dt (es_Rc I0) (es_ws (es_pwc I0 pu)))) ∧ am_fr I0 I' [1, 2, 3, 11, 12, 13, 23] ∧ es_i12 I' ∧ I' 23 9 = 0 ∧ I' 1 2 = I0 7 3 ∧ ∀ j : Nat, (j : Int) < I0 7 3 → I' 2 j = (es_dp (es_Rc I0) (es_ws (es_pwc I0 pu)) (j + 1)).1 ∧ I' 3 j = 24)) 51 [(0, .inr (.inr 0)), (1, .inl pu)] [] J2 := by
    intro J2 hpu hf h11 h13
    have e7 : J2 7 = I0 7 := hf 7 rfl
    have e8 : J2 8 = I0 8 := hf 8 rfl
    have hr2 : es_rb J2 := by unfold es_rb; rw [e7]; exact hr
    have hv2 : ∀ j : Nat, -1 ≤ J2 12 j ∧ J2 12 j ≤ 1000000000 := by rw [hf 12 rfl]; exact h12
    have hw2 : es_hw (J2 13) := by
      intro j hj
      rw [h13 j hj]
      have h1 := hP pu.toNat j (by omega) hj
      exact es_wt_rng h1.1 h1.2
    have hfl2 : J2 11 2 = 0 ∨ (J2 11 2 = 1 ∧ ∀ p : Int, 0 ≤ p → p < J2 7 3 → es_row_wt J2 J2 p) := Or.inl h11
    have eR : es_Rc J2 = es_Rc I0 := by unfold es_Rc; rw [e7, e8]
    have eW : es_ws (J2 13) = es_ws (es_pwc I0 pu) := es_ws_cg h13
    have hD1 : -1 ≤ es_dt (es_Rc J2) (es_ws (J2 13)) := es_fd_D (D := es_Dm) es_mm (fun q => (es_gw_D hw2 _ _ _ _).1) _
    have hD2 : es_dt (es_Rc J2) (es_ws (J2 13)) ≤ 20000000 := by
      refine es_fm_le (by omega) (fun q => ?_) _
      have h1 := es_gw_D hw2 (es_Rc J2) (es_Rc J2 9 - 1).toNat q 0
      have h2 : es_Rc J2 9 = J2 7 3 := rfl
      have h3 : J2 7 3 = I0 7 3 := congrFun e7 3
      omega
    repeat' (first
      | (refine am_gp 80 [] rfl (by first | trivial | exact Or.inl rfl | exact Or.inr rfl | (simp (decide := true) only [am_p, am_u_at, am_u_j, am_u_ne]; omega) | (simp (decide := true) only [am_p, and_true, true_and, true_or, or_true, am_u_at, am_u_j, am_u_ne]; omega) | (simp (decide := true) [am_p, am_u_at, am_u_j, am_u_ne]; omega)) ?_)
      | (show am_V _ _ _ _ _ _ _; simp only [Int.reduceToNat])
      | (refine am_bt rfl (by first | omega | (simp (decide := true) only [am_u_at, am_u_j, am_u_ne]; omega)) (by first | omega | (simp (decide := true) only [am_u_at, am_u_j, am_u_ne]; omega)) ?_)
      | (refine am_bf rfl (by first | omega | (simp (decide := true) only [am_u_at, am_u_j, am_u_ne]; omega)) (by first | omega | (simp (decide := true) only [am_u_at, am_u_j, am_u_ne]; omega)) ?_)
      | (refine am_br rfl (by first | omega | (simp (decide := true) only [am_u_at, am_u_j, am_u_ne]; omega)) (fun h => ?_) (fun h => ?_))
      | (refine am_cU (y' := Y_mt_fill) rfl lk_es_228_wt ok_mt_fill rfl rfl rfl (c_wt_fill _ J2 hr2 hv2 hw2 hfl2) ?_; rintro r I ⟨rfl, hfr, hf1, hvn, hrows⟩)
      | (refine am_cU (y' := Y_mt_total) rfl lk_es_229_wt ok_mt_total rfl rfl rfl (c_wt_tot _ _ J2 (hfr 7 rfl) (hfr 8 rfl) hr2 hvn hrows) ?_; rintro r I ⟨rfl, rfl⟩)
      | (refine am_cV (y' := Y_wt_spell) rfl lk_es_230_wt ok_wt_spell rfl rfl rfl (c_wt_spell _ _ J2 (hfr 7 rfl) (hfr 8 rfl) (hfr 13 rfl) hr2 hvn hw2 hrows (by omega)) ?_; rintro r I ⟨rfl, hfs, hsz, hsp⟩)
      | (refine am_cV (y' := Y_ju_forget) rfl lk_es_84 ok_ju_forget rfl rfl rfl (c_ju_forget _ _) ?_; rintro r I ⟨rfl, rfl⟩)
      | (refine am_rt rfl (by first | trivial | exact Or.inl rfl | exact Or.inr rfl) ?_))
    · rw [eR, eW] at *
      refine Or.inr (Or.inr ⟨⟨hpu, by omega⟩, rfl, ?_, ?_, ?_, ?_, ?_⟩)
      · exact (((hf.wd rfl).tr (hfr.wd rfl)).tr (hfs.wd rfl)).u _ _ rfl
      · intro j
        rw [am_u_ne (by decide), hfs 12 rfl]
        exact hvn j
      · simp (decide := true) only [am_u_at, am_u_j, am_u_ne]
      · rw [am_u_ne (by decide), hsz, e7]
      · intro j hj
        rw [am_u_ne (by decide), am_u_ne (by decide)]
        exact hsp j (by rw [e7]; exact hj)
    · rw [eR, eW] at *
      exact Or.inr (Or.inl ⟨⟨hpu, by omega⟩, rfl, (hf.wd rfl).tr (hfr.wd rfl), hvn⟩)
  have loop : ∀ (m : Nat) (s : Int) (I : am_I), (0 ≤ pu ∧ pu ≤ 5) → 0 ≤ s → s ≤ 13 → 13 - s < m → am_fr I0 I [13] → (∀ j : Nat, (j : Int) < s → I 13 j = es_pwc I0 pu j) → am_V (d + 5) Y_es_drill (fun r I' => (¬ (0 ≤ pu ∧ pu ≤ 5) ∧ r = some (.inl (-2)) ∧ I' = I0) ∨ (((0 ≤ pu ∧ pu ≤ 5) ∧ es_dt (es_Rc I0) (es_ws (es_pwc I0 pu)) = -1) ∧ r = some (.inl (-1)) ∧ am_fr I0 I' [11, 12, 13] ∧ es_i12 I') ∨ (((0 ≤ pu ∧ pu ≤ 5) ∧ 0 ≤ es_dt (es_Rc I0) (es_ws (es_pwc I0 pu))) ∧ r = some (.inl (es_dt (es_Rc I0) (es_ws (es_pwc I0 pu)))) ∧ am_fr I0 I' [1, 2, 3, 11, 12, 13, 23] ∧ es_i12 I' ∧ I' 23 9 = 0 ∧ I' 1 2 = I0 7 3 ∧ ∀ j : Nat, (j : Int) < I0 7 3 → I' 2 j = (es_dp (es_Rc I0) (es_ws (es_pwc I0 pu)) (j + 1)).1 ∧ I' 3 j = 24)) 14 [(0, .inr (.inr 0)), (1, .inl pu), (2, .inl s)] [] I := by
    intro m
    induction m with
    | zero => intro s I hpu h1 h2 h3; omega
    | succ m ih =>
      intro s I hpu h1 h2 h3 hf hin
      have ea : I (31 + pu.toNat) = I0 (31 + pu.toNat) := hf _ (am_nm (by simp; omega))
      have em : I (38 + pu.toNat) = I0 (38 + pu.toNat) := hf _ (am_nm (by simp; omega))
      have hq : s < 13 → (0 ≤ I (31 + pu.toNat) s.toNat ∧ I (31 + pu.toNat) s.toNat ≤ 20000) ∧ (0 ≤ I (38 + pu.toNat) s.toNat ∧ I (38 + pu.toNat) s.toNat ≤ 20000) := by
        intro h
        rw [ea, em]
        exact hP pu.toNat s.toNat (by omega) (by omega)
      refine am_go 1 [] rfl trivial ?_
      repeat' (first
        | (refine am_gp 80 [20, 51] rfl (by first | trivial | exact Or.inl rfl | exact Or.inr rfl | (simp (decide := true) only [am_p, am_u_at, am_u_j, am_u_ne]; omega) | (simp (decide := true) only [am_p, and_true, true_and, true_or, or_true, am_u_at, am_u_j, am_u_ne]; omega) | (simp (decide := true) [am_p, am_u_at, am_u_j, am_u_ne]; omega)) ?_)
        | (show am_V _ _ _ _ _ _ _; simp only [Int.reduceToNat])
        | (refine am_bt rfl (by first | omega | (simp (decide := true) only [am_u_at, am_u_j, am_u_ne]; omega)) (by first | omega | (simp (decide := true) only [am_u_at, am_u_j, am_u_ne]; omega)) ?_)
        | (refine am_bf rfl (by first | omega | (simp (decide := true) only [am_u_at, am_u_j, am_u_ne]; omega)) (by first | omega | (simp (decide := true) only [am_u_at, am_u_j, am_u_ne]; omega)) ?_)
        | (refine am_br rfl (by first | omega | (simp (decide := true) only [am_u_at, am_u_j, am_u_ne]; omega)) (fun h => ?_) (fun h => ?_))
        | (refine am_cU (y' := Y_mt_forget) rfl lk_es_227_wt ok_mt_forget rfl rfl rfl (c_wt_forget _ _) ?_; rintro r I ⟨rfl, rfl⟩)
        | (refine am_rt rfl (by first | trivial | exact Or.inl rfl | exact Or.inr rfl) ?_))
      · refine am_wk [2] ?_
        refine rest _ hpu ((hf.wd rfl).u _ _ rfl) (by simp (decide := true) only [am_u_at, am_u_j, am_u_ne]) ?_
        intro j hj
        rw [am_u_ne (by decide)]
        exact hin j (by omega)
      · obtain ⟨hq1, hq2⟩ := hq (by omega)
        repeat' (first
          | (refine am_gp 80 [14] rfl (by first | trivial | exact Or.inl rfl | exact Or.inr rfl | (simp (decide := true) only [am_p, am_u_at, am_u_j, am_u_ne]; omega) | (simp (decide := true) only [am_p, and_true, true_and, true_or, or_true, am_u_at, am_u_j, am_u_ne]; omega) | (simp (decide := true) [am_p, am_u_at, am_u_j, am_u_ne]; omega)) ?_)
          | (show am_V _ _ _ _ _ _ _; simp only [Int.reduceToNat])
          | (refine am_bt rfl (by first | omega | (simp (decide := true) only [am_u_at, am_u_j, am_u_ne]; omega)) (by first | omega | (simp (decide := true) only [am_u_at, am_u_j, am_u_ne]; omega)) ?_)
          | (refine am_bf rfl (by first | omega | (simp (decide := true) only [am_u_at, am_u_j, am_u_ne]; omega)) (by first | omega | (simp (decide := true) only [am_u_at, am_u_j, am_u_ne]; omega)) ?_)
          | (refine am_br rfl (by first | omega | (simp (decide := true) only [am_u_at, am_u_j, am_u_ne]; omega)) (fun h => ?_) (fun h => ?_))
          | (refine am_cV (y' := Y_pu_weight) rfl lk_es_213 ok_pu_weight rfl rfl rfl (c_pu_weight _ _ _ _ hpu (by first | omega | (simp (decide := true) only [am_u_at, am_u_j, am_u_ne]; omega)) (by assumption) (by assumption)) ?_; rintro r I ⟨rfl, rfl⟩)
          | (refine am_rt rfl (by first | trivial | exact Or.inl rfl | exact Or.inr rfl) ?_))
        refine ih (s + 1) _ hpu (by omega) (by omega) (by omega) (hf.u _ _ rfl) ?_
        intro j hj
        rw [am_u_eq]
        by_cases c : j = s.toNat
        · rw [c, am_up_eq, ea, em]
          rfl
        · rw [am_up_ne c]
          exact hin j (by omega)
  repeat' (first
    | (refine am_gp 80 [14] rfl (by first | trivial | exact Or.inl rfl | exact Or.inr rfl | (simp (decide := true) only [am_p, am_u_at, am_u_j, am_u_ne]; omega) | (simp (decide := true) only [am_p, and_true, true_and, true_or, or_true, am_u_at, am_u_j, am_u_ne]; omega) | (simp (decide := true) [am_p, am_u_at, am_u_j, am_u_ne]; omega)) ?_)
    | (show am_V _ _ _ _ _ _ _; simp only [Int.reduceToNat])
    | (refine am_bt rfl (by first | omega | (simp (decide := true) only [am_u_at, am_u_j, am_u_ne]; omega)) (by first | omega | (simp (decide := true) only [am_u_at, am_u_j, am_u_ne]; omega)) ?_)
    | (refine am_bf rfl (by first | omega | (simp (decide := true) only [am_u_at, am_u_j, am_u_ne]; omega)) (by first | omega | (simp (decide := true) only [am_u_at, am_u_j, am_u_ne]; omega)) ?_)
    | (refine am_br rfl (by first | omega | (simp (decide := true) only [am_u_at, am_u_j, am_u_ne]; omega)) (fun h => ?_) (fun h => ?_))
    | (refine am_cS (y' := Y_es_outside) rfl lk_es_72 ok_es_outside rfl rfl (c_outside _ _ _ _ _ (by first | omega | (simp (decide := true) only [am_u_at, am_u_j, am_u_ne]; omega)) (by first | omega | (simp (decide := true) only [am_u_at, am_u_j, am_u_ne]; omega)) (by first | omega | (simp (decide := true) only [am_u_at, am_u_j, am_u_ne]; omega))) ?_; rintro r I ⟨rfl, (⟨rfl, h⟩ | ⟨rfl, h⟩)⟩ <;> (try (exfalso; omega)))
    | (refine am_rt rfl (by first | trivial | exact Or.inl rfl | exact Or.inr rfl) ?_))
  · exact Or.inl ⟨by omega, rfl, rfl⟩
  · exact loop 14 0 _ (by omega) (by omega) (by omega) (by omega) am_fr.rf (fun j hj => by omega)
