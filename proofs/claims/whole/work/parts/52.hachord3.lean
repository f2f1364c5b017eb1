def es_i22 (I : am_I) : Prop := I 17 4 = 0 ∨ (I 17 4 = 1 ∧ ∀ q : Nat, (q : Int) < I 17 2 → es_r3c I I q)
theorem es_r3c_J {J J' I : am_I} {q : Nat} (h2 : J' 17 2 = J 17 2) (h3 : J' 17 3 = J 17 3) (h18 : J' 18 = J 18) (h19 : J' 19 = J 19) (h : es_r3c J I q) : es_r3c J' I q := by
  have e : es_Lc J' = es_Lc J := by
    funext i
    unfold es_Lc
    rw [h18, h19]
  unfold es_r3c at h ⊢
  rw [e, h2, h3]
  exact h
theorem c_ha_total (d : Nat) (I I0 : am_I) (hc : es_hc I0) (b2 : I 17 2 = I0 17 2) (hrows : ∀ q : Nat, (q : Int) < I0 17 2 → es_r3c I0 I q) : am_C (d + 2) Y_ha_total [.inr (.inr 17)] I (fun r I' => I' = I ∧ r = some (.inr (.inl (es_ctot (I0 17 3) (es_Lc I0) (I0 17 2).toNat)))) := by
  refine am_enter ok_ha_total rfl ?_
  obtain ⟨n1, n2, n3, n4, n5, n6⟩ := id hc
  by_cases c : 0 < I0 17 2
  · have hr0 := hrows 0 (by omega)
    have hcnt : I 20 0 = ((es_Lc I0 0).length : Int) := hr0.1.1
    have hlen := es_Lc_len hc (q := 0) (by omega)
    have loop : ∀ (m t : Nat), t ≤ (es_Lc I0 0).length → (es_Lc I0 0).length - t < m → am_V (d + 2) Y_ha_total (fun r I' => I' = I ∧ r = some (.inr (.inl (es_ctot (I0 17 3) (es_Lc I0) (I0 17 2).toNat)))) 4 [(0, .inr (.inr 17)), (1, .inr (.inl (es_fd es_oc 0 (es_cq (I0 17 3) (es_Lc I0) (I0 17 2).toNat 0 0) 0 t))), (3, .inl t)] [] I := by
      intro m
      induction m with
      | zero => intro t h1 h2; omega
      | succ m ih =>
        intro t h1 h2
        have hk := es_fc_D (f := es_cq (I0 17 3) (es_Lc I0) (I0 17 2).toNat 0 0) (fun x => es_cq_D _ _ _ _ _ _) 0 t
        have hqd := es_cq_D (I0 17 3) (es_Lc I0) (I0 17 2).toNat 0 0 (t : Int)
        have hqd2 : 0 ≤ es_cq (I0 17 3) (es_Lc I0) (I0 17 2).toNat 0 0 (t : Int) ∧ es_cq (I0 17 3) (es_Lc I0) (I0 17 2).toNat 0 0 (t : Int) ≤ 1000000000000000000 := hqd
        have hent : t < (es_Lc I0 0).length → I 22 (t : Int).toNat = es_cq (I0 17 3) (es_Lc I0) (I0 17 2).toNat 0 0 (t : Int) := by
          intro h
          have h5 := hr0.2 t h
          rw [show (((0 : Nat) : Int) * 6 + (t : Int)).toNat = (t : Int).toNat by omega] at h5
          rw [h5]
          exact (es_cq_t (Or.inl rfl)).symm
        have e9 : es_fd es_oc 0 (es_cq (I0 17 3) (es_Lc I0) (I0 17 2).toNat 0 0) 0 (t + 1) = es_oc (es_fd es_oc 0 (es_cq (I0 17 3) (es_Lc I0) (I0 17 2).toNat 0 0) 0 t) (es_cq (I0 17 3) (es_Lc I0) (I0 17 2).toNat 0 0 (t : Int)) := by
          show es_oc _ (es_cq (I0 17 3) (es_Lc I0) (I0 17 2).toNat 0 0 (0 + (t : Int))) = _
          rw [show 0 + (t : Int) = t by omega]
        refine am_go 1 [] rfl trivial ?_
        repeat' (first
          | (refine am_gp 80 [4, 21] rfl (by first | exact True.intro | (refine And.intro ?_ ?_ <;> decide) | exact Or.inl rfl | exact Or.inr rfl | (simp (decide := true) only [am_p, am_u_at, am_u_j, am_u_ne]; omega) | (simp (decide := true) only [am_p, and_true, true_and, true_or, or_true, am_u_at, am_u_j, am_u_ne]; omega) | (simp (decide := true) [am_p, am_u_at, am_u_j, am_u_ne]; omega)) ?_)
          | (show am_V _ _ _ _ _ _ _; simp only [Int.reduceToNat])
          | (refine am_bt rfl (by first | omega | (simp (decide := true) only [am_u_at, am_u_j, am_u_ne]; omega)) (by first | omega | (simp (decide := true) only [am_u_at, am_u_j, am_u_ne]; omega)) ?_)
          | (refine am_bf rfl (by first | omega | (simp (decide := true) only [am_u_at, am_u_j, am_u_ne]; omega)) (by first | omega | (simp (decide := true) only [am_u_at, am_u_j, am_u_ne]; omega)) ?_)
          | (refine am_br rfl (by first | omega | (simp (decide := true) only [am_u_at, am_u_j, am_u_ne]; omega)) (fun h => ?_) (fun h => ?_))
          | (refine am_rt rfl (by first | exact True.intro | (refine And.intro ?_ ?_ <;> decide) | exact Or.inl rfl | exact Or.inr rfl | (show _ ∨ _; omega)) ?_))
        · have et : t = (es_Lc I0 0).length := by omega
          refine ⟨rfl, ?_⟩
          unfold es_ctot
          rw [if_neg (by omega), ← et]
        · have hen := hent (by omega)
          repeat' (first
            | (refine am_gp 80 [4] rfl (by first | exact True.intro | (refine And.intro ?_ ?_ <;> decide) | exact Or.inl rfl | exact Or.inr rfl | (simp (decide := true) only [am_p, am_u_at, am_u_j, am_u_ne]; omega) | (simp (decide := true) only [am_p, and_true, true_and, true_or, or_true, am_u_at, am_u_j, am_u_ne]; omega) | (simp (decide := true) [am_p, am_u_at, am_u_j, am_u_ne]; omega)) ?_)
            | (show am_V _ _ _ _ _ _ _; simp only [Int.reduceToNat])
            | (refine am_bt rfl (by first | omega | (simp (decide := true) only [am_u_at, am_u_j, am_u_ne]; omega)) (by first | omega | (simp (decide := true) only [am_u_at, am_u_j, am_u_ne]; omega)) ?_)
            | (refine am_bf rfl (by first | omega | (simp (decide := true) only [am_u_at, am_u_j, am_u_ne]; omega)) (by first | omega | (simp (decide := true) only [am_u_at, am_u_j, am_u_ne]; omega)) ?_)
            | (refine am_br rfl (by first | omega | (simp (decide := true) only [am_u_at, am_u_j, am_u_ne]; omega)) (fun h => ?_) (fun h => ?_))
            | (refine am_cN (y' := Y_es_cappedSum) rfl lk_ha_65 ok_es_cappedSum rfl rfl (c_capped _ _ _ _ (by first | omega | (simp (decide := true) only [am_u_at, am_u_j, am_u_ne]; omega)) (by first | omega | (simp (decide := true) only [am_u_at, am_u_j, am_u_ne]; omega))) ?_; rintro r I ⟨rfl, rfl⟩)
            | (refine am_rt rfl (by first | exact True.intro | (refine And.intro ?_ ?_ <;> decide) | exact Or.inl rfl | exact Or.inr rfl | (show _ ∨ _; omega)) ?_))
          have h9 := ih (t + 1) (by omega) (by omega)
          rw [e9, show ((t + 1 : Nat) : Int) = (t : Int) + 1 by omega, ← hen] at h9
          exact h9
    repeat' (first
      | (refine am_gp 80 [4] rfl (by first | exact True.intro | (refine And.intro ?_ ?_ <;> decide) | exact Or.inl rfl | exact Or.inr rfl | (simp (decide := true) only [am_p, am_u_at, am_u_j, am_u_ne]; omega) | (simp (decide := true) only [am_p, and_true, true_and, true_or, or_true, am_u_at, am_u_j, am_u_ne]; omega) | (simp (decide := true) [am_p, am_u_at, am_u_j, am_u_ne]; omega)) ?_)
      | (show am_V _ _ _ _ _ _ _; simp only [Int.reduceToNat])
      | (refine am_bt rfl (by first | omega | (simp (decide := true) only [am_u_at, am_u_j, am_u_ne]; omega)) (by first | omega | (simp (decide := true) only [am_u_at, am_u_j, am_u_ne]; omega)) ?_)
      | (refine am_bf rfl (by first | omega | (simp (decide := true) only [am_u_at, am_u_j, am_u_ne]; omega)) (by first | omega | (simp (decide := true) only [am_u_at, am_u_j, am_u_ne]; omega)) ?_)
      | (refine am_br rfl (by first | omega | (simp (decide := true) only [am_u_at, am_u_j, am_u_ne]; omega)) (fun h => ?_) (fun h => ?_))
      | (refine am_rt rfl (by first | exact True.intro | (refine And.intro ?_ ?_ <;> decide) | exact Or.inl rfl | exact Or.inr rfl | (show _ ∨ _; omega)) ?_))
    exact loop 8 0 (by omega) (by omega)
  · skip
    repeat' (first
      | (refine am_gp 80 [] rfl (by first | exact True.intro | (refine And.intro ?_ ?_ <;> decide) | exact Or.inl rfl | exact Or.inr rfl | (simp (decide := true) only [am_p, am_u_at, am_u_j, am_u_ne]; omega) | (simp (decide := true) only [am_p, and_true, true_and, true_or, or_true, am_u_at, am_u_j, am_u_ne]; omega) | (simp (decide := true) [am_p, am_u_at, am_u_j, am_u_ne]; omega)) ?_)
      | (show am_V _ _ _ _ _ _ _; simp only [Int.reduceToNat])
      | (refine am_bt rfl (by first | omega | (simp (decide := true) only [am_u_at, am_u_j, am_u_ne]; omega)) (by first | omega | (simp (decide := true) only [am_u_at, am_u_j, am_u_ne]; omega)) ?_)
      | (refine am_bf rfl (by first | omega | (simp (decide := true) only [am_u_at, am_u_j, am_u_ne]; omega)) (by first | omega | (simp (decide := true) only [am_u_at, am_u_j, am_u_ne]; omega)) ?_)
      | (refine am_br rfl (by first | omega | (simp (decide := true) only [am_u_at, am_u_j, am_u_ne]; omega)) (fun h => ?_) (fun h => ?_))
      | (refine am_rt rfl (by first | exact True.intro | (refine And.intro ?_ ?_ <;> decide) | exact Or.inl rfl | exact Or.inr rfl | (show _ ∨ _; omega)) ?_))
    refine ⟨rfl, ?_⟩
    unfold es_ctot
    rw [if_pos (by omega)]
theorem c_threeOf (d : Nat) (k i : Int) (I I0 : am_I) (hc : es_hc I0) (b2 : I 17 2 = I0 17 2) (b3 : I 17 3 = I0 17 3) (hrows : ∀ q : Nat, (q : Int) < I0 17 2 → es_r3c I0 I q) (hi : 0 ≤ i ∧ i < I0 17 2) (hkt : 0 ≤ k ∧ k < es_ctot (I0 17 3) (es_Lc I0) (I0 17 2).toNat) : am_C (d + 4) Y_ha_threeOf [.inr (.inr 17), .inr (.inl k), .inl i] I (fun r I' => I' = I ∧ r = some (.inl ((es_cs (I0 17 3) (es_Lc I0) (I0 17 2).toNat k (i.toNat + 1)).1 : Int))) := by
  refine am_enter ok_ha_threeOf rfl ?_
  obtain ⟨n1, n2, n3, n4, n5, n6⟩ := id hc
  have hal := es_cs_a (k := k) hkt
  have loopp : ∀ (m p : Nat), (p : Int) ≤ i + 1 → i + 1 - p < m → am_V (d + 4) Y_ha_threeOf (fun r I' => I' = I ∧ r = some (.inl ((es_cs (I0 17 3) (es_Lc I0) (I0 17 2).toNat k (i.toNat + 1)).1 : Int))) 9 [(0, .inr (.inr 17)), (1, .inr (.inl k)), (3, .inl i), (4, .inr (.inl (es_cs (I0 17 3) (es_Lc I0) (I0 17 2).toNat k p).2)), (6, .inl ((es_cs (I0 17 3) (es_Lc I0) (I0 17 2).toNat k p).1 : Int)), (7, .inl p)] [] I := by
    intro m
    induction m with
    | zero => intro p h1 h2; omega
    | succ m ih =>
      intro p h1 h2
      have ha := hal p (by omega)
      have hprev : 0 < p → (es_cs (I0 17 3) (es_Lc I0) (I0 17 2).toNat k p).1 < (es_Lc I0 (p - 1)).length := fun h => (ha.2 (p - 1) (by omega)).1
      obtain ⟨a1, a2⟩ := ha.1
      have hcs : es_cs (I0 17 3) (es_Lc I0) (I0 17 2).toNat k (p + 1) = ((es_pk (es_cq (I0 17 3) (es_Lc I0) (I0 17 2).toNat p (es_cs (I0 17 3) (es_Lc I0) (I0 17 2).toNat k p).1) 0 (es_Lc I0 p).length (es_cs (I0 17 3) (es_Lc I0) (I0 17 2).toNat k p).2).1.toNat, (es_pk (es_cq (I0 17 3) (es_Lc I0) (I0 17 2).toNat p (es_cs (I0 17 3) (es_Lc I0) (I0 17 2).toNat k p).1) 0 (es_Lc I0 p).length (es_cs (I0 17 3) (es_Lc I0) (I0 17 2).toNat k p).2).2) := rfl
      have hx2 : (p : Int) < I0 17 2 → (es_cs (I0 17 3) (es_Lc I0) (I0 17 2).toNat k p).2 ≤ 1000000000000000000 := by
        intro h
        have h5 := a2 (by omega)
        have h6 := (es_fc_D (f := es_cq (I0 17 3) (es_Lc I0) (I0 17 2).toNat p (es_cs (I0 17 3) (es_Lc I0) (I0 17 2).toNat k p).1) (fun x => es_cq_D _ _ _ _ _ _) 0 (es_Lc I0 p).length).2
        omega
      have fin : ∀ (t : Nat) (l : Int), (p : Int) ≤ i → es_pk (es_cq (I0 17 3) (es_Lc I0) (I0 17 2).toNat p (es_cs (I0 17 3) (es_Lc I0) (I0 17 2).toNat k p).1) 0 (es_Lc I0 p).length (es_cs (I0 17 3) (es_Lc I0) (I0 17 2).toNat k p).2 = ((t : Int), l) → am_V (d + 4) Y_ha_threeOf (fun r I' => I' = I ∧ r = some (.inl ((es_cs (I0 17 3) (es_Lc I0) (I0 17 2).toNat k (i.toNat + 1)).1 : Int))) 115 [(0, .inr (.inr 17)), (1, .inr (.inl k)), (3, .inl i), (4, .inr (.inl l)), (6, .inl ((es_cs (I0 17 3) (es_Lc I0) (I0 17 2).toNat k p).1 : Int)), (7, .inl p), (8, .inl t)] [] I := by
        intro t l hpi hpk
        have h9 := ih (p + 1) (by omega) (by omega)
        rw [hcs, hpk, show ((p + 1 : Nat) : Int) = (p : Int) + 1 by omega] at h9
        have h10 : am_V (d + 4) Y_ha_threeOf (fun r I' => I' = I ∧ r = some (.inl ((es_cs (I0 17 3) (es_Lc I0) (I0 17 2).toNat k (i.toNat + 1)).1 : Int))) 9 [(0, .inr (.inr 17)), (1, .inr (.inl k)), (3, .inl i), (4, .inr (.inl l)), (6, .inl (((t : Int).toNat : Nat) : Int)), (7, .inl ((p : Int) + 1))] [] I := h9
        rw [show (((t : Int).toNat : Nat) : Int) = (t : Int) by omega] at h10
        clear hpk hcs h9
        repeat' (first
          | (refine am_gp 80 [9] rfl (by first | exact True.intro | (refine And.intro ?_ ?_ <;> decide) | exact Or.inl rfl | exact Or.inr rfl | (simp (decide := true) only [am_p, am_u_at, am_u_j, am_u_ne]; omega) | (simp (decide := true) only [am_p, and_true, true_and, true_or, or_true, am_u_at, am_u_j, am_u_ne]; omega) | (simp (decide := true) [am_p, am_u_at, am_u_j, am_u_ne]; omega)) ?_)
          | (show am_V _ _ _ _ _ _ _; simp only [Int.reduceToNat])
          | (refine am_bt rfl (by first | omega | (simp (decide := true) only [am_u_at, am_u_j, am_u_ne]; omega)) (by first | omega | (simp (decide := true) only [am_u_at, am_u_j, am_u_ne]; omega)) ?_)
          | (refine am_bf rfl (by first | omega | (simp (decide := true) only [am_u_at, am_u_j, am_u_ne]; omega)) (by first | omega | (simp (decide := true) only [am_u_at, am_u_j, am_u_ne]; omega)) ?_)
          | (refine am_br rfl (by first | omega | (simp (decide := true) only [am_u_at, am_u_j, am_u_ne]; omega)) (fun h => ?_) (fun h => ?_))
          | (refine am_rt rfl (by first | exact True.intro | (refine And.intro ?_ ?_ <;> decide) | exact Or.inl rfl | exact Or.inr rfl | (show _ ∨ _; omega)) ?_))
        exact am_wk [8] h10
      have loopj : ∀ (m2 j : Nat) (fd : Int) (l : Int), (p : Int) ≤ i → j ≤ (es_Lc I0 p).length → (es_Lc I0 p).length - j < m2 → 0 ≤ l → l ≤ 1000000000000000000 → l < es_fd es_oc 0 (es_cq (I0 17 3) (es_Lc I0) (I0 17 2).toNat p (es_cs (I0 17 3) (es_Lc I0) (I0 17 2).toNat k p).1) (j : Int) ((es_Lc I0 p).length - j) → es_pk (es_cq (I0 17 3) (es_Lc I0) (I0 17 2).toNat p (es_cs (I0 17 3) (es_Lc I0) (I0 17 2).toNat k p).1) (j : Int) ((es_Lc I0 p).length - j) l = es_pk (es_cq (I0 17 3) (es_Lc I0) (I0 17 2).toNat p (es_cs (I0 17 3) (es_Lc I0) (I0 17 2).toNat k p).1) 0 (es_Lc I0 p).length (es_cs (I0 17 3) (es_Lc I0) (I0 17 2).toNat k p).2 → am_V (d + 4) Y_ha_threeOf (fun r I' => I' = I ∧ r = some (.inl ((es_cs (I0 17 3) (es_Lc I0) (I0 17 2).toNat k (i.toNat + 1)).1 : Int))) 30 [(0, .inr (.inr 17)), (1, .inr (.inl k)), (3, .inl i), (4, .inr (.inl l)), (6, .inl ((es_cs (I0 17 3) (es_Lc I0) (I0 17 2).toNat k p).1 : Int)), (7, .inl p), (8, .inl fd), (9, .inl j)] [] I := by
        intro m2
        induction m2 with
        | zero => intro j fd l g0 g1 g2; omega
        | succ m2 ihj =>
          intro j fd l g0 g1 g2 g3 g4 g5 g6
          have hr3 := hrows p (by omega)
          have ep : (p : Int).toNat = p := by omega
          have hcnt2 : I 20 (p : Int).toNat = ((es_Lc I0 p).length : Int) := by rw [ep]; exact hr3.1.1
          have hlen := es_Lc_len hc (q := p) (by omega)
          have hj : j < (es_Lc I0 p).length := by
            refine Classical.byContradiction (fun c => ?_)
            rw [show (es_Lc I0 p).length - j = 0 by omega] at g5
            have e3 : es_fd es_oc 0 (es_cq (I0 17 3) (es_Lc I0) (I0 17 2).toNat p (es_cs (I0 17 3) (es_Lc I0) (I0 17 2).toNat k p).1) (j : Int) 0 = 0 := rfl
            omega
          have hwd := es_cq_D (I0 17 3) (es_Lc I0) (I0 17 2).toNat p (es_cs (I0 17 3) (es_Lc I0) (I0 17 2).toNat k p).1 (j : Int)
          unfold es_Dc at hwd
          have em : (es_Lc I0 p).length - j = ((es_Lc I0 p).length - (j + 1)) + 1 := by omega
          rw [em, es_fd_l es_mc (fun z => es_cq_D _ _ _ _ _ _)] at g5
          have g5' : l < min 1000000000000000000 (es_cq (I0 17 3) (es_Lc I0) (I0 17 2).toNat p (es_cs (I0 17 3) (es_Lc I0) (I0 17 2).toNat k p).1 (j : Int) + es_fd es_oc 0 (es_cq (I0 17 3) (es_Lc I0) (I0 17 2).toNat p (es_cs (I0 17 3) (es_Lc I0) (I0 17 2).toNat k p).1) ((j : Int) + 1) ((es_Lc I0 p).length - (j + 1))) := g5
          rw [em] at g6
          have done : l < es_cq (I0 17 3) (es_Lc I0) (I0 17 2).toNat p (es_cs (I0 17 3) (es_Lc I0) (I0 17 2).toNat k p).1 (j : Int) → es_pk (es_cq (I0 17 3) (es_Lc I0) (I0 17 2).toNat p (es_cs (I0 17 3) (es_Lc I0) (I0 17 2).toNat k p).1) 0 (es_Lc I0 p).length (es_cs (I0 17 3) (es_Lc I0) (I0 17 2).toNat k p).2 = ((j : Int), l) := by
            intro hl
            rw [← g6]
            show (if l < es_cq (I0 17 3) (es_Lc I0) (I0 17 2).toNat p (es_cs (I0 17 3) (es_Lc I0) (I0 17 2).toNat k p).1 (j : Int) then ((j : Int), l) else _) = _
            rw [if_pos hl]
          have cont : ∀ fd' : Int, ¬ l < es_cq (I0 17 3) (es_Lc I0) (I0 17 2).toNat p (es_cs (I0 17 3) (es_Lc I0) (I0 17 2).toNat k p).1 (j : Int) → am_V (d + 4) Y_ha_threeOf (fun r I' => I' = I ∧ r = some (.inl ((es_cs (I0 17 3) (es_Lc I0) (I0 17 2).toNat k (i.toNat + 1)).1 : Int))) 30 [(0, .inr (.inr 17)), (1, .inr (.inl k)), (3, .inl i), (4, .inr (.inl (l - es_cq (I0 17 3) (es_Lc I0) (I0 17 2).toNat p (es_cs (I0 17 3) (es_Lc I0) (I0 17 2).toNat k p).1 (j : Int)))), (6, .inl ((es_cs (I0 17 3) (es_Lc I0) (I0 17 2).toNat k p).1 : Int)), (7, .inl p), (8, .inl fd'), (9, .inl ((j : Int) + 1))] [] I := by
            intro fd' hl
            have g8 : es_pk (es_cq (I0 17 3) (es_Lc I0) (I0 17 2).toNat p (es_cs (I0 17 3) (es_Lc I0) (I0 17 2).toNat k p).1) (j : Int) (((es_Lc I0 p).length - (j + 1)) + 1) l = es_pk (es_cq (I0 17 3) (es_Lc I0) (I0 17 2).toNat p (es_cs (I0 17 3) (es_Lc I0) (I0 17 2).toNat k p).1) ((j : Int) + 1) ((es_Lc I0 p).length - (j + 1)) (l - es_cq (I0 17 3) (es_Lc I0) (I0 17 2).toNat p (es_cs (I0 17 3) (es_Lc I0) (I0 17 2).toNat k p).1 (j : Int)) := by
              show (if l < es_cq (I0 17 3) (es_Lc I0) (I0 17 2).toNat p (es_cs (I0 17 3) (es_Lc I0) (I0 17 2).toNat k p).1 (j : Int) then ((j : Int), l) else _) = _
              rw [if_neg hl]
            have h9 := ihj (j + 1) fd' (l - es_cq (I0 17 3) (es_Lc I0) (I0 17 2).toNat p (es_cs (I0 17 3) (es_Lc I0) (I0 17 2).toNat k p).1 (j : Int)) g0 (by omega) (by omega) (by omega) (by omega)
            rw [show ((j + 1 : Nat) : Int) = (j : Int) + 1 by omega] at h9
            exact h9 (by omega) (g8.symm.trans g6)
          have hent : I 22 ((p : Int) * 6 + (j : Int)).toNat = es_cw (I0 17 3) (es_Lc I0) (I0 17 2).toNat ((I0 17 2).toNat - 1 - p) j := hr3.2 j hj
          have hcd := es_cw_D (most := (I0 17 3)) (Ls := (es_Lc I0)) (n := (I0 17 2).toNat) ((I0 17 2).toNat - 1 - p) j
          have q0 : p = 0 → I 22 ((p : Int) * 6 + (j : Int)).toNat = es_cq (I0 17 3) (es_Lc I0) (I0 17 2).toNat p (es_cs (I0 17 3) (es_Lc I0) (I0 17 2).toNat k p).1 (j : Int) := by
            intro h
            rw [hent]
            exact (es_cq_t (Or.inl h)).symm
          clear g6
          refine am_go 1 [] rfl trivial ?_
          repeat' (first
            | (refine am_gp 80 [47, 65, 115] rfl (by first | exact True.intro | (refine And.intro ?_ ?_ <;> decide) | exact Or.inl rfl | exact Or.inr rfl | (simp (decide := true) only [am_p, am_u_at, am_u_j, am_u_ne]; omega) | (simp (decide := true) only [am_p, and_true, true_and, true_or, or_true, am_u_at, am_u_j, am_u_ne]; omega) | (simp (decide := true) [am_p, am_u_at, am_u_j, am_u_ne]; omega)) ?_)
            | (show am_V _ _ _ _ _ _ _; simp only [Int.reduceToNat])
            | (refine am_bt rfl (by first | omega | (simp (decide := true) only [am_u_at, am_u_j, am_u_ne]; omega)) (by first | omega | (simp (decide := true) only [am_u_at, am_u_j, am_u_ne]; omega)) ?_)
            | (refine am_bf rfl (by first | omega | (simp (decide := true) only [am_u_at, am_u_j, am_u_ne]; omega)) (by first | omega | (simp (decide := true) only [am_u_at, am_u_j, am_u_ne]; omega)) ?_)
            | (refine am_br rfl (by first | omega | (simp (decide := true) only [am_u_at, am_u_j, am_u_ne]; omega)) (fun h => ?_) (fun h => ?_))
            | (refine am_rt rfl (by first | exact True.intro | (refine And.intro ?_ ?_ <;> decide) | exact Or.inl rfl | exact Or.inr rfl | (show _ ∨ _; omega)) ?_))
          · have q3 := q0 (by omega)
            repeat' (first
              | (refine am_gp 80 [30, 115] rfl (by first | exact True.intro | (refine And.intro ?_ ?_ <;> decide) | exact Or.inl rfl | exact Or.inr rfl | (simp (decide := true) only [am_p, am_u_at, am_u_j, am_u_ne]; omega) | (simp (decide := true) only [am_p, and_true, true_and, true_or, or_true, am_u_at, am_u_j, am_u_ne]; omega) | (simp (decide := true) [am_p, am_u_at, am_u_j, am_u_ne]; omega)) ?_)
              | (show am_V _ _ _ _ _ _ _; simp only [Int.reduceToNat])
              | (refine am_bt rfl (by first | omega | (simp (decide := true) only [am_u_at, am_u_j, am_u_ne]; omega)) (by first | omega | (simp (decide := true) only [am_u_at, am_u_j, am_u_ne]; omega)) ?_)
              | (refine am_bf rfl (by first | omega | (simp (decide := true) only [am_u_at, am_u_j, am_u_ne]; omega)) (by first | omega | (simp (decide := true) only [am_u_at, am_u_j, am_u_ne]; omega)) ?_)
              | (refine am_br rfl (by first | omega | (simp (decide := true) only [am_u_at, am_u_j, am_u_ne]; omega)) (fun h => ?_) (fun h => ?_))
              | (refine am_rt rfl (by first | exact True.intro | (refine And.intro ?_ ?_ <;> decide) | exact Or.inl rfl | exact Or.inr rfl | (show _ ∨ _; omega)) ?_))
            · rw [q3]
              exact cont _ (by omega)
            · exact am_wk [9] (fin j l g0 (done (by omega)))
          · have hp0 : 0 < p := by omega
            have hpv := hprev hp0
            have hrp := hrows (p - 1) (by omega)
            have hlp := es_Lc_len hc (q := p - 1) (by omega)
            have vx1 : ∀ v : Int, 0 ≤ v → v ≤ 2 → I 21 ((((p : Int) - 1) * 6 + ((es_cs (I0 17 3) (es_Lc I0) (I0 17 2).toNat k p).1 : Int)) * 3 + v).toNat = es_v3 (es_nth (es_Lc I0 (p - 1)) (es_cs (I0 17 3) (es_Lc I0) (I0 17 2).toNat k p).1) v := by
              intro v v0 v2
              have := es_ti_w hrp.1 hpv v v0 v2
              rw [show ((p - 1 : Nat) : Int) = (p : Int) - 1 by omega] at this
              exact this
            have vy1 : ∀ v : Int, 0 ≤ v → v ≤ 2 → I 21 ((((p : Int) - 1 + 1) * 6 + (j : Int)) * 3 + v).toNat = es_v3 (es_nth (es_Lc I0 p) j) v := by
              intro v v0 v2
              have := es_ti_w hr3.1 hj v v0 v2
              rw [show (p : Int) = (p : Int) - 1 + 1 by omega] at this
              exact this
            have ax := es_Lc_asc hc (q := p - 1) (k := (es_cs (I0 17 3) (es_Lc I0) (I0 17 2).toNat k p).1) (by omega) hpv
            have ay := es_Lc_asc hc (q := p) (k := j) (by omega) hj
            have q1 : es_fo (I 17 3) (es_nth (es_Lc I0 (p - 1)) (es_cs (I0 17 3) (es_Lc I0) (I0 17 2).toNat k p).1) (es_nth (es_Lc I0 p) j) → I 22 ((p : Int) * 6 + (j : Int)).toNat = es_cq (I0 17 3) (es_Lc I0) (I0 17 2).toNat p (es_cs (I0 17 3) (es_Lc I0) (I0 17 2).toNat k p).1 (j : Int) := by
              intro hfo
              rw [b3] at hfo
              rw [hent]
              exact (es_cq_t (Or.inr hfo)).symm
            have q2 : ¬ es_fo (I 17 3) (es_nth (es_Lc I0 (p - 1)) (es_cs (I0 17 3) (es_Lc I0) (I0 17 2).toNat k p).1) (es_nth (es_Lc I0 p) j) → es_cq (I0 17 3) (es_Lc I0) (I0 17 2).toNat p (es_cs (I0 17 3) (es_Lc I0) (I0 17 2).toNat k p).1 (j : Int) = 0 := by
              intro hfo
              rw [b3] at hfo
              exact es_cq_f (fun z => z.elim (by omega) hfo)
            generalize hvx : es_nth (es_Lc I0 (p - 1)) (es_cs (I0 17 3) (es_Lc I0) (I0 17 2).toNat k p).1 = vx at *
            generalize hvy : es_nth (es_Lc I0 p) j = vy at *
            repeat' (first
              | (refine am_gp 80 [30, 65] rfl (by first | exact True.intro | (refine And.intro ?_ ?_ <;> decide) | exact Or.inl rfl | exact Or.inr rfl | (simp (decide := true) only [am_p, am_u_at, am_u_j, am_u_ne]; omega) | (simp (decide := true) only [am_p, and_true, true_and, true_or, or_true, am_u_at, am_u_j, am_u_ne]; omega) | (simp (decide := true) [am_p, am_u_at, am_u_j, am_u_ne]; omega)) ?_)
              | (show am_V _ _ _ _ _ _ _; simp only [Int.reduceToNat])
              | (refine am_bt rfl (by first | omega | (simp (decide := true) only [am_u_at, am_u_j, am_u_ne]; omega)) (by first | omega | (simp (decide := true) only [am_u_at, am_u_j, am_u_ne]; omega)) ?_)
              | (refine am_bf rfl (by first | omega | (simp (decide := true) only [am_u_at, am_u_j, am_u_ne]; omega)) (by first | omega | (simp (decide := true) only [am_u_at, am_u_j, am_u_ne]; omega)) ?_)
              | (refine am_br rfl (by first | omega | (simp (decide := true) only [am_u_at, am_u_j, am_u_ne]; omega)) (fun h => ?_) (fun h => ?_))
              | (refine am_cV (y' := Y_ha_mayFollow) rfl lk_ha_61 ok_ha_mayFollow rfl rfl rfl (c_mayFollow _ _ _ _ _ vx vy (by first | omega | (simp (decide := true) only [am_u_at, am_u_j, am_u_ne]; omega)) (by first | omega | (simp (decide := true) only [am_u_at, am_u_j, am_u_ne]; omega)) (by first | omega | (simp (decide := true) only [am_u_at, am_u_j, am_u_ne]; omega)) (by assumption) (by assumption) (by assumption) (by assumption) (by first | omega | (simp (decide := true) only [am_u_at, am_u_j, am_u_ne]; omega))) ?_; rintro r I ⟨rfl, (⟨rfl, hfo⟩ | ⟨rfl, hfo⟩)⟩ <;> (try (exfalso; omega)))
              | (refine am_rt rfl (by first | exact True.intro | (refine And.intro ?_ ?_ <;> decide) | exact Or.inl rfl | exact Or.inr rfl | (show _ ∨ _; omega)) ?_))
            · have q3 := q1 hfo
              repeat' (first
                | (refine am_gp 80 [30, 115] rfl (by first | exact True.intro | (refine And.intro ?_ ?_ <;> decide) | exact Or.inl rfl | exact Or.inr rfl | (simp (decide := true) only [am_p, am_u_at, am_u_j, am_u_ne]; omega) | (simp (decide := true) only [am_p, and_true, true_and, true_or, or_true, am_u_at, am_u_j, am_u_ne]; omega) | (simp (decide := true) [am_p, am_u_at, am_u_j, am_u_ne]; omega)) ?_)
                | (show am_V _ _ _ _ _ _ _; simp only [Int.reduceToNat])
                | (refine am_bt rfl (by first | omega | (simp (decide := true) only [am_u_at, am_u_j, am_u_ne]; omega)) (by first | omega | (simp (decide := true) only [am_u_at, am_u_j, am_u_ne]; omega)) ?_)
                | (refine am_bf rfl (by first | omega | (simp (decide := true) only [am_u_at, am_u_j, am_u_ne]; omega)) (by first | omega | (simp (decide := true) only [am_u_at, am_u_j, am_u_ne]; omega)) ?_)
                | (refine am_br rfl (by first | omega | (simp (decide := true) only [am_u_at, am_u_j, am_u_ne]; omega)) (fun h => ?_) (fun h => ?_))
                | (refine am_rt rfl (by first | exact True.intro | (refine And.intro ?_ ?_ <;> decide) | exact Or.inl rfl | exact Or.inr rfl | (show _ ∨ _; omega)) ?_))
              · rw [q3]
                exact cont _ (by omega)
              · exact am_wk [9] (fin j l g0 (done (by omega)))
            · have q3 := q2 hfo
              have h9 := cont fd (by omega)
              rw [q3, show l - 0 = l by omega] at h9
              exact h9
      refine am_go 1 [] rfl trivial ?_
      clear hcs
      repeat' (first
        | (refine am_gp 80 [30] rfl (by first | exact True.intro | (refine And.intro ?_ ?_ <;> decide) | exact Or.inl rfl | exact Or.inr rfl | (simp (decide := true) only [am_p, am_u_at, am_u_j, am_u_ne]; omega) | (simp (decide := true) only [am_p, and_true, true_and, true_or, or_true, am_u_at, am_u_j, am_u_ne]; omega) | (simp (decide := true) [am_p, am_u_at, am_u_j, am_u_ne]; omega)) ?_)
        | (show am_V _ _ _ _ _ _ _; simp only [Int.reduceToNat])
        | (refine am_bt rfl (by first | omega | (simp (decide := true) only [am_u_at, am_u_j, am_u_ne]; omega)) (by first | omega | (simp (decide := true) only [am_u_at, am_u_j, am_u_ne]; omega)) ?_)
        | (refine am_bf rfl (by first | omega | (simp (decide := true) only [am_u_at, am_u_j, am_u_ne]; omega)) (by first | omega | (simp (decide := true) only [am_u_at, am_u_j, am_u_ne]; omega)) ?_)
        | (refine am_br rfl (by first | omega | (simp (decide := true) only [am_u_at, am_u_j, am_u_ne]; omega)) (fun h => ?_) (fun h => ?_))
        | (refine am_rt rfl (by first | exact True.intro | (refine And.intro ?_ ?_ <;> decide) | exact Or.inl rfl | exact Or.inr rfl | (show _ ∨ _; omega)) ?_))
      · rw [show p = i.toNat + 1 by omega]
        exact ⟨rfl, rfl⟩
      · have h5 := a2 (by omega)
        exact loopj 8 0 0 (es_cs (I0 17 3) (es_Lc I0) (I0 17 2).toNat k p).2 (by omega) (by omega) (by have := es_Lc_len hc (q := p) (by omega); omega) a1 (hx2 (by omega)) h5 rfl
  repeat' (first
    | (refine am_gp 80 [9] rfl (by first | exact True.intro | (refine And.intro ?_ ?_ <;> decide) | exact Or.inl rfl | exact Or.inr rfl | (simp (decide := true) only [am_p, am_u_at, am_u_j, am_u_ne]; omega) | (simp (decide := true) only [am_p, and_true, true_and, true_or, or_true, am_u_at, am_u_j, am_u_ne]; omega) | (simp (decide := true) [am_p, am_u_at, am_u_j, am_u_ne]; omega)) ?_)
    | (show am_V _ _ _ _ _ _ _; simp only [Int.reduceToNat])
    | (refine am_bt rfl (by first | omega | (simp (decide := true) only [am_u_at, am_u_j, am_u_ne]; omega)) (by first | omega | (simp (decide := true) only [am_u_at, am_u_j, am_u_ne]; omega)) ?_)
    | (refine am_bf rfl (by first | omega | (simp (decide := true) only [am_u_at, am_u_j, am_u_ne]; omega)) (by first | omega | (simp (decide := true) only [am_u_at, am_u_j, am_u_ne]; omega)) ?_)
    | (refine am_br rfl (by first | omega | (simp (decide := true) only [am_u_at, am_u_j, am_u_ne]; omega)) (fun h => ?_) (fun h => ?_))
    | (refine am_rt rfl (by first | exact True.intro | (refine And.intro ?_ ?_ <;> decide) | exact Or.inl rfl | exact Or.inr rfl | (show _ ∨ _; omega)) ?_))
  exact loopp 8 0 (by omega) (by omega)
theorem c_es_chords (d : Nat) (I0 : am_I) (hc : es_hc I0) (hfl : es_i22 I0) : am_C (d + 6) Y_es_chords [.inr (.inr 0)] I0 (fun r I' => r = some (.inr (.inl (es_ctot (I0 17 3) (es_Lc I0) (I0 17 2).toNat))) ∧ am_fr I0 I' [17, 20, 21, 22] ∧ I' 17 = am_up (I0 17) 4 1 ∧ es_i22 I') := by
  refine am_enter ok_es_chords rfl ?_
  repeat' (first
    | (refine am_gp 80 [7] rfl (by first | exact True.intro | (refine And.intro ?_ ?_ <;> decide) | exact Or.inl rfl | exact Or.inr rfl | (simp (decide := true) only [am_p, am_u_at, am_u_j, am_u_ne]; omega) | (simp (decide := true) only [am_p, and_true, true_and, true_or, or_true, am_u_at, am_u_j, am_u_ne]; omega) | (simp (decide := true) [am_p, am_u_at, am_u_j, am_u_ne]; omega)) ?_)
    | (show am_V _ _ _ _ _ _ _; simp only [Int.reduceToNat])
    | (refine am_bt rfl (by first | omega | (simp (decide := true) only [am_u_at, am_u_j, am_u_ne]; omega)) (by first | omega | (simp (decide := true) only [am_u_at, am_u_j, am_u_ne]; omega)) ?_)
    | (refine am_bf rfl (by first | omega | (simp (decide := true) only [am_u_at, am_u_j, am_u_ne]; omega)) (by first | omega | (simp (decide := true) only [am_u_at, am_u_j, am_u_ne]; omega)) ?_)
    | (refine am_br rfl (by first | omega | (simp (decide := true) only [am_u_at, am_u_j, am_u_ne]; omega)) (fun h => ?_) (fun h => ?_))
    | (refine am_cV (y' := Y_ha_fill) rfl lk_es_173 ok_ha_fill rfl rfl rfl (c_ha_fill _ I0 hc hfl) ?_; rintro r I ⟨rfl, hfr, hf17, hrows⟩)
    | (refine am_rt rfl (by first | exact True.intro | (refine And.intro ?_ ?_ <;> decide) | exact Or.inl rfl | exact Or.inr rfl | (show _ ∨ _; omega)) ?_))
  have b2 : I 17 2 = I0 17 2 := by rw [hf17, am_up_ne (by decide)]
  have b3 : I 17 3 = I0 17 3 := by rw [hf17, am_up_ne (by decide)]
  have b4 : I 17 4 = 1 := by rw [hf17, am_up_eq]
  repeat' (first
    | (refine am_gp 80 [] rfl (by first | exact True.intro | (refine And.intro ?_ ?_ <;> decide) | exact Or.inl rfl | exact Or.inr rfl | (simp (decide := true) only [am_p, am_u_at, am_u_j, am_u_ne]; omega) | (simp (decide := true) only [am_p, and_true, true_and, true_or, or_true, am_u_at, am_u_j, am_u_ne]; omega) | (simp (decide := true) [am_p, am_u_at, am_u_j, am_u_ne]; omega)) ?_)
    | (show am_V _ _ _ _ _ _ _; simp only [Int.reduceToNat])
    | (refine am_bt rfl (by first | omega | (simp (decide := true) only [am_u_at, am_u_j, am_u_ne]; omega)) (by first | omega | (simp (decide := true) only [am_u_at, am_u_j, am_u_ne]; omega)) ?_)
    | (refine am_bf rfl (by first | omega | (simp (decide := true) only [am_u_at, am_u_j, am_u_ne]; omega)) (by first | omega | (simp (decide := true) only [am_u_at, am_u_j, am_u_ne]; omega)) ?_)
    | (refine am_br rfl (by first | omega | (simp (decide := true) only [am_u_at, am_u_j, am_u_ne]; omega)) (fun h => ?_) (fun h => ?_))
    | (refine am_cV (y' := Y_ha_total) rfl lk_es_174 ok_ha_total rfl rfl rfl (c_ha_total _ _ I0 hc (by assumption) hrows) ?_; rintro r I ⟨rfl, rfl⟩)
    | (refine am_rt rfl (by first | exact True.intro | (refine And.intro ?_ ?_ <;> decide) | exact Or.inl rfl | exact Or.inr rfl | (show _ ∨ _; omega)) ?_))
  refine ⟨rfl, hfr, hf17, Or.inr ⟨b4, fun q hq => ?_⟩⟩
  exact es_r3c_J b2 b3 (hfr 18 rfl) (hfr 19 rfl) (hrows q (by omega))
theorem c_es_chord (d : Nat) (k i v : Int) (I0 : am_I) (hkr : -9223372036854775808 ≤ k ∧ k < 9223372036854775808) (hir : (-2147483648 ≤ i ∧ i < 2147483648)) (hvr : (-2147483648 ≤ v ∧ v < 2147483648)) (hc : es_hc I0) (hfl : es_i22 I0) : am_C (d + 6) Y_es_chord [.inr (.inr 0), .inr (.inl k), .inl i, .inl v] I0 (fun r I' => (¬ (0 ≤ k ∧ (0 ≤ i ∧ i < I0 17 2) ∧ (0 ≤ v ∧ v ≤ 2)) ∧ r = some (.inl (-2)) ∧ I' = I0) ∨ (((0 ≤ k ∧ (0 ≤ i ∧ i < I0 17 2) ∧ (0 ≤ v ∧ v ≤ 2)) ∧ es_ctot (I0 17 3) (es_Lc I0) (I0 17 2).toNat ≤ k) ∧ r = some (.inl (-1)) ∧ am_fr I0 I' [17, 20, 21, 22] ∧ I' 17 = am_up (I0 17) 4 1 ∧ es_i22 I') ∨ (((0 ≤ k ∧ (0 ≤ i ∧ i < I0 17 2) ∧ (0 ≤ v ∧ v ≤ 2)) ∧ k < es_ctot (I0 17 3) (es_Lc I0) (I0 17 2).toNat) ∧ r = some (.inl (es_v3 (es_nth (es_Lc I0 i.toNat) (es_cs (I0 17 3) (es_Lc I0) (I0 17 2).toNat k (i.toNat + 1)).1) v)) ∧ am_fr I0 I' [17, 20, 21, 22] ∧ I' 17 = am_up (I0 17) 4 1 ∧ es_i22 I')) := by
  refine am_enter ok_es_chord rfl ?_
  obtain ⟨n1, n2, n3, n4, n5, n6⟩ := id hc
  have htd : 0 ≤ es_ctot (I0 17 3) (es_Lc I0) (I0 17 2).toNat ∧ es_ctot (I0 17 3) (es_Lc I0) (I0 17 2).toNat ≤ 1000000000000000000 := by
    unfold es_ctot
    split
    · omega
    · exact es_fc_D (fun x => es_cq_D _ _ _ _ _ _) _ _
  repeat' (first
    | (refine am_gp 80 [36] rfl (by first | exact True.intro | (refine And.intro ?_ ?_ <;> decide) | exact Or.inl rfl | exact Or.inr rfl | (simp (decide := true) only [am_p, am_u_at, am_u_j, am_u_ne]; omega) | (simp (decide := true) only [am_p, and_true, true_and, true_or, or_true, am_u_at, am_u_j, am_u_ne]; omega) | (simp (decide := true) [am_p, am_u_at, am_u_j, am_u_ne]; omega)) ?_)
    | (show am_V _ _ _ _ _ _ _; simp only [Int.reduceToNat])
    | (refine am_bt rfl (by first | omega | (simp (decide := true) only [am_u_at, am_u_j, am_u_ne]; omega)) (by first | omega | (simp (decide := true) only [am_u_at, am_u_j, am_u_ne]; omega)) ?_)
    | (refine am_bf rfl (by first | omega | (simp (decide := true) only [am_u_at, am_u_j, am_u_ne]; omega)) (by first | omega | (simp (decide := true) only [am_u_at, am_u_j, am_u_ne]; omega)) ?_)
    | (refine am_br rfl (by first | omega | (simp (decide := true) only [am_u_at, am_u_j, am_u_ne]; omega)) (fun h => ?_) (fun h => ?_))
    | (refine am_cS (y' := Y_es_outside) rfl lk_es_72 ok_es_outside rfl rfl (c_outside _ _ _ _ _ (by first | omega | (simp (decide := true) only [am_u_at, am_u_j, am_u_ne]; omega)) (by first | omega | (simp (decide := true) only [am_u_at, am_u_j, am_u_ne]; omega)) (by first | omega | (simp (decide := true) only [am_u_at, am_u_j, am_u_ne]; omega))) ?_; rintro r I0 ⟨rfl, (⟨rfl, h⟩ | ⟨rfl, h⟩)⟩ <;> (try (exfalso; omega)))
    | (refine am_rt rfl (by first | exact True.intro | (refine And.intro ?_ ?_ <;> decide) | exact Or.inl rfl | exact Or.inr rfl | (show _ ∨ _; omega)) ?_))
  all_goals first
    | exact Or.inl ⟨by omega, rfl, rfl⟩
    | skip
  have hok : 0 ≤ k ∧ (0 ≤ i ∧ i < I0 17 2) ∧ (0 ≤ v ∧ v ≤ 2) := by omega
  repeat' (first
    | (refine am_gp 80 [43] rfl (by first | exact True.intro | (refine And.intro ?_ ?_ <;> decide) | exact Or.inl rfl | exact Or.inr rfl | (simp (decide := true) only [am_p, am_u_at, am_u_j, am_u_ne]; omega) | (simp (decide := true) only [am_p, and_true, true_and, true_or, or_true, am_u_at, am_u_j, am_u_ne]; omega) | (simp (decide := true) [am_p, am_u_at, am_u_j, am_u_ne]; omega)) ?_)
    | (show am_V _ _ _ _ _ _ _; simp only [Int.reduceToNat])
    | (refine am_bt rfl (by first | omega | (simp (decide := true) only [am_u_at, am_u_j, am_u_ne]; omega)) (by first | omega | (simp (decide := true) only [am_u_at, am_u_j, am_u_ne]; omega)) ?_)
    | (refine am_bf rfl (by first | omega | (simp (decide := true) only [am_u_at, am_u_j, am_u_ne]; omega)) (by first | omega | (simp (decide := true) only [am_u_at, am_u_j, am_u_ne]; omega)) ?_)
    | (refine am_br rfl (by first | omega | (simp (decide := true) only [am_u_at, am_u_j, am_u_ne]; omega)) (fun h => ?_) (fun h => ?_))
    | (refine am_cV (y' := Y_ha_fill) rfl lk_es_173 ok_ha_fill rfl rfl rfl (c_ha_fill _ I0 hc hfl) ?_; rintro r I ⟨rfl, hfr, hf17, hrows⟩)
    | (refine am_rt rfl (by first | exact True.intro | (refine And.intro ?_ ?_ <;> decide) | exact Or.inl rfl | exact Or.inr rfl | (show _ ∨ _; omega)) ?_))
  have b2 : I 17 2 = I0 17 2 := by rw [hf17, am_up_ne (by decide)]
  have b3 : I 17 3 = I0 17 3 := by rw [hf17, am_up_ne (by decide)]
  have b4 : I 17 4 = 1 := by rw [hf17, am_up_eq]
  have hi22 : es_i22 I := Or.inr ⟨b4, fun q hq => es_r3c_J b2 b3 (hfr 18 rfl) (hfr 19 rfl) (hrows q (by omega))⟩
  have hval : k < es_ctot (I0 17 3) (es_Lc I0) (I0 17 2).toNat → (es_cs (I0 17 3) (es_Lc I0) (I0 17 2).toNat k (i.toNat + 1)).1 < (es_Lc I0 i.toNat).length ∧ I 21 ((i * 6 + ((es_cs (I0 17 3) (es_Lc I0) (I0 17 2).toNat k (i.toNat + 1)).1 : Int)) * 3 + v).toNat = es_v3 (es_nth (es_Lc I0 i.toNat) (es_cs (I0 17 3) (es_Lc I0) (I0 17 2).toNat k (i.toNat + 1)).1) v := by
    intro h
    have h5 := ((es_cs_a (k := k) ⟨hok.1, h⟩ (i.toNat + 1) (by omega)).2 i.toNat rfl).1
    have h6 := es_ti_w (hrows i.toNat (by omega)).1 h5 v hok.2.2.1 hok.2.2.2
    rw [show ((i.toNat : Nat) : Int) = i by omega] at h6
    exact ⟨h5, h6⟩
  have hlen := es_Lc_len hc (q := i.toNat) (by omega)
  repeat' (first
    | (refine am_gp 80 [55, 57] rfl (by first | exact True.intro | (refine And.intro ?_ ?_ <;> decide) | exact Or.inl rfl | exact Or.inr rfl | (simp (decide := true) only [am_p, am_u_at, am_u_j, am_u_ne]; omega) | (simp (decide := true) only [am_p, and_true, true_and, true_or, or_true, am_u_at, am_u_j, am_u_ne]; omega) | (simp (decide := true) [am_p, am_u_at, am_u_j, am_u_ne]; omega)) ?_)
    | (show am_V _ _ _ _ _ _ _; simp only [Int.reduceToNat])
    | (refine am_bt rfl (by first | omega | (simp (decide := true) only [am_u_at, am_u_j, am_u_ne]; omega)) (by first | omega | (simp (decide := true) only [am_u_at, am_u_j, am_u_ne]; omega)) ?_)
    | (refine am_bf rfl (by first | omega | (simp (decide := true) only [am_u_at, am_u_j, am_u_ne]; omega)) (by first | omega | (simp (decide := true) only [am_u_at, am_u_j, am_u_ne]; omega)) ?_)
    | (refine am_br rfl (by first | omega | (simp (decide := true) only [am_u_at, am_u_j, am_u_ne]; omega)) (fun h => ?_) (fun h => ?_))
    | (refine am_cV (y' := Y_ha_total) rfl lk_es_174 ok_ha_total rfl rfl rfl (c_ha_total _ _ I0 hc (by assumption) hrows) ?_; rintro r I ⟨rfl, rfl⟩)
    | (refine am_rt rfl (by first | exact True.intro | (refine And.intro ?_ ?_ <;> decide) | exact Or.inl rfl | exact Or.inr rfl | (show _ ∨ _; omega)) ?_))
  · obtain ⟨v1, v2⟩ := hval (by omega)
    repeat' (first
      | (refine am_gp 80 [] rfl (by first | exact True.intro | (refine And.intro ?_ ?_ <;> decide) | exact Or.inl rfl | exact Or.inr rfl | (simp (decide := true) only [am_p, am_u_at, am_u_j, am_u_ne]; omega) | (simp (decide := true) only [am_p, and_true, true_and, true_or, or_true, am_u_at, am_u_j, am_u_ne]; omega) | (simp (decide := true) [am_p, am_u_at, am_u_j, am_u_ne]; omega)) ?_)
      | (show am_V _ _ _ _ _ _ _; simp only [Int.reduceToNat])
      | (refine am_bt rfl (by first | omega | (simp (decide := true) only [am_u_at, am_u_j, am_u_ne]; omega)) (by first | omega | (simp (decide := true) only [am_u_at, am_u_j, am_u_ne]; omega)) ?_)
      | (refine am_bf rfl (by first | omega | (simp (decide := true) only [am_u_at, am_u_j, am_u_ne]; omega)) (by first | omega | (simp (decide := true) only [am_u_at, am_u_j, am_u_ne]; omega)) ?_)
      | (refine am_br rfl (by first | omega | (simp (decide := true) only [am_u_at, am_u_j, am_u_ne]; omega)) (fun h => ?_) (fun h => ?_))
      | (refine am_cV (y' := Y_ha_threeOf) rfl lk_es_175 ok_ha_threeOf rfl rfl rfl (c_threeOf _ _ _ _ I0 hc (by assumption) (by assumption) hrows (by first | omega | (simp (decide := true) only [am_u_at, am_u_j, am_u_ne]; omega)) (by first | omega | (simp (decide := true) only [am_u_at, am_u_j, am_u_ne]; omega))) ?_; rintro r I ⟨rfl, rfl⟩)
      | (refine am_cV (y' := Y_ha_pitchOf) rfl lk_es_179 ok_ha_pitchOf rfl rfl rfl (c_ha_pitchOf _ _ _ _ _ (by first | omega | (simp (decide := true) only [am_u_at, am_u_j, am_u_ne]; omega))) ?_; rintro r I ⟨rfl, rfl⟩)
      | (refine am_rt rfl (by first | exact True.intro | (refine And.intro ?_ ?_ <;> decide) | exact Or.inl rfl | exact Or.inr rfl | (show _ ∨ _; omega)) ?_))
    refine Or.inr (Or.inr ⟨⟨hok, by omega⟩, ?_, hfr, hf17, hi22⟩)
    rw [v2]
  · skip
    repeat' (first
      | (refine am_gp 80 [] rfl (by first | exact True.intro | (refine And.intro ?_ ?_ <;> decide) | exact Or.inl rfl | exact Or.inr rfl | (simp (decide := true) only [am_p, am_u_at, am_u_j, am_u_ne]; omega) | (simp (decide := true) only [am_p, and_true, true_and, true_or, or_true, am_u_at, am_u_j, am_u_ne]; omega) | (simp (decide := true) [am_p, am_u_at, am_u_j, am_u_ne]; omega)) ?_)
      | (show am_V _ _ _ _ _ _ _; simp only [Int.reduceToNat])
      | (refine am_bt rfl (by first | omega | (simp (decide := true) only [am_u_at, am_u_j, am_u_ne]; omega)) (by first | omega | (simp (decide := true) only [am_u_at, am_u_j, am_u_ne]; omega)) ?_)
      | (refine am_bf rfl (by first | omega | (simp (decide := true) only [am_u_at, am_u_j, am_u_ne]; omega)) (by first | omega | (simp (decide := true) only [am_u_at, am_u_j, am_u_ne]; omega)) ?_)
      | (refine am_br rfl (by first | omega | (simp (decide := true) only [am_u_at, am_u_j, am_u_ne]; omega)) (fun h => ?_) (fun h => ?_))
      | (refine am_rt rfl (by first | exact True.intro | (refine And.intro ?_ ?_ <;> decide) | exact Or.inl rfl | exact Or.inr rfl | (show _ ∨ _; omega)) ?_))
    exact Or.inr (Or.inl ⟨⟨hok, by omega⟩, rfl, hfr, hf17, hi22⟩)
