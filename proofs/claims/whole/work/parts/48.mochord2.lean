def es_hb (m : Int) : Prop := (1 ≤ m ∧ m ≤ 4095) ∧ es_bs m 12 ≤ 3
theorem es_l3_s {m a b c0 : Int} {n : Nat} : es_l3 m a b c0 (n + 1) = es_l3 m a b c0 n ++ (if a < b ∧ b < c0 + (n : Int) ∧ es_set a b (c0 + (n : Int)) = m then [(a, b, c0 + (n : Int))] else []) := rfl
theorem c_mo_findThrees (d : Nat) (i : Int) (I0 : am_I) (hi : 0 ≤ i ∧ i ≤ 5) (hl0 : 0 ≤ I0 51 0 ∧ I0 51 0 ≤ 116) (hl1 : 0 ≤ I0 51 1 ∧ I0 51 1 ≤ 116) (hl2 : 0 ≤ I0 51 2 ∧ I0 51 2 ≤ 116) (hm : es_hb (I0 50 i.toNat)) : am_C d Y_mo_findThrees [.inr (.inr 44), .inl i] I0 (fun r I' => r = none ∧ am_fr I0 I' [56, 57] ∧ (∀ j : Nat, j ≠ i.toNat → I' 57 j = I0 57 j) ∧ (∀ j : Nat, ¬ (90 * i ≤ j ∧ (j : Int) < 90 * i + 90) → I' 56 j = I0 56 j) ∧ es_ti (I' 57 i.toNat) (I' 56) (90 * i) (es_tl (I0 50 i.toNat) (I0 51 0) (I0 51 1) (I0 51 2))) := by
  refine am_enter ok_mo_findThrees rfl ?_
  obtain ⟨hm1, hm2⟩ := id hm
  have hlen := es_tl_len (m := I0 50 i.toNat) (a0 := I0 51 0) (b0 := I0 51 1) (c0 := I0 51 2) (by omega) hm2 hl0.1 hl1.1 hl2.1
  have loopa : ∀ (m na : Nat) (I : am_I), na ≤ 12 → 12 - na < m → am_fr I0 I [56, 57] → (∀ j : Nat, j ≠ i.toNat → I 57 j = I0 57 j) → (∀ j : Nat, ¬ (90 * i ≤ j ∧ (j : Int) < 90 * i + 90) → I 56 j = I0 56 j) → es_ti (I 57 i.toNat) (I 56) (90 * i) (es_l1 (I0 50 i.toNat) (I0 51 0) (I0 51 1) (I0 51 2) na) → am_V d Y_mo_findThrees (fun r I' => r = none ∧ am_fr I0 I' [56, 57] ∧ (∀ j : Nat, j ≠ i.toNat → I' 57 j = I0 57 j) ∧ (∀ j : Nat, ¬ (90 * i ≤ j ∧ (j : Int) < 90 * i + 90) → I' 56 j = I0 56 j) ∧ es_ti (I' 57 i.toNat) (I' 56) (90 * i) (es_tl (I0 50 i.toNat) (I0 51 0) (I0 51 1) (I0 51 2))) 14 [(0, .inr (.inr 44)), (1, .inl i), (2, .inl (I0 51 0 + na))] [] I := by
    intro m
    induction m with
    | zero => intro na I h1 h2; omega
    | succ m ih =>
      intro na I h1 h2 hf h57 h56 hti
      have loopb : ∀ (m2 nb : Nat) (I : am_I), na < 12 → nb ≤ 12 → 12 - nb < m2 → am_fr I0 I [56, 57] → (∀ j : Nat, j ≠ i.toNat → I 57 j = I0 57 j) → (∀ j : Nat, ¬ (90 * i ≤ j ∧ (j : Int) < 90 * i + 90) → I 56 j = I0 56 j) → es_ti (I 57 i.toNat) (I 56) (90 * i) (es_l1 (I0 50 i.toNat) (I0 51 0) (I0 51 1) (I0 51 2) na ++ es_l2 (I0 50 i.toNat) (I0 51 0 + (na : Int)) (I0 51 1) (I0 51 2) nb) → am_V d Y_mo_findThrees (fun r I' => r = none ∧ am_fr I0 I' [56, 57] ∧ (∀ j : Nat, j ≠ i.toNat → I' 57 j = I0 57 j) ∧ (∀ j : Nat, ¬ (90 * i ≤ j ∧ (j : Int) < 90 * i + 90) → I' 56 j = I0 56 j) ∧ es_ti (I' 57 i.toNat) (I' 56) (90 * i) (es_tl (I0 50 i.toNat) (I0 51 0) (I0 51 1) (I0 51 2))) 34 [(0, .inr (.inr 44)), (1, .inl i), (2, .inl (I0 51 0 + na)), (3, .inl (I0 51 1 + nb))] [] I := by
        intro m2
        induction m2 with
        | zero => intro nb I g0 g1 g2; omega
        | succ m2 ihb =>
          intro nb I g0 g1 g2 hf h57 h56 hti
          have loopc : ∀ (m3 nc : Nat) (I : am_I), nb < 12 → nc ≤ 12 → 12 - nc < m3 → am_fr I0 I [56, 57] → (∀ j : Nat, j ≠ i.toNat → I 57 j = I0 57 j) → (∀ j : Nat, ¬ (90 * i ≤ j ∧ (j : Int) < 90 * i + 90) → I 56 j = I0 56 j) → es_ti (I 57 i.toNat) (I 56) (90 * i) (es_l1 (I0 50 i.toNat) (I0 51 0) (I0 51 1) (I0 51 2) na ++ es_l2 (I0 50 i.toNat) (I0 51 0 + (na : Int)) (I0 51 1) (I0 51 2) nb ++ es_l3 (I0 50 i.toNat) (I0 51 0 + (na : Int)) (I0 51 1 + (nb : Int)) (I0 51 2) nc) → am_V d Y_mo_findThrees (fun r I' => r = none ∧ am_fr I0 I' [56, 57] ∧ (∀ j : Nat, j ≠ i.toNat → I' 57 j = I0 57 j) ∧ (∀ j : Nat, ¬ (90 * i ≤ j ∧ (j : Int) < 90 * i + 90) → I' 56 j = I0 56 j) ∧ es_ti (I' 57 i.toNat) (I' 56) (90 * i) (es_tl (I0 50 i.toNat) (I0 51 0) (I0 51 1) (I0 51 2))) 55 [(0, .inr (.inr 44)), (1, .inl i), (2, .inl (I0 51 0 + na)), (3, .inl (I0 51 1 + nb)), (4, .inl (I0 51 2 + nc))] [] I := by
            intro m3
            induction m3 with
            | zero => intro nc I f0 f1 f2; omega
            | succ m3 ihc =>
              intro nc I f0 f1 f2 hf h57 h56 hti
              have e50 : I 50 = I0 50 := hf 50 rfl
              have e51 : I 51 = I0 51 := hf 51 rfl
              have d0 : I 51 0 = I0 51 0 := congrFun e51 0
              have d1 : I 51 1 = I0 51 1 := congrFun e51 1
              have d2 : I 51 2 = I0 51 2 := congrFun e51 2
              have dm : I 50 i.toNat = I0 50 i.toNat := congrFun e50 _
              have hpre := es_pre (m := I0 50 i.toNat) (a0 := I0 51 0) (b0 := I0 51 1) (c0 := I0 51 2) (i := na) (j := nb) (k := nc) g0 f0 f1
              have hcnt := hti.1
              have hl3 : (nc : Int) < 12 → es_l1 (I0 50 i.toNat) (I0 51 0) (I0 51 1) (I0 51 2) na ++ es_l2 (I0 50 i.toNat) (I0 51 0 + (na : Int)) (I0 51 1) (I0 51 2) nb ++ es_l3 (I0 50 i.toNat) (I0 51 0 + (na : Int)) (I0 51 1 + (nb : Int)) (I0 51 2) (nc + 1) = es_l1 (I0 50 i.toNat) (I0 51 0) (I0 51 1) (I0 51 2) na ++ es_l2 (I0 50 i.toNat) (I0 51 0 + (na : Int)) (I0 51 1) (I0 51 2) nb ++ es_l3 (I0 50 i.toNat) (I0 51 0 + (na : Int)) (I0 51 1 + (nb : Int)) (I0 51 2) nc ++ (if I0 51 0 + (na : Int) < I0 51 1 + (nb : Int) ∧ I0 51 1 + (nb : Int) < I0 51 2 + (nc : Int) ∧ es_set (I0 51 0 + (na : Int)) (I0 51 1 + (nb : Int)) (I0 51 2 + (nc : Int)) = I0 50 i.toNat then [(I0 51 0 + (na : Int), I0 51 1 + (nb : Int), I0 51 2 + (nc : Int))] else []) := by
                intro _
                rw [es_l3_s, List.append_assoc, List.append_assoc, List.append_assoc]
              have skip : (nc : Int) < 12 → ¬ (I0 51 0 + (na : Int) < I0 51 1 + (nb : Int) ∧ I0 51 1 + (nb : Int) < I0 51 2 + (nc : Int) ∧ es_set (I0 51 0 + (na : Int)) (I0 51 1 + (nb : Int)) (I0 51 2 + (nc : Int)) = I0 50 i.toNat) → am_V d Y_mo_findThrees (fun r I' => r = none ∧ am_fr I0 I' [56, 57] ∧ (∀ j : Nat, j ≠ i.toNat → I' 57 j = I0 57 j) ∧ (∀ j : Nat, ¬ (90 * i ≤ j ∧ (j : Int) < 90 * i + 90) → I' 56 j = I0 56 j) ∧ es_ti (I' 57 i.toNat) (I' 56) (90 * i) (es_tl (I0 50 i.toNat) (I0 51 0) (I0 51 1) (I0 51 2))) 55 [(0, .inr (.inr 44)), (1, .inl i), (2, .inl (I0 51 0 + na)), (3, .inl (I0 51 1 + nb)), (4, .inl (I0 51 2 + (nc : Int) + 1))] [] I := by
                intro h5 h6
                have h9 := ihc (nc + 1) I f0 (by omega) (by omega) hf h57 h56 (by rw [hl3 h5, if_neg h6, List.append_nil]; exact hti)
                rw [show I0 51 2 + ((nc + 1 : Nat) : Int) = I0 51 2 + (nc : Int) + 1 by omega] at h9
                exact h9
              have hrs := am_or_rng (am_or (am_shl 1 ((I0 51 0 + (na : Int)) % 12)) (am_shl 1 ((I0 51 1 + (nb : Int)) % 12))) (am_shl 1 ((I0 51 2 + (nc : Int)) % 12))
              refine am_go 1 [] rfl trivial ?_
              repeat' (first
                | (refine am_gp 80 [34, 55, 114] rfl (by first | exact True.intro | (refine And.intro ?_ ?_ <;> decide) | exact Or.inl rfl | exact Or.inr rfl | (simp (decide := true) only [am_p, am_u_at, am_u_j, am_u_ne]; omega) | (simp (decide := true) only [am_p, and_true, true_and, true_or, or_true, am_u_at, am_u_j, am_u_ne]; omega) | (simp (decide := true) [am_p, am_u_at, am_u_j, am_u_ne]; omega)) ?_)
                | (show am_V _ _ _ _ _ _ _; simp only [Int.reduceToNat])
                | (refine am_bt rfl (by first | omega | (simp (decide := true) only [am_u_at, am_u_j, am_u_ne]; omega)) (by first | omega | (simp (decide := true) only [am_u_at, am_u_j, am_u_ne]; omega)) ?_)
                | (refine am_bf rfl (by first | omega | (simp (decide := true) only [am_u_at, am_u_j, am_u_ne]; omega)) (by first | omega | (simp (decide := true) only [am_u_at, am_u_j, am_u_ne]; omega)) ?_)
                | (refine am_br rfl (by first | omega | (simp (decide := true) only [am_u_at, am_u_j, am_u_ne]; omega)) (fun h => ?_) (fun h => ?_))
                | (refine am_rt rfl (by first | exact True.intro | (refine And.intro ?_ ?_ <;> decide) | exact Or.inl rfl | exact Or.inr rfl | (show _ ∨ _; omega)) ?_))
              · refine am_wk [4, 5, 6] ?_
                have ec : nc = 12 := by omega
                rw [ec] at hti
                have h9 := ihb (nb + 1) I g0 (by omega) (by omega) hf h57 h56 (by rw [List.append_assoc] at hti; exact hti)
                rw [show I0 51 1 + ((nb + 1 : Nat) : Int) = I0 51 1 + (nb : Int) + 1 by omega] at h9
                exact h9
              · exact am_wk [5, 6] (skip (by omega) (by omega))
              · exact am_wk [5, 6] (skip (by omega) (by omega))
              · rw [dm] at h
                exact am_wk [5, 6] (skip (by omega) (fun z => h z.2.2))
              · rw [dm] at h
                have hgood : I0 51 0 + (na : Int) < I0 51 1 + (nb : Int) ∧ I0 51 1 + (nb : Int) < I0 51 2 + (nc : Int) ∧ es_set (I0 51 0 + (na : Int)) (I0 51 1 + (nb : Int)) (I0 51 2 + (nc : Int)) = I0 50 i.toNat := ⟨by omega, by omega, Classical.byContradiction (fun z => h z)⟩
                have hpre2 := es_pre (m := I0 50 i.toNat) (a0 := I0 51 0) (b0 := I0 51 1) (c0 := I0 51 2) (i := na) (j := nb) (k := nc + 1) g0 f0 (by omega)
                rw [hl3 (by omega), if_pos hgood, List.length_append] at hpre2
                have hpre3 : (es_l1 (I0 50 i.toNat) (I0 51 0) (I0 51 1) (I0 51 2) na ++ es_l2 (I0 50 i.toNat) (I0 51 0 + (na : Int)) (I0 51 1) (I0 51 2) nb ++ es_l3 (I0 50 i.toNat) (I0 51 0 + (na : Int)) (I0 51 1 + (nb : Int)) (I0 51 2) nc).length + 1 ≤ (es_tl (I0 50 i.toNat) (I0 51 0) (I0 51 1) (I0 51 2)).length := hpre2
                have hpush := es_ti_push (a := I0 51 0 + (na : Int)) (b := I0 51 1 + (nb : Int)) (c := I0 51 2 + (nc : Int)) (show 0 ≤ 90 * i by omega) hti
                repeat' (first
                  | (refine am_gp 80 [55] rfl (by first | exact True.intro | (refine And.intro ?_ ?_ <;> decide) | exact Or.inl rfl | exact Or.inr rfl | (simp (decide := true) only [am_p, am_u_at, am_u_j, am_u_ne]; omega) | (simp (decide := true) only [am_p, and_true, true_and, true_or, or_true, am_u_at, am_u_j, am_u_ne]; omega) | (simp (decide := true) [am_p, am_u_at, am_u_j, am_u_ne]; omega)) ?_)
                  | (show am_V _ _ _ _ _ _ _; simp only [Int.reduceToNat])
                  | (refine am_bt rfl (by first | omega | (simp (decide := true) only [am_u_at, am_u_j, am_u_ne]; omega)) (by first | omega | (simp (decide := true) only [am_u_at, am_u_j, am_u_ne]; omega)) ?_)
                  | (refine am_bf rfl (by first | omega | (simp (decide := true) only [am_u_at, am_u_j, am_u_ne]; omega)) (by first | omega | (simp (decide := true) only [am_u_at, am_u_j, am_u_ne]; omega)) ?_)
                  | (refine am_br rfl (by first | omega | (simp (decide := true) only [am_u_at, am_u_j, am_u_ne]; omega)) (fun h => ?_) (fun h => ?_))
                  | (refine am_rt rfl (by first | exact True.intro | (refine And.intro ?_ ?_ <;> decide) | exact Or.inl rfl | exact Or.inr rfl | (show _ ∨ _; omega)) ?_))
                refine am_wk [5, 6] ?_
                have h9 := ihc (nc + 1) _ f0 (by omega) (by omega) ((((hf.u (k := 56) (90 * i + 3 * I 57 i.toNat).toNat (I0 51 0 + (na : Int)) rfl).u (k := 56) (90 * i + 3 * I 57 i.toNat + 1).toNat (I0 51 1 + (nb : Int)) rfl).u (k := 56) (90 * i + 3 * I 57 i.toNat + 2).toNat (I0 51 2 + (nc : Int)) rfl).u (k := 57) i.toNat (I 57 i.toNat + 1) rfl) ?_ ?_ ?_
                · rw [show I0 51 2 + ((nc + 1 : Nat) : Int) = I0 51 2 + (nc : Int) + 1 by omega] at h9
                  exact h9
                · intro j hj
                  rw [am_u_eq, am_up_ne hj, am_u_ne (by decide), am_u_ne (by decide), am_u_ne (by decide)]
                  exact h57 j hj
                · intro j hj
                  rw [am_u_ne (by decide), am_u_eq, am_u_eq, am_u_eq, am_up_ne (by omega), am_up_ne (by omega), am_up_ne (by omega)]
                  exact h56 j hj
                · rw [hl3 (by omega), if_pos hgood, am_u_at, am_u_ne (show (56 : Nat) ≠ 57 by decide), am_u_eq, am_u_eq, am_u_eq]
                  exact hpush
          have d1 : I 51 1 = I0 51 1 := by rw [hf 51 rfl]
          have d2 : I 51 2 = I0 51 2 := by rw [hf 51 rfl]
          refine am_go 1 [] rfl trivial ?_
          repeat' (first
            | (refine am_gp 80 [14, 55] rfl (by first | exact True.intro | (refine And.intro ?_ ?_ <;> decide) | exact Or.inl rfl | exact Or.inr rfl | (simp (decide := true) only [am_p, am_u_at, am_u_j, am_u_ne]; omega) | (simp (decide := true) only [am_p, and_true, true_and, true_or, or_true, am_u_at, am_u_j, am_u_ne]; omega) | (simp (decide := true) [am_p, am_u_at, am_u_j, am_u_ne]; omega)) ?_)
            | (show am_V _ _ _ _ _ _ _; simp only [Int.reduceToNat])
            | (refine am_bt rfl (by first | omega | (simp (decide := true) only [am_u_at, am_u_j, am_u_ne]; omega)) (by first | omega | (simp (decide := true) only [am_u_at, am_u_j, am_u_ne]; omega)) ?_)
            | (refine am_bf rfl (by first | omega | (simp (decide := true) only [am_u_at, am_u_j, am_u_ne]; omega)) (by first | omega | (simp (decide := true) only [am_u_at, am_u_j, am_u_ne]; omega)) ?_)
            | (refine am_br rfl (by first | omega | (simp (decide := true) only [am_u_at, am_u_j, am_u_ne]; omega)) (fun h => ?_) (fun h => ?_))
            | (refine am_rt rfl (by first | exact True.intro | (refine And.intro ?_ ?_ <;> decide) | exact Or.inl rfl | exact Or.inr rfl | (show _ ∨ _; omega)) ?_))
          · refine am_wk [3, 4, 5, 6] ?_
            have eb : nb = 12 := by omega
            rw [eb] at hti
            have h9 := ih (na + 1) I (by omega) (by omega) hf h57 h56 hti
            rw [show I0 51 0 + ((na + 1 : Nat) : Int) = I0 51 0 + (na : Int) + 1 by omega] at h9
            exact h9
          · rw [d2]
            have h9 := loopc 14 0 I (by omega) (by omega) (by omega) hf h57 h56 (by
              show es_ti (I 57 i.toNat) (I 56) (90 * i) (es_l1 (I0 50 i.toNat) (I0 51 0) (I0 51 1) (I0 51 2) na ++ es_l2 (I0 50 i.toNat) (I0 51 0 + (na : Int)) (I0 51 1) (I0 51 2) nb ++ [])
              rw [List.append_nil]
              exact hti)
            rw [show I0 51 2 + ((0 : Nat) : Int) = I0 51 2 by omega] at h9
            exact h9
      have d0 : I 51 0 = I0 51 0 := by rw [hf 51 rfl]
      have d1 : I 51 1 = I0 51 1 := by rw [hf 51 rfl]
      refine am_go 1 [] rfl trivial ?_
      repeat' (first
        | (refine am_gp 80 [34] rfl (by first | exact True.intro | (refine And.intro ?_ ?_ <;> decide) | exact Or.inl rfl | exact Or.inr rfl | (simp (decide := true) only [am_p, am_u_at, am_u_j, am_u_ne]; omega) | (simp (decide := true) only [am_p, and_true, true_and, true_or, or_true, am_u_at, am_u_j, am_u_ne]; omega) | (simp (decide := true) [am_p, am_u_at, am_u_j, am_u_ne]; omega)) ?_)
        | (show am_V _ _ _ _ _ _ _; simp only [Int.reduceToNat])
        | (refine am_bt rfl (by first | omega | (simp (decide := true) only [am_u_at, am_u_j, am_u_ne]; omega)) (by first | omega | (simp (decide := true) only [am_u_at, am_u_j, am_u_ne]; omega)) ?_)
        | (refine am_bf rfl (by first | omega | (simp (decide := true) only [am_u_at, am_u_j, am_u_ne]; omega)) (by first | omega | (simp (decide := true) only [am_u_at, am_u_j, am_u_ne]; omega)) ?_)
        | (refine am_br rfl (by first | omega | (simp (decide := true) only [am_u_at, am_u_j, am_u_ne]; omega)) (fun h => ?_) (fun h => ?_))
        | (refine am_rt rfl (by first | exact True.intro | (refine And.intro ?_ ?_ <;> decide) | exact Or.inl rfl | exact Or.inr rfl | (show _ ∨ _; omega)) ?_))
      · have ea : na = 12 := by omega
        rw [ea] at hti
        exact ⟨rfl, hf, h57, h56, hti⟩
      · rw [d1]
        have h9 := loopb 14 0 I (by omega) (by omega) (by omega) hf h57 h56 (by
          show es_ti (I 57 i.toNat) (I 56) (90 * i) (es_l1 (I0 50 i.toNat) (I0 51 0) (I0 51 1) (I0 51 2) na ++ [])
          rw [List.append_nil]
          exact hti)
        rw [show I0 51 1 + ((0 : Nat) : Int) = I0 51 1 by omega] at h9
        exact h9
  repeat' (first
    | (refine am_gp 80 [14] rfl (by first | exact True.intro | (refine And.intro ?_ ?_ <;> decide) | exact Or.inl rfl | exact Or.inr rfl | (simp (decide := true) only [am_p, am_u_at, am_u_j, am_u_ne]; omega) | (simp (decide := true) only [am_p, and_true, true_and, true_or, or_true, am_u_at, am_u_j, am_u_ne]; omega) | (simp (decide := true) [am_p, am_u_at, am_u_j, am_u_ne]; omega)) ?_)
    | (show am_V _ _ _ _ _ _ _; simp only [Int.reduceToNat])
    | (refine am_bt rfl (by first | omega | (simp (decide := true) only [am_u_at, am_u_j, am_u_ne]; omega)) (by first | omega | (simp (decide := true) only [am_u_at, am_u_j, am_u_ne]; omega)) ?_)
    | (refine am_bf rfl (by first | omega | (simp (decide := true) only [am_u_at, am_u_j, am_u_ne]; omega)) (by first | omega | (simp (decide := true) only [am_u_at, am_u_j, am_u_ne]; omega)) ?_)
    | (refine am_br rfl (by first | omega | (simp (decide := true) only [am_u_at, am_u_j, am_u_ne]; omega)) (fun h => ?_) (fun h => ?_))
    | (refine am_rt rfl (by first | exact True.intro | (refine And.intro ?_ ?_ <;> decide) | exact Or.inl rfl | exact Or.inr rfl | (show _ ∨ _; omega)) ?_))
  have h9 := loopa 14 0 (am_u I0 57 i.toNat 0) (by omega) (by omega) (am_fr.rf.u _ _ rfl) (fun j hj => by rw [am_u_eq, am_up_ne hj]) (fun j hj => by rw [am_u_ne (by decide)]) ?_
  · rw [show I0 51 0 + ((0 : Nat) : Int) = I0 51 0 by omega] at h9
    exact h9
  · rw [am_u_at]
    exact ⟨rfl, fun k hk => absurd hk (Nat.not_lt_zero k)⟩
