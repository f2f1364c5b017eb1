theorem c_ha_findThrees (d : Nat) (i : Int) (I0 : am_I) (hi : 0 ≤ i ∧ i ≤ 5) (hl0 : 0 ≤ I0 19 0 ∧ I0 19 0 ≤ 116) (hl1 : 0 ≤ I0 19 1 ∧ I0 19 1 ≤ 116) (hl2 : 0 ≤ I0 19 2 ∧ I0 19 2 ≤ 116) (hm : es_hb (I0 18 i.toNat)) : am_C (d + 2) Y_ha_findThrees [.inr (.inr 17), .inl i] I0 (fun r I' => r = none ∧ am_fr I0 I' [20, 21] ∧ (∀ j : Nat, j ≠ i.toNat → I' 20 j = I0 20 j) ∧ (∀ j : Nat, ¬ (18 * i ≤ j ∧ (j : Int) < 18 * i + 18) → I' 21 j = I0 21 j) ∧ es_ti (I' 20 i.toNat) (I' 21) (18 * i) (es_tl (I0 18 i.toNat) (I0 19 0) (I0 19 1) (I0 19 2))) := by
  refine am_enter ok_ha_findThrees rfl ?_
  obtain ⟨hm1, hm2⟩ := id hm
  have hlen := es_tl_len (m := I0 18 i.toNat) (a0 := I0 19 0) (b0 := I0 19 1) (c0 := I0 19 2) (by omega) hm2 hl0.1 hl1.1 hl2.1
  have loopa : ∀ (m na : Nat) (I : am_I), na ≤ 12 → 12 - na < m → am_fr I0 I [20, 21] → (∀ j : Nat, j ≠ i.toNat → I 20 j = I0 20 j) → (∀ j : Nat, ¬ (18 * i ≤ j ∧ (j : Int) < 18 * i + 18) → I 21 j = I0 21 j) → es_ti (I 20 i.toNat) (I 21) (18 * i) (es_l1 (I0 18 i.toNat) (I0 19 0) (I0 19 1) (I0 19 2) na) → am_V (d + 2) Y_ha_findThrees (fun r I' => r = none ∧ am_fr I0 I' [20, 21] ∧ (∀ j : Nat, j ≠ i.toNat → I' 20 j = I0 20 j) ∧ (∀ j : Nat, ¬ (18 * i ≤ j ∧ (j : Int) < 18 * i + 18) → I' 21 j = I0 21 j) ∧ es_ti (I' 20 i.toNat) (I' 21) (18 * i) (es_tl (I0 18 i.toNat) (I0 19 0) (I0 19 1) (I0 19 2))) 14 [(0, .inr (.inr 17)), (1, .inl i), (2, .inl (I0 19 0 + na))] [] I := by
    intro m
    induction m with
    | zero => intro na I h1 h2; omega
    | succ m ih =>
      intro na I h1 h2 hf h20 h21 hti
      have e18 : I 18 = I0 18 := hf 18 rfl
      have e19 : I 19 = I0 19 := hf 19 rfl
      have d0 : I 19 0 = I0 19 0 := congrFun e19 0
      have d1 : I 19 1 = I0 19 1 := congrFun e19 1
      have d2 : I 19 2 = I0 19 2 := congrFun e19 2
      have dm : I 18 i.toNat = I0 18 i.toNat := congrFun e18 _
      have hmI : es_hb (I 18 i.toNat) := by rw [dm]; exact hm
      have nexta : ∀ I : am_I, na < 12 → am_fr I0 I [20, 21] → (∀ j : Nat, j ≠ i.toNat → I 20 j = I0 20 j) → (∀ j : Nat, ¬ (18 * i ≤ j ∧ (j : Int) < 18 * i + 18) → I 21 j = I0 21 j) → es_ti (I 20 i.toNat) (I 21) (18 * i) (es_l1 (I0 18 i.toNat) (I0 19 0) (I0 19 1) (I0 19 2) (na + 1)) → am_V (d + 2) Y_ha_findThrees (fun r I' => r = none ∧ am_fr I0 I' [20, 21] ∧ (∀ j : Nat, j ≠ i.toNat → I' 20 j = I0 20 j) ∧ (∀ j : Nat, ¬ (18 * i ≤ j ∧ (j : Int) < 18 * i + 18) → I' 21 j = I0 21 j) ∧ es_ti (I' 20 i.toNat) (I' 21) (18 * i) (es_tl (I0 18 i.toNat) (I0 19 0) (I0 19 1) (I0 19 2))) 14 [(0, .inr (.inr 17)), (1, .inl i), (2, .inl (I0 19 0 + (na : Int) + 1))] [] I := by
        intro I hna hf h20 h21 hti
        have h9 := ih (na + 1) I (by omega) (by omega) hf h20 h21 hti
        rw [show I0 19 0 + ((na + 1 : Nat) : Int) = I0 19 0 + (na : Int) + 1 by omega] at h9
        exact h9
      have hl1s : es_l1 (I0 18 i.toNat) (I0 19 0) (I0 19 1) (I0 19 2) (na + 1) = es_l1 (I0 18 i.toNat) (I0 19 0) (I0 19 1) (I0 19 2) na ++ es_l2 (I0 18 i.toNat) (I0 19 0 + (na : Int)) (I0 19 1) (I0 19 2) 12 := rfl
      have hlb : na < 12 → (es_l1 (I0 18 i.toNat) (I0 19 0) (I0 19 1) (I0 19 2) na ++ es_l2 (I 18 i.toNat) (I0 19 0 + (na : Int)) (I 19 1) (I 19 2) 12).length ≤ 6 := by
        intro h
        rw [dm, d1, d2, ← hl1s]
        have q1 := es_l1_mono (m := I0 18 i.toNat) (a0 := I0 19 0) (b0 := I0 19 1) (c0 := I0 19 2) (n := na + 1) (12 - (na + 1))
        rw [show na + 1 + (12 - (na + 1)) = 12 by omega] at q1
        unfold es_tl at hlen
        omega
      have emp : es_bit (I0 18 i.toNat) (I0 19 0 + (na : Int)) = 0 → es_l2 (I0 18 i.toNat) (I0 19 0 + (na : Int)) (I0 19 1) (I0 19 2) 12 = [] := by
        intro h
        refine es_l2_e _ (fun k hk => es_l3_e 12 (fun k2 hk2 z => ?_))
        have := (es_setb (by omega) (by omega) (by omega) z.2.2).1
        omega
      refine am_go 1 [] rfl trivial ?_
      repeat' (first
        | (refine am_gp 80 [14, 40] rfl (by first | exact True.intro | (refine And.intro ?_ ?_ <;> decide) | exact Or.inl rfl | exact Or.inr rfl | (simp (decide := true) only [am_p, am_u_at, am_u_j, am_u_ne]; omega) | (simp (decide := true) only [am_p, and_true, true_and, true_or, or_true, am_u_at, am_u_j, am_u_ne]; omega) | (simp (decide := true) [am_p, am_u_at, am_u_j, am_u_ne]; omega)) ?_)
        | (show am_V _ _ _ _ _ _ _; simp only [Int.reduceToNat])
        | (refine am_bt rfl (by first | omega | (simp (decide := true) only [am_u_at, am_u_j, am_u_ne]; omega)) (by first | omega | (simp (decide := true) only [am_u_at, am_u_j, am_u_ne]; omega)) ?_)
        | (refine am_bf rfl (by first | omega | (simp (decide := true) only [am_u_at, am_u_j, am_u_ne]; omega)) (by first | omega | (simp (decide := true) only [am_u_at, am_u_j, am_u_ne]; omega)) ?_)
        | (refine am_br rfl (by first | omega | (simp (decide := true) only [am_u_at, am_u_j, am_u_ne]; omega)) (fun h => ?_) (fun h => ?_))
        | (refine am_cN (y' := Y_es_hasClass) rfl lk_ha_47 ok_es_hasClass rfl rfl (c_hasClass _ _ _ _ (by first | omega | (simp (decide := true) only [am_u_at, am_u_j, am_u_ne]; omega))) ?_; rintro r I ⟨rfl, (⟨rfl, hbi⟩ | ⟨rfl, hbi⟩)⟩ <;> (try (exfalso; omega)))
        | (refine am_rt rfl (by first | exact True.intro | (refine And.intro ?_ ?_ <;> decide) | exact Or.inl rfl | exact Or.inr rfl | (show _ ∨ _; omega)) ?_))
      · rw [show na = 12 by omega] at hti
        exact ⟨rfl, hf, h20, h21, hti⟩
      · have hlb := hlb (by omega)
        clear emp hlen
        generalize hLc : es_l1 (I0 18 i.toNat) (I0 19 0) (I0 19 1) (I0 19 2) na = Lc0 at *
        repeat' (first
          | (refine am_gp 80 [14] rfl (by first | exact True.intro | (refine And.intro ?_ ?_ <;> decide) | exact Or.inl rfl | exact Or.inr rfl | (simp (decide := true) only [am_p, am_u_at, am_u_j, am_u_ne]; omega) | (simp (decide := true) only [am_p, and_true, true_and, true_or, or_true, am_u_at, am_u_j, am_u_ne]; omega) | (simp (decide := true) [am_p, am_u_at, am_u_j, am_u_ne]; omega)) ?_)
          | (show am_V _ _ _ _ _ _ _; simp only [Int.reduceToNat])
          | (refine am_bt rfl (by first | omega | (simp (decide := true) only [am_u_at, am_u_j, am_u_ne]; omega)) (by first | omega | (simp (decide := true) only [am_u_at, am_u_j, am_u_ne]; omega)) ?_)
          | (refine am_bf rfl (by first | omega | (simp (decide := true) only [am_u_at, am_u_j, am_u_ne]; omega)) (by first | omega | (simp (decide := true) only [am_u_at, am_u_j, am_u_ne]; omega)) ?_)
          | (refine am_br rfl (by first | omega | (simp (decide := true) only [am_u_at, am_u_j, am_u_ne]; omega)) (fun h => ?_) (fun h => ?_))
          | (refine am_cV (y' := Y_ha_findAbove) rfl lk_ha_51 ok_ha_findAbove rfl rfl rfl (c_ha_findAbove _ _ _ _ Lc0 (by first | omega | (simp (decide := true) only [am_u_at, am_u_j, am_u_ne]; omega)) (by first | omega | (simp (decide := true) only [am_u_at, am_u_j, am_u_ne]; omega)) (by first | omega | (simp (decide := true) only [am_u_at, am_u_j, am_u_ne]; omega)) hmI hlb hti) ?_; rintro r I ⟨rfl, hfr, h20n, h21n, htin⟩)
          | (refine am_rt rfl (by first | exact True.intro | (refine And.intro ?_ ?_ <;> decide) | exact Or.inl rfl | exact Or.inr rfl | (show _ ∨ _; omega)) ?_))
        refine nexta _ (by omega) (hf.tr hfr) ?_ ?_ ?_
        · intro j hj
          rw [h20n j hj]
          exact h20 j hj
        · intro j hj
          rw [h21n j hj]
          exact h21 j hj
        · rw [dm, d1, d2] at htin
          rw [hl1s]
          exact htin
      · rw [dm] at hbi
        refine nexta I (by omega) hf h20 h21 ?_
        rw [hl1s, emp hbi, List.append_nil]
        exact hti
  repeat' (first
    | (refine am_gp 80 [14] rfl (by first | exact True.intro | (refine And.intro ?_ ?_ <;> decide) | exact Or.inl rfl | exact Or.inr rfl | (simp (decide := true) only [am_p, am_u_at, am_u_j, am_u_ne]; omega) | (simp (decide := true) only [am_p, and_true, true_and, true_or, or_true, am_u_at, am_u_j, am_u_ne]; omega) | (simp (decide := true) [am_p, am_u_at, am_u_j, am_u_ne]; omega)) ?_)
    | (show am_V _ _ _ _ _ _ _; simp only [Int.reduceToNat])
    | (refine am_bt rfl (by first | omega | (simp (decide := true) only [am_u_at, am_u_j, am_u_ne]; omega)) (by first | omega | (simp (decide := true) only [am_u_at, am_u_j, am_u_ne]; omega)) ?_)
    | (refine am_bf rfl (by first | omega | (simp (decide := true) only [am_u_at, am_u_j, am_u_ne]; omega)) (by first | omega | (simp (decide := true) only [am_u_at, am_u_j, am_u_ne]; omega)) ?_)
    | (refine am_br rfl (by first | omega | (simp (decide := true) only [am_u_at, am_u_j, am_u_ne]; omega)) (fun h => ?_) (fun h => ?_))
    | (refine am_rt rfl (by first | exact True.intro | (refine And.intro ?_ ?_ <;> decide) | exact Or.inl rfl | exact Or.inr rfl | (show _ ∨ _; omega)) ?_))
  have h9 := loopa 14 0 (am_u I0 20 i.toNat 0) (by omega) (by omega) (am_fr.rf.u _ _ rfl) (fun j hj => by rw [am_u_eq, am_up_ne hj]) (fun j hj => by rw [am_u_ne (by decide)]) ?_
  · rw [show I0 19 0 + ((0 : Nat) : Int) = I0 19 0 by omega] at h9
    exact h9
  · rw [am_u_at]
    exact ⟨rfl, fun k hk => absurd hk (Nat.not_lt_zero k)⟩
def es_Lc (I : am_I) (i : Nat) : List (Int × Int × Int) := if i < 6 then es_tl (I 18 i) (I 19 0) (I 19 1) (I 19 2) else []
def es_hc (I : am_I) : Prop := (0 ≤ I 17 2 ∧ I 17 2 ≤ 6) ∧ (0 ≤ I 19 0 ∧ I 19 0 ≤ 116) ∧ (0 ≤ I 19 1 ∧ I 19 1 ≤ 116) ∧ (0 ≤ I 19 2 ∧ I 19 2 ≤ 116) ∧ (0 ≤ I 17 3 ∧ I 17 3 ≤ 12) ∧ ∀ j : Nat, (j : Int) < I 17 2 → es_hb (I 18 j)
def es_r3c (J I : am_I) (q : Nat) : Prop := es_ti (I 20 q) (I 21) (18 * (q : Int)) (es_Lc J q) ∧ ∀ t : Nat, t < (es_Lc J q).length → I 22 ((q : Int) * 6 + (t : Int)).toNat = es_cw (J 17 3) (es_Lc J) (J 17 2).toNat ((J 17 2).toNat - 1 - q) t
theorem es_Lc_e {J : am_I} (h : es_hc J) {q : Nat} (hq : (q : Int) < J 17 2) : es_Lc J q = es_tl (J 18 q) (J 19 0) (J 19 1) (J 19 2) := by
  unfold es_Lc
  obtain ⟨h1, _⟩ := h
  exact if_pos (by omega)
theorem es_Lc_len {J : am_I} (h : es_hc J) {q : Nat} (hq : (q : Int) < J 17 2) : (es_Lc J q).length ≤ 6 := by
  rw [es_Lc_e h hq]
  obtain ⟨h1, h2, h3, h4, h5, h6⟩ := h
  have h7 := h6 q hq
  unfold es_hb at h7
  exact es_tl_len (by omega) h7.2 h2.1 h3.1 h4.1
theorem es_Lc_asc {J : am_I} (h : es_hc J) {q k : Nat} (hq : (q : Int) < J 17 2) (hk : k < (es_Lc J q).length) : es_asc (es_nth (es_Lc J q) k) := by
  rw [es_Lc_e h hq] at hk ⊢
  obtain ⟨h1, h2, h3, h4, h5, h6⟩ := h
  have h7 := es_tl_P hk
  unfold es_asc
  omega
theorem es_ti_w {cnt : Int} {T : Nat → Int} {i : Int} {L : List (Int × Int × Int)} (h : es_ti cnt T (18 * i) L) {k : Nat} (hk : k < L.length) (v : Int) (h0 : 0 ≤ v) (h2 : v ≤ 2) : T ((i * 6 + (k : Int)) * 3 + v).toNat = es_v3 (es_nth L k) v := by
  have h3 := es_ti_v h hk v h0 h2
  rw [show (i * 6 + (k : Int)) * 3 + v = 18 * i + 3 * (k : Int) + v by omega]
  exact h3
theorem c_waysBehind (d : Nat) (i t : Int) (I I0 : am_I) (hc : es_hc I0) (b2 : I 17 2 = I0 17 2) (b3 : I 17 3 = I0 17 3) (hi : 0 ≤ i ∧ i + 1 < I0 17 2) (ht : 0 ≤ t ∧ t < ((es_Lc I0 i.toNat).length : Int)) (hti : es_ti (I 20 i.toNat) (I 21) (18 * i) (es_Lc I0 i.toNat)) (hrn : es_r3c I0 I (i.toNat + 1)) : am_C (d + 4) Y_ha_waysBehind [.inr (.inr 17), .inl i, .inl t] I (fun r I' => I' = I ∧ r = some (.inr (.inl (es_cw (I0 17 3) (es_Lc I0) (I0 17 2).toNat ((I0 17 2).toNat - 1 - i.toNat) t.toNat)))) := by
  refine am_enter ok_ha_waysBehind rfl ?_
  obtain ⟨n1, n2, n3, n4, n5, n6⟩ := id hc
  have hl1 := es_Lc_len hc (q := i.toNat) (by omega)
  have hl2 := es_Lc_len hc (q := i.toNat + 1) (by omega)
  have hc2 : I 20 (i + 1).toNat = ((es_Lc I0 (i.toNat + 1)).length : Int) := by
    rw [show (i + 1).toNat = i.toNat + 1 by omega]
    exact hrn.1.1
  have loopj : ∀ (m3 j : Nat), j ≤ (es_Lc I0 (i.toNat + 1)).length → (es_Lc I0 (i.toNat + 1)).length - j < m3 → am_V (d + 4) Y_ha_waysBehind (fun r I' => I' = I ∧ r = some (.inr (.inl (es_cw (I0 17 3) (es_Lc I0) (I0 17 2).toNat ((I0 17 2).toNat - 1 - i.toNat) t.toNat)))) 5 [(0, .inr (.inr 17)), (1, .inl i), (2, .inl t), (3, .inr (.inl (es_fd es_oc 0 (es_cq (I0 17 3) (es_Lc I0) (I0 17 2).toNat (i.toNat + 1) t.toNat) 0 j))), (5, .inl j)] [] I := by
    intro m3
    induction m3 with
    | zero => intro j f2 f3; omega
    | succ m3 ihj =>
      intro j f2 f3
      have hk := es_fc_D (f := es_cq (I0 17 3) (es_Lc I0) (I0 17 2).toNat (i.toNat + 1) t.toNat) (fun x => es_cq_D _ _ _ _ _ _) 0 j
      have hqd := es_cq_D (I0 17 3) (es_Lc I0) (I0 17 2).toNat (i.toNat + 1) t.toNat (j : Int)
      have hqd2 : 0 ≤ es_cq (I0 17 3) (es_Lc I0) (I0 17 2).toNat (i.toNat + 1) t.toNat (j : Int) ∧ es_cq (I0 17 3) (es_Lc I0) (I0 17 2).toNat (i.toNat + 1) t.toNat (j : Int) ≤ 1000000000000000000 := hqd
      have e9 : es_fd es_oc 0 (es_cq (I0 17 3) (es_Lc I0) (I0 17 2).toNat (i.toNat + 1) t.toNat) 0 (j + 1) = es_oc (es_fd es_oc 0 (es_cq (I0 17 3) (es_Lc I0) (I0 17 2).toNat (i.toNat + 1) t.toNat) 0 j) (es_cq (I0 17 3) (es_Lc I0) (I0 17 2).toNat (i.toNat + 1) t.toNat (j : Int)) := by
        show es_oc _ (es_cq (I0 17 3) (es_Lc I0) (I0 17 2).toNat (i.toNat + 1) t.toNat (0 + (j : Int))) = _
        rw [show 0 + (j : Int) = j by omega]
      refine am_go 1 [] rfl trivial ?_
      repeat' (first
        | (refine am_gp 80 [5, 18] rfl (by first | exact True.intro | (refine And.intro ?_ ?_ <;> decide) | exact Or.inl rfl | exact Or.inr rfl | (simp (decide := true) only [am_p, am_u_at, am_u_j, am_u_ne]; omega) | (simp (decide := true) only [am_p, and_true, true_and, true_or, or_true, am_u_at, am_u_j, am_u_ne]; omega) | (simp (decide := true) [am_p, am_u_at, am_u_j, am_u_ne]; omega)) ?_)
        | (show am_V _ _ _ _ _ _ _; simp only [Int.reduceToNat])
        | (refine am_bt rfl (by first | omega | (simp (decide := true) only [am_u_at, am_u_j, am_u_ne]; omega)) (by first | omega | (simp (decide := true) only [am_u_at, am_u_j, am_u_ne]; omega)) ?_)
        | (refine am_bf rfl (by first | omega | (simp (decide := true) only [am_u_at, am_u_j, am_u_ne]; omega)) (by first | omega | (simp (decide := true) only [am_u_at, am_u_j, am_u_ne]; omega)) ?_)
        | (refine am_br rfl (by first | omega | (simp (decide := true) only [am_u_at, am_u_j, am_u_ne]; omega)) (fun h => ?_) (fun h => ?_))
        | (refine am_rt rfl (by first | exact True.intro | (refine And.intro ?_ ?_ <;> decide) | exact Or.inl rfl | exact Or.inr rfl | (show _ ∨ _; omega)) ?_))
      · have ej : j = (es_Lc I0 (i.toNat + 1)).length := by omega
        refine ⟨rfl, ?_⟩
        rw [es_cw_sum (by omega), ← ej]
      · have hj : j < (es_Lc I0 (i.toNat + 1)).length := by omega
        have vx1 : ∀ v : Int, 0 ≤ v → v ≤ 2 → I 21 ((i * 6 + t) * 3 + v).toNat = es_v3 (es_nth (es_Lc I0 i.toNat) t.toNat) v := by
          intro v v0 v2
          have := es_ti_w hti (k := t.toNat) (by omega) v v0 v2
          rw [show ((t.toNat : Nat) : Int) = t by omega] at this
          exact this
        have vy1 : ∀ v : Int, 0 ≤ v → v ≤ 2 → I 21 (((i + 1) * 6 + (j : Int)) * 3 + v).toNat = es_v3 (es_nth (es_Lc I0 (i.toNat + 1)) j) v := by
          intro v v0 v2
          have := es_ti_w hrn.1 hj v v0 v2
          rw [show ((i.toNat + 1 : Nat) : Int) = i + 1 by omega] at this
          exact this
        have ax := es_Lc_asc hc (q := i.toNat) (k := t.toNat) (by omega) (by omega)
        have ay := es_Lc_asc hc (q := i.toNat + 1) (k := j) (by omega) hj
        have hent : I 22 ((i + 1) * 6 + (j : Int)).toNat = es_cw (I0 17 3) (es_Lc I0) (I0 17 2).toNat ((I0 17 2).toNat - 1 - (i.toNat + 1)) j := by
          have := hrn.2 j hj
          rw [show ((i.toNat + 1 : Nat) : Int) = i + 1 by omega] at this
          exact this
        have hcd := es_cw_D (most := (I0 17 3)) (Ls := (es_Lc I0)) (n := (I0 17 2).toNat) ((I0 17 2).toNat - 1 - (i.toNat + 1)) j
        have q1 : es_fo (I 17 3) (es_nth (es_Lc I0 i.toNat) t.toNat) (es_nth (es_Lc I0 (i.toNat + 1)) j) → I 22 ((i + 1) * 6 + (j : Int)).toNat = es_cq (I0 17 3) (es_Lc I0) (I0 17 2).toNat (i.toNat + 1) t.toNat (j : Int) := by
          intro hfo
          rw [b3] at hfo
          rw [hent]
          exact (es_cq_t (Or.inr hfo)).symm
        have q2 : ¬ es_fo (I 17 3) (es_nth (es_Lc I0 i.toNat) t.toNat) (es_nth (es_Lc I0 (i.toNat + 1)) j) → es_cq (I0 17 3) (es_Lc I0) (I0 17 2).toNat (i.toNat + 1) t.toNat (j : Int) = 0 := by
          intro hfo
          rw [b3] at hfo
          exact es_cq_f (fun z => z.elim (by omega) hfo)
        generalize hvx : es_nth (es_Lc I0 i.toNat) t.toNat = vx at *
        generalize hvy : es_nth (es_Lc I0 (i.toNat + 1)) j = vy at *
        repeat' (first
          | (refine am_gp 80 [5] rfl (by first | exact True.intro | (refine And.intro ?_ ?_ <;> decide) | exact Or.inl rfl | exact Or.inr rfl | (simp (decide := true) only [am_p, am_u_at, am_u_j, am_u_ne]; omega) | (simp (decide := true) only [am_p, and_true, true_and, true_or, or_true, am_u_at, am_u_j, am_u_ne]; omega) | (simp (decide := true) [am_p, am_u_at, am_u_j, am_u_ne]; omega)) ?_)
          | (show am_V _ _ _ _ _ _ _; simp only [Int.reduceToNat])
          | (refine am_bt rfl (by first | omega | (simp (decide := true) only [am_u_at, am_u_j, am_u_ne]; omega)) (by first | omega | (simp (decide := true) only [am_u_at, am_u_j, am_u_ne]; omega)) ?_)
          | (refine am_bf rfl (by first | omega | (simp (decide := true) only [am_u_at, am_u_j, am_u_ne]; omega)) (by first | omega | (simp (decide := true) only [am_u_at, am_u_j, am_u_ne]; omega)) ?_)
          | (refine am_br rfl (by first | omega | (simp (decide := true) only [am_u_at, am_u_j, am_u_ne]; omega)) (fun h => ?_) (fun h => ?_))
          | (refine am_cV (y' := Y_ha_mayFollow) rfl lk_ha_61 ok_ha_mayFollow rfl rfl rfl (c_mayFollow _ _ _ _ _ vx vy (by first | omega | (simp (decide := true) only [am_u_at, am_u_j, am_u_ne]; omega)) (by first | omega | (simp (decide := true) only [am_u_at, am_u_j, am_u_ne]; omega)) (by first | omega | (simp (decide := true) only [am_u_at, am_u_j, am_u_ne]; omega)) (by assumption) (by assumption) (by assumption) (by assumption) (by first | omega | (simp (decide := true) only [am_u_at, am_u_j, am_u_ne]; omega))) ?_; rintro r I ⟨rfl, (⟨rfl, hfo⟩ | ⟨rfl, hfo⟩)⟩ <;> (try (exfalso; omega)))
          | (refine am_cN (y' := Y_es_cappedSum) rfl lk_ha_65 ok_es_cappedSum rfl rfl (c_capped _ _ _ _ (by first | omega | (simp (decide := true) only [am_u_at, am_u_j, am_u_ne]; omega)) (by first | omega | (simp (decide := true) only [am_u_at, am_u_j, am_u_ne]; omega))) ?_; rintro r I ⟨rfl, rfl⟩)
          | (refine am_rt rfl (by first | exact True.intro | (refine And.intro ?_ ?_ <;> decide) | exact Or.inl rfl | exact Or.inr rfl | (show _ ∨ _; omega)) ?_))
        · have h9 := ihj (j + 1) (by omega) (by omega)
          rw [e9, show ((j + 1 : Nat) : Int) = (j : Int) + 1 by omega, ← q1 hfo] at h9
          exact h9
        · have h9 := ihj (j + 1) (by omega) (by omega)
          rw [e9, q2 hfo, es_mn_r es_mc hk, show ((j + 1 : Nat) : Int) = (j : Int) + 1 by omega] at h9
          exact h9
  repeat' (first
    | (refine am_gp 80 [5] rfl (by first | exact True.intro | (refine And.intro ?_ ?_ <;> decide) | exact Or.inl rfl | exact Or.inr rfl | (simp (decide := true) only [am_p, am_u_at, am_u_j, am_u_ne]; omega) | (simp (decide := true) only [am_p, and_true, true_and, true_or, or_true, am_u_at, am_u_j, am_u_ne]; omega) | (simp (decide := true) [am_p, am_u_at, am_u_j, am_u_ne]; omega)) ?_)
    | (show am_V _ _ _ _ _ _ _; simp only [Int.reduceToNat])
    | (refine am_bt rfl (by first | omega | (simp (decide := true) only [am_u_at, am_u_j, am_u_ne]; omega)) (by first | omega | (simp (decide := true) only [am_u_at, am_u_j, am_u_ne]; omega)) ?_)
    | (refine am_bf rfl (by first | omega | (simp (decide := true) only [am_u_at, am_u_j, am_u_ne]; omega)) (by first | omega | (simp (decide := true) only [am_u_at, am_u_j, am_u_ne]; omega)) ?_)
    | (refine am_br rfl (by first | omega | (simp (decide := true) only [am_u_at, am_u_j, am_u_ne]; omega)) (fun h => ?_) (fun h => ?_))
    | (refine am_rt rfl (by first | exact True.intro | (refine And.intro ?_ ?_ <;> decide) | exact Or.inl rfl | exact Or.inr rfl | (show _ ∨ _; omega)) ?_))
  exact loopj 8 0 (by omega) (by omega)
theorem c_ha_fill (d : Nat) (I0 : am_I) (hc : es_hc I0) (hfl : I0 17 4 = 0 ∨ (I0 17 4 = 1 ∧ ∀ q : Nat, (q : Int) < I0 17 2 → es_r3c I0 I0 q)) : am_C (d + 5) Y_ha_fill [.inr (.inr 17)] I0 (fun r I' => r = none ∧ am_fr I0 I' [17, 20, 21, 22] ∧ I' 17 = am_up (I0 17) 4 1 ∧ ∀ q : Nat, (q : Int) < I0 17 2 → es_r3c I0 I' q) := by
  refine am_enter ok_ha_fill rfl ?_
  obtain ⟨n1, n2, n3, n4, n5, n6⟩ := id hc
  have loopi : ∀ (m : Nat) (i : Int) (I : am_I), -1 ≤ i → i < I0 17 2 → i + 1 < m → am_fr I0 I [20, 21, 22] → (∀ q : Nat, i < (q : Int) → (q : Int) < I0 17 2 → es_r3c I0 I q) → am_V (d + 5) Y_ha_fill (fun r I' => r = none ∧ am_fr I0 I' [17, 20, 21, 22] ∧ I' 17 = am_up (I0 17) 4 1 ∧ ∀ q : Nat, (q : Int) < I0 17 2 → es_r3c I0 I' q) 15 [(0, .inr (.inr 17)), (1, .inl i)] [] I := by
    intro m
    induction m with
    | zero => intro i I h1 h2 h3; omega
    | succ m ih =>
      intro i I h1 h2 h3 hf hrw
      have loopk : ∀ (m2 t : Nat) (I : am_I), 0 ≤ i → t ≤ (es_Lc I0 i.toNat).length → (es_Lc I0 i.toNat).length - t < m2 → am_fr I0 I [20, 21, 22] → (∀ q : Nat, i < (q : Int) → (q : Int) < I0 17 2 → es_r3c I0 I q) → es_ti (I 20 i.toNat) (I 21) (18 * i) (es_Lc I0 i.toNat) → (∀ x : Nat, x < t → I 22 (i * 6 + (x : Int)).toNat = es_cw (I0 17 3) (es_Lc I0) (I0 17 2).toNat ((I0 17 2).toNat - 1 - i.toNat) x) → am_V (d + 5) Y_ha_fill (fun r I' => r = none ∧ am_fr I0 I' [17, 20, 21, 22] ∧ I' 17 = am_up (I0 17) 4 1 ∧ ∀ q : Nat, (q : Int) < I0 17 2 → es_r3c I0 I' q) 26 [(0, .inr (.inr 17)), (1, .inl i), (2, .inl t)] [] I := by
        intro m2
        induction m2 with
        | zero => intro t I g0 g1 g2; omega
        | succ m2 ihk =>
          intro t I g0 g1 g2 hf hrw hti hin
          have e17 : I 17 = I0 17 := hf 17 rfl
          have b2 : I 17 2 = I0 17 2 := congrFun e17 2
          have b3 : I 17 3 = I0 17 3 := congrFun e17 3
          have hlen := es_Lc_len hc (q := i.toNat) (by omega)
          have hcnt := hti.1
          have step : ∀ s : Int, t < (es_Lc I0 i.toNat).length → s = es_cw (I0 17 3) (es_Lc I0) (I0 17 2).toNat ((I0 17 2).toNat - 1 - i.toNat) t → am_V (d + 5) Y_ha_fill (fun r I' => r = none ∧ am_fr I0 I' [17, 20, 21, 22] ∧ I' 17 = am_up (I0 17) 4 1 ∧ ∀ q : Nat, (q : Int) < I0 17 2 → es_r3c I0 I' q) 26 [(0, .inr (.inr 17)), (1, .inl i), (2, .inl ((t : Int) + 1))] [] (am_u I 22 (i * 6 + (t : Int)).toNat s) := by
            intro s ht hs
            have h9 := ihk (t + 1) (am_u I 22 (i * 6 + (t : Int)).toNat s) g0 (by omega) (by omega) (hf.u _ _ rfl) ?_ ?_ ?_
            · rw [show ((t + 1 : Nat) : Int) = (t : Int) + 1 by omega] at h9
              exact h9
            · intro q q1 q2
              have hq := hrw q q1 q2
              refine ⟨?_, fun x hx => ?_⟩
              · rw [am_u_ne (by decide), am_u_ne (by decide)]
                exact hq.1
              · have hl2 := es_Lc_len hc (q := q) q2
                rw [am_u_eq, am_up_ne (by omega)]
                exact hq.2 x hx
            · rw [am_u_ne (by decide), am_u_ne (by decide)]
              exact hti
            · intro x hx
              rw [am_u_eq]
              by_cases c : x = t
              · rw [c, am_up_eq]
                exact hs
              · rw [am_up_ne (by omega)]
                exact hin x (by omega)
          refine am_go 1 [] rfl trivial ?_
          repeat' (first
            | (refine am_gp 80 [15, 26, 60] rfl (by first | exact True.intro | (refine And.intro ?_ ?_ <;> decide) | exact Or.inl rfl | exact Or.inr rfl | (simp (decide := true) only [am_p, am_u_at, am_u_j, am_u_ne]; omega) | (simp (decide := true) only [am_p, and_true, true_and, true_or, or_true, am_u_at, am_u_j, am_u_ne]; omega) | (simp (decide := true) [am_p, am_u_at, am_u_j, am_u_ne]; omega)) ?_)
            | (show am_V _ _ _ _ _ _ _; simp only [Int.reduceToNat])
            | (refine am_bt rfl (by first | omega | (simp (decide := true) only [am_u_at, am_u_j, am_u_ne]; omega)) (by first | omega | (simp (decide := true) only [am_u_at, am_u_j, am_u_ne]; omega)) ?_)
            | (refine am_bf rfl (by first | omega | (simp (decide := true) only [am_u_at, am_u_j, am_u_ne]; omega)) (by first | omega | (simp (decide := true) only [am_u_at, am_u_j, am_u_ne]; omega)) ?_)
            | (refine am_br rfl (by first | omega | (simp (decide := true) only [am_u_at, am_u_j, am_u_ne]; omega)) (fun h => ?_) (fun h => ?_))
            | (refine am_rt rfl (by first | exact True.intro | (refine And.intro ?_ ?_ <;> decide) | exact Or.inl rfl | exact Or.inr rfl | (show _ ∨ _; omega)) ?_))
          · refine am_wk [2] ?_
            have et : t = (es_Lc I0 i.toNat).length := by omega
            refine ih (i - 1) I (by omega) (by omega) (by omega) hf ?_
            intro q q1 q2
            by_cases c : (q : Int) = i
            · have eq : q = i.toNat := by omega
              refine ⟨?_, fun x hx => ?_⟩
              · rw [eq, show ((i.toNat : Nat) : Int) = i by omega]
                exact hti
              · rw [eq] at hx ⊢
                rw [show ((i.toNat : Nat) : Int) = i by omega]
                exact hin x (by omega)
            · exact hrw q (by omega) q2
          · have hrn := hrw (i.toNat + 1) (by omega) (by omega)
            have ht : 0 ≤ (t : Int) ∧ (t : Int) < ((es_Lc I0 i.toNat).length : Int) := by omega
            repeat' (first
              | (refine am_gp 80 [26] rfl (by first | exact True.intro | (refine And.intro ?_ ?_ <;> decide) | exact Or.inl rfl | exact Or.inr rfl | (simp (decide := true) only [am_p, am_u_at, am_u_j, am_u_ne]; omega) | (simp (decide := true) only [am_p, and_true, true_and, true_or, or_true, am_u_at, am_u_j, am_u_ne]; omega) | (simp (decide := true) [am_p, am_u_at, am_u_j, am_u_ne]; omega)) ?_)
              | (show am_V _ _ _ _ _ _ _; simp only [Int.reduceToNat])
              | (refine am_bt rfl (by first | omega | (simp (decide := true) only [am_u_at, am_u_j, am_u_ne]; omega)) (by first | omega | (simp (decide := true) only [am_u_at, am_u_j, am_u_ne]; omega)) ?_)
              | (refine am_bf rfl (by first | omega | (simp (decide := true) only [am_u_at, am_u_j, am_u_ne]; omega)) (by first | omega | (simp (decide := true) only [am_u_at, am_u_j, am_u_ne]; omega)) ?_)
              | (refine am_br rfl (by first | omega | (simp (decide := true) only [am_u_at, am_u_j, am_u_ne]; omega)) (fun h => ?_) (fun h => ?_))
              | (refine am_cV (y' := Y_ha_waysBehind) rfl lk_ha_43 ok_ha_waysBehind rfl rfl rfl (c_waysBehind _ _ _ _ I0 hc (by assumption) (by assumption) (by first | omega | (simp (decide := true) only [am_u_at, am_u_j, am_u_ne]; omega)) ht (by assumption) (by assumption)) ?_; rintro r I ⟨rfl, rfl⟩)
              | (refine am_rt rfl (by first | exact True.intro | (refine And.intro ?_ ?_ <;> decide) | exact Or.inl rfl | exact Or.inr rfl | (show _ ∨ _; omega)) ?_))
            exact step _ (by omega) (by rw [show ((t : Nat) : Int).toNat = t by omega])
          · refine step _ (by omega) ?_
            rw [show (I0 17 2).toNat - 1 - i.toNat = 0 by omega]
            rfl
      have hmi : 0 ≤ i → es_hb (I0 18 i.toNat) := fun h => n6 i.toNat (by omega)
      have e18 : I 18 = I0 18 := hf 18 rfl
      have e19 : I 19 = I0 19 := hf 19 rfl
      have d0 : I 19 0 = I0 19 0 := congrFun e19 0
      have d1 : I 19 1 = I0 19 1 := congrFun e19 1
      have d2 : I 19 2 = I0 19 2 := congrFun e19 2
      refine am_go 1 [] rfl trivial ?_
      repeat' (first
        | (refine am_gp 80 [19] rfl (by first | exact True.intro | (refine And.intro ?_ ?_ <;> decide) | exact Or.inl rfl | exact Or.inr rfl | (simp (decide := true) only [am_p, am_u_at, am_u_j, am_u_ne]; omega) | (simp (decide := true) only [am_p, and_true, true_and, true_or, or_true, am_u_at, am_u_j, am_u_ne]; omega) | (simp (decide := true) [am_p, am_u_at, am_u_j, am_u_ne]; omega)) ?_)
        | (show am_V _ _ _ _ _ _ _; simp only [Int.reduceToNat])
        | (refine am_bt rfl (by first | omega | (simp (decide := true) only [am_u_at, am_u_j, am_u_ne]; omega)) (by first | omega | (simp (decide := true) only [am_u_at, am_u_j, am_u_ne]; omega)) ?_)
        | (refine am_bf rfl (by first | omega | (simp (decide := true) only [am_u_at, am_u_j, am_u_ne]; omega)) (by first | omega | (simp (decide := true) only [am_u_at, am_u_j, am_u_ne]; omega)) ?_)
        | (refine am_br rfl (by first | omega | (simp (decide := true) only [am_u_at, am_u_j, am_u_ne]; omega)) (fun h => ?_) (fun h => ?_))
        | (refine am_rt rfl (by first | exact True.intro | (refine And.intro ?_ ?_ <;> decide) | exact Or.inl rfl | exact Or.inr rfl | (show _ ∨ _; omega)) ?_))
      · refine ⟨rfl, (hf.wd rfl).u _ _ rfl, by rw [am_u_eq, hf 17 rfl], fun q hq => ?_⟩
        have h5 := hrw q (by omega) hq
        unfold es_r3c at h5 ⊢
        rw [am_u_ne (by decide), am_u_ne (by decide), am_u_ne (by decide)]
        exact h5
      · have hmi2 : es_hb (I 18 i.toNat) := by rw [e18]; exact hmi (by omega)
        repeat' (first
          | (refine am_gp 80 [26] rfl (by first | exact True.intro | (refine And.intro ?_ ?_ <;> decide) | exact Or.inl rfl | exact Or.inr rfl | (simp (decide := true) only [am_p, am_u_at, am_u_j, am_u_ne]; omega) | (simp (decide := true) only [am_p, and_true, true_and, true_or, or_true, am_u_at, am_u_j, am_u_ne]; omega) | (simp (decide := true) [am_p, am_u_at, am_u_j, am_u_ne]; omega)) ?_)
          | (show am_V _ _ _ _ _ _ _; simp only [Int.reduceToNat])
          | (refine am_bt rfl (by first | omega | (simp (decide := true) only [am_u_at, am_u_j, am_u_ne]; omega)) (by first | omega | (simp (decide := true) only [am_u_at, am_u_j, am_u_ne]; omega)) ?_)
          | (refine am_bf rfl (by first | omega | (simp (decide := true) only [am_u_at, am_u_j, am_u_ne]; omega)) (by first | omega | (simp (decide := true) only [am_u_at, am_u_j, am_u_ne]; omega)) ?_)
          | (refine am_br rfl (by first | omega | (simp (decide := true) only [am_u_at, am_u_j, am_u_ne]; omega)) (fun h => ?_) (fun h => ?_))
          | (refine am_cV (y' := Y_ha_findThrees) rfl lk_ha_39 ok_ha_findThrees rfl rfl rfl (c_ha_findThrees _ _ _ (by first | omega | (simp (decide := true) only [am_u_at, am_u_j, am_u_ne]; omega)) (by first | omega | (simp (decide := true) only [am_u_at, am_u_j, am_u_ne]; omega)) (by first | omega | (simp (decide := true) only [am_u_at, am_u_j, am_u_ne]; omega)) (by first | omega | (simp (decide := true) only [am_u_at, am_u_j, am_u_ne]; omega)) (by assumption)) ?_; rintro r I ⟨rfl, hfr, h20n, h21n, htin⟩)
          | (refine am_rt rfl (by first | exact True.intro | (refine And.intro ?_ ?_ <;> decide) | exact Or.inl rfl | exact Or.inr rfl | (show _ ∨ _; omega)) ?_))
        rw [e18, d0, d1, d2, ← es_Lc_e hc (q := i.toNat) (by omega)] at htin
        refine loopk 8 0 _ (by omega) (by omega) ?_ ((hf.wd rfl).tr (hfr.wd rfl)) ?_ htin (fun x hx => by omega)
        · have := es_Lc_len hc (q := i.toNat) (by omega)
          omega
        · intro q q1 q2
          have hq := hrw q q1 q2
          have hl2 := es_Lc_len hc (q := q) q2
          refine ⟨⟨?_, fun x hx => ?_⟩, fun x hx => ?_⟩
          · rw [h20n q (by omega)]
            exact hq.1.1
          · rw [h21n _ (by omega), h21n _ (by omega), h21n _ (by omega)]
            exact hq.1.2 x hx
          · rw [hfr 22 rfl]
            exact hq.2 x hx
  repeat' (first
    | (refine am_gp 80 [15] rfl (by first | exact True.intro | (refine And.intro ?_ ?_ <;> decide) | exact Or.inl rfl | exact Or.inr rfl | (simp (decide := true) only [am_p, am_u_at, am_u_j, am_u_ne]; omega) | (simp (decide := true) only [am_p, and_true, true_and, true_or, or_true, am_u_at, am_u_j, am_u_ne]; omega) | (simp (decide := true) [am_p, am_u_at, am_u_j, am_u_ne]; omega)) ?_)
    | (show am_V _ _ _ _ _ _ _; simp only [Int.reduceToNat])
    | (refine am_bt rfl (by first | omega | (simp (decide := true) only [am_u_at, am_u_j, am_u_ne]; omega)) (by first | omega | (simp (decide := true) only [am_u_at, am_u_j, am_u_ne]; omega)) ?_)
    | (refine am_bf rfl (by first | omega | (simp (decide := true) only [am_u_at, am_u_j, am_u_ne]; omega)) (by first | omega | (simp (decide := true) only [am_u_at, am_u_j, am_u_ne]; omega)) ?_)
    | (refine am_br rfl (by first | omega | (simp (decide := true) only [am_u_at, am_u_j, am_u_ne]; omega)) (fun h => ?_) (fun h => ?_))
    | (refine am_rt rfl (by first | exact True.intro | (refine And.intro ?_ ?_ <;> decide) | exact Or.inl rfl | exact Or.inr rfl | (show _ ∨ _; omega)) ?_))
  · exact loopi 8 (I0 17 2 - 1) I0 (by omega) (by omega) (by omega) am_fr.rf (fun q q1 q2 => by omega)
  · rcases hfl with hfl | hfl
    · omega
    · refine ⟨rfl, am_fr.rf, ?_, hfl.2⟩
      funext j
      by_cases c : j = 4
      · rw [c, am_up_eq]; exact hfl.1
      · rw [am_up_ne c]
