theorem es_nxa {Q : Nat → Nat → Int} {M N i j : Nat} {c told due : Int} (hM4 : M ≤ 24) (hN4 : N ≤ 24) (hi : i ≤ M) (hj : j ≤ N) (hc : -12 ≤ c ∧ c ≤ 12) (ht : told = 0 ∨ told = 1) (hne : ¬ (i = M ∧ j = N)) (hdue : es_kt Q M N told (M - i) (N - j) c = due) : (0 ≤ due ∧ due ≤ 144) ∧ (es_fr (es_jb Q M N i j c 1 0) = due → es_ja Q M N (i, j, c, told) = 0) ∧ (es_fr (es_jb Q M N i j c 1 0) ≠ due → es_fr (es_jb Q M N i j c 1 1) = due → es_ja Q M N (i, j, c, told) = 1) ∧ (es_fr (es_jb Q M N i j c 1 0) ≠ due → es_fr (es_jb Q M N i j c 1 1) ≠ due → es_fr (es_jb Q M N i j c 1 2) = due → es_ja Q M N (i, j, c, told) = 2) ∧ (es_fr (es_jb Q M N i j c 1 0) ≠ due → es_fr (es_jb Q M N i j c 1 1) ≠ due → es_fr (es_jb Q M N i j c 1 2) ≠ due → ∀ x : Int, -12 ≤ x → x ≤ 12 → (∀ y : Int, -12 ≤ y → y < x → 3 + es_k1 Q M N (M - i) (N - j) y ≠ due) → (x = 12 ∨ 3 + es_k1 Q M N (M - i) (N - j) x = due) → es_ja Q M N (i, j, c, told) = 15 + x) := by
  obtain ⟨o1, o2, o3, o4, o5, o6⟩ := es_ja_ok (Q := Q) hM4 hN4 (s := (i, j, c, told)) ⟨⟨hi, hj⟩, hc, ht⟩ hne
  have hmin := es_jb_min (Q := Q) hM4 hN4 hi hj hne hc ht
  have hk3 := es_jb3 (Q := Q) hM4 hN4 hi hj hne c told
  have u0 := es_fn_ub (f := es_jb Q M N i j c told) (a := 0) 28 0 (by omega) (by omega)
  have u1 := es_fn_ub (f := es_jb Q M N i j c told) (a := 0) 28 1 (by omega) (by omega)
  have u2 := es_fn_ub (f := es_jb Q M N i j c told) (a := 0) 28 2 (by omega) (by omega)
  rw [hmin] at u0 u1 u2
  have hkt := es_kt_r Q (M := M) (N := N) (i := i) (j := j) hM4 hN4 c told
  have c0 := es_fr_c (es_jb Q M N i j c 1 0)
  have c1 := es_fr_c (es_jb Q M N i j c 1 1)
  have c2 := es_fr_c (es_jb Q M N i j c 1 2)
  have t0 : es_jb Q M N i j c 1 0 = es_jb Q M N i j c told 0 := rfl
  have t1 : es_jb Q M N i j c 1 1 = es_jb Q M N i j c told 1 := rfl
  have t2 : es_jb Q M N i j c 1 2 = es_jb Q M N i j c told 2 := rfl
  have l0 := es_jb_le (Q := Q) (i := i) (j := j) hM4 hN4 c told 0
  have l1 := es_jb_le (Q := Q) (i := i) (j := j) hM4 hN4 c told 1
  have l2 := es_jb_le (Q := Q) (i := i) (j := j) hM4 hN4 c told 2
  have kr := (es_k_r Q M N (M - i) (N - j)).2
  have kc := kr c
  have o6' : 2 < es_ja Q M N (i, j, c, told) → told = 0 ∧ i < M := o6
  have o2' : es_jb Q M N i j c told (es_ja Q M N (i, j, c, told)) = es_kt Q M N told (M - i) (N - j) c := o2
  have first : ∀ a : Int, 0 ≤ a → a ≤ 27 → es_jb Q M N i j c told a = es_kt Q M N told (M - i) (N - j) c → (∀ y : Int, 0 ≤ y → y < a → es_jb Q M N i j c told y ≠ es_kt Q M N told (M - i) (N - j) c) → es_ja Q M N (i, j, c, told) = a := fun a a1 a2 a3 a4 => es_fst_eq 28 0 a a1 (by omega) a3 a4
  clear o2 o3 o4 o5 o6 hmin
  rw [hdue] at u0 u1 u2 hkt o2' first
  have b0 : es_fr (es_jb Q M N i j c 1 0) = due → es_jb Q M N i j c told 0 = due := by omega
  have b1 : es_fr (es_jb Q M N i j c 1 1) = due → es_jb Q M N i j c told 1 = due := by omega
  have b2 : es_fr (es_jb Q M N i j c 1 2) = due → es_jb Q M N i j c told 2 = due := by omega
  have m0 : es_fr (es_jb Q M N i j c 1 0) ≠ due → es_jb Q M N i j c told 0 ≠ due := by omega
  have m1 : es_fr (es_jb Q M N i j c 1 1) ≠ due → es_jb Q M N i j c told 1 ≠ due := by omega
  have m2 : es_fr (es_jb Q M N i j c 1 2) ≠ due → es_jb Q M N i j c told 2 ≠ due := by omega
  have hkc : 3 + es_k1 Q M N (M - i) (N - j) c ≠ due := by omega
  clear c0 c1 c2 t0 t1 t2 l0 l1 l2 u0 u1 u2 hk3 kc
  refine ⟨hkt, fun h => first 0 (by omega) (by omega) (b0 h) (fun y y1 y2 => by omega), fun h h1 => first 1 (by omega) (by omega) (b1 h1) (fun y y1 y2 => ?_), fun h h1 h2 => first 2 (by omega) (by omega) (b2 h2) (fun y y1 y2 => ?_), ?_⟩
  · rw [show y = 0 by omega]; exact m0 h
  · by_cases e : y = 0
    · rw [e]; exact m0 h
    · rw [show y = 1 by omega]; exact m1 h1
  · intro h h1 h2 x x1 x2 hy hx
    have n0 := m0 h
    have n1 := m1 h1
    have n2 := m2 h2
    clear b0 b1 b2 m0 m1 m2 h h1 h2
    generalize ha : es_ja Q M N (i, j, c, told) = a at *
    have a0 : a ≠ 0 := fun e => n0 (by rw [← e]; exact o2')
    have a1 : a ≠ 1 := fun e => n1 (by rw [← e]; exact o2')
    have a2 : a ≠ 2 := fun e => n2 (by rw [← e]; exact o2')
    have h6 := o6' (by omega)
    have hxb : ∀ w : Int, -12 ≤ w → w ≠ c → es_jb Q M N i j c told (15 + w) = 3 + es_k1 Q M N (M - i) (N - j) w := by
      intro w w1 e
      have h7 := es_jb_a3 (Q := Q) (M := M) (N := N) (i := i) (j := j) (c := c) (told := told) (act := 15 + w) (by omega) ⟨h6.1, h6.2, by omega⟩
      rw [show 15 + w - 15 = w by omega] at h7
      exact h7
    have hxc : es_jb Q M N i j c told (15 + c) = 10000 := es_jb_b3 (by omega) (fun z => z.2.2 (by omega))
    have hz : a - 15 ≠ c := by
      intro e
      rw [show a = 15 + c by omega, hxc] at o2'
      omega
    have hz2 : 3 + es_k1 Q M N (M - i) (N - j) (a - 15) = due := by
      rw [← hxb (a - 15) (by omega) hz, show 15 + (a - 15) = a by omega]
      exact o2'
    have hz3 : x ≤ a - 15 := Classical.byContradiction (fun z => hy (a - 15) (by omega) (by omega) hz2)
    have hx2 : 3 + es_k1 Q M N (M - i) (N - j) x = due := by
      rcases hx with e | e
      · rw [show x = a - 15 by omega]
        exact hz2
      · exact e
    have hxne : x ≠ c := fun e => hkc (by rw [← e]; exact hx2)
    refine first (15 + x) (by omega) (by omega) (by rw [hxb x x1 hxne]; exact hx2) ?_
    intro y y1 y2
    by_cases e0 : y = 0
    · rw [e0]; exact n0
    · by_cases e1 : y = 1
      · rw [e1]; exact n1
      · by_cases e2 : y = 2
        · rw [e2]; exact n2
        · rw [show y = 15 + (y - 15) by omega]
          by_cases e3 : y - 15 = c
          · rw [e3, hxc]; omega
          · rw [hxb (y - 15) (by omega) e3]
            exact hy (y - 15) (by omega) (by omega)
theorem ju_nx (d : Nat) (i j : Nat) (c told due res : Int) (I J : am_I) (M N : Nat) (heq : es_eqc I J) (hn : es_nc J) (hM : J 4 2 = (M : Int)) (hN : J 1 2 = (N : Int)) (hi : i ≤ M) (hj : j ≤ N) (h3 : es_h3 (I 24) (es_Qc J) M N i j) (hdue : 0 ≤ due ∧ due ≤ 144) (hres : ∀ x : Int, -12 ≤ x → x ≤ 12 → (∀ y : Int, -12 ≤ y → y < x → 3 + es_k1 (es_Qc J) M N (M - i) (N - j) y ≠ due) → (x = 12 ∨ 3 + es_k1 (es_Qc J) M N (M - i) (N - j) x = due) → res = 15 + x) : ∀ (m : Nat) (x : Int), -12 ≤ x → x ≤ 12 → 12 - x < m → (∀ y : Int, -12 ≤ y → y < x → 3 + es_k1 (es_Qc J) M N (M - i) (N - j) y ≠ due) → am_V (d + 4) Y_ju_nextAct (fun r I' => I' = I ∧ r = some (.inl res)) 70 [(0, .inr (.inr 23)), (1, .inl i), (2, .inl j), (3, .inl c), (4, .inl told), (5, .inl due), (6, .inl x)] [] I := by
  have kr := (es_k_r (es_Qc J) M N (M - i) (N - j)).2
  have hM4 : M ≤ 24 := by have := hn.1; omega
  have hN4 : N ≤ 24 := by have := hn.2.1; omega
  intro m
  induction m with
  | zero => intro x h1 h2 h3; omega
  | succ m ih =>
    intro x h1 h2 h5 hy
    have kx := kr x
    have hrx := hres x h1 h2 hy
    refine am_go 1 [] rfl trivial ?_
    repeat' (first
      | (refine am_gp 80 [70] rfl (by first | exact True.intro | (refine And.intro ?_ ?_ <;> decide) | exact Or.inl rfl | exact Or.inr rfl | (simp (decide := true) only [am_p, am_u_at, am_u_j, am_u_ne]; omega) | (simp (decide := true) only [am_p, and_true, true_and, true_or, or_true, am_u_at, am_u_j, am_u_ne]; omega) | (simp (decide := true) [am_p, am_u_at, am_u_j, am_u_ne]; omega)) ?_)
      | (show am_V _ _ _ _ _ _ _; simp only [Int.reduceToNat])
      | (refine am_bt rfl (by first | omega | (simp (decide := true) only [am_u_at, am_u_j, am_u_ne]; omega)) (by first | omega | (simp (decide := true) only [am_u_at, am_u_j, am_u_ne]; omega)) ?_)
      | (refine am_bf rfl (by first | omega | (simp (decide := true) only [am_u_at, am_u_j, am_u_ne]; omega)) (by first | omega | (simp (decide := true) only [am_u_at, am_u_j, am_u_ne]; omega)) ?_)
      | (refine am_br rfl (by first | omega | (simp (decide := true) only [am_u_at, am_u_j, am_u_ne]; omega)) (fun h => ?_) (fun h => ?_))
      | (refine am_cV (y' := Y_ju_unshifted) rfl lk_ju_65 ok_ju_unshifted rfl rfl rfl (c_ju_unsh _ _ _ _ _ J M N heq hn hM hN (by first | omega | (simp (decide := true) only [am_u_at, am_u_j, am_u_ne]; omega)) (by first | omega | (simp (decide := true) only [am_u_at, am_u_j, am_u_ne]; omega)) (by first | omega | (simp (decide := true) only [am_u_at, am_u_j, am_u_ne]; omega)) h3) ?_; rintro r I ⟨rfl, rfl⟩)
      | (refine am_rt rfl (by first | exact True.intro | (refine And.intro ?_ ?_ <;> decide) | exact Or.inl rfl | exact Or.inr rfl | (show _ ∨ _; omega)) ?_))
    · refine ⟨rfl, ?_⟩
      rw [hrx (Or.inl (by omega))]
    · refine ⟨rfl, ?_⟩
      rw [hrx (Or.inr (by omega))]
    · refine ih (x + 1) (by omega) (by omega) (by omega) ?_
      intro y y1 y2
      by_cases e : y = x
      · rw [e]; omega
      · exact hy y y1 (by omega)
theorem c_ju_next (d : Nat) (i j : Nat) (c told : Int) (I J : am_I) (M N : Nat) (heq : es_eqc I J) (hn : es_nc J) (hM : J 4 2 = (M : Int)) (hN : J 1 2 = (N : Int)) (hi : i ≤ M) (hj : j ≤ N) (hc : -12 ≤ c ∧ c ≤ 12) (ht : told = 0 ∨ told = 1) (hne : ¬ (i = M ∧ j = N)) (h3 : es_h3 (I 24) (es_Qc J) M N i j) (hD : I 24 (((i : Int) * 25 + (j : Int)) * 25 + c + 12).toNat = es_k0 (es_Qc J) M N (M - i) (N - j) c) : am_C (d + 4) Y_ju_nextAct [.inr (.inr 23), .inl i, .inl j, .inl c, .inl told] I (fun r I' => I' = I ∧ r = some (.inl (es_ja (es_Qc J) M N (i, j, c, told)))) := by
  refine am_enter ok_ju_nextAct rfl ?_
  have hM4 : M ≤ 24 := by have := hn.1; omega
  have hN4 : N ≤ 24 := by have := hn.2.1; omega
  have l0 := es_jb_le (Q := es_Qc J) (i := i) (j := j) hM4 hN4 c 1 0
  have l1 := es_jb_le (Q := es_Qc J) (i := i) (j := j) hM4 hN4 c 1 1
  have l2 := es_jb_le (Q := es_Qc J) (i := i) (j := j) hM4 hN4 c 1 2
  have c0 := es_fr_c (es_jb (es_Qc J) M N i j c 1 0)
  have c1 := es_fr_c (es_jb (es_Qc J) M N i j c 1 1)
  have c2 := es_fr_c (es_jb (es_Qc J) M N i j c 1 2)
  have r0 : 0 ≤ es_fr (es_jb (es_Qc J) M N i j c 1 0) ∧ es_fr (es_jb (es_Qc J) M N i j c 1 0) ≤ 1000000 := by omega
  have r1 : 0 ≤ es_fr (es_jb (es_Qc J) M N i j c 1 1) ∧ es_fr (es_jb (es_Qc J) M N i j c 1 1) ≤ 1000000 := by omega
  have r2 : 0 ≤ es_fr (es_jb (es_Qc J) M N i j c 1 2) ∧ es_fr (es_jb (es_Qc J) M N i j c 1 2) ≤ 1000000 := by omega
  clear l0 l1 l2 c0 c1 c2
  rcases ht with e | e
  · have hkt : es_kt (es_Qc J) M N told (M - i) (N - j) c = I 24 (((i : Int) * 25 + (j : Int)) * 25 + c + 12).toNat := by
      rw [hD]; exact if_pos e
    obtain ⟨p, p0, p1, p2, p3⟩ := es_nxa hM4 hN4 hi hj hc (Or.inl e) hne hkt
    have hL := fun g0 g1 g2 => ju_nx d i j c told (I 24 (((i : Int) * 25 + (j : Int)) * 25 + c + 12).toNat) _ I J M N heq hn hM hN hi hj h3 p (p3 g0 g1 g2) 26 (-12) (by omega) (by omega) (by omega) (fun y y1 y2 => by omega)
    clear p3 hkt hD
    repeat' (first
      | (refine am_gp 80 [70] rfl (by first | exact True.intro | (refine And.intro ?_ ?_ <;> decide) | exact Or.inl rfl | exact Or.inr rfl | (simp (decide := true) only [am_p, am_u_at, am_u_j, am_u_ne]; omega) | (simp (decide := true) only [am_p, and_true, true_and, true_or, or_true, am_u_at, am_u_j, am_u_ne]; omega) | (simp (decide := true) [am_p, am_u_at, am_u_j, am_u_ne]; omega)) ?_)
      | (show am_V _ _ _ _ _ _ _; simp only [Int.reduceToNat])
      | (refine am_bt rfl (by first | omega | (simp (decide := true) only [am_u_at, am_u_j, am_u_ne]; omega)) (by first | omega | (simp (decide := true) only [am_u_at, am_u_j, am_u_ne]; omega)) ?_)
      | (refine am_bf rfl (by first | omega | (simp (decide := true) only [am_u_at, am_u_j, am_u_ne]; omega)) (by first | omega | (simp (decide := true) only [am_u_at, am_u_j, am_u_ne]; omega)) ?_)
      | (refine am_br rfl (by first | omega | (simp (decide := true) only [am_u_at, am_u_j, am_u_ne]; omega)) (fun h => ?_) (fun h => ?_))
      | (refine am_cV (y' := Y_ju_from) rfl lk_ju_58 ok_ju_from rfl rfl rfl (c_ju_from _ _ _ _ _ (by first | omega | (simp (decide := true) only [am_u_at, am_u_j, am_u_ne]; omega))) ?_; rintro r I ⟨rfl, rfl⟩)
      | (refine am_cV (y' := Y_ju_byHit) rfl lk_ju_89 ok_ju_byHit rfl rfl rfl (c_ju_byHit _ _ _ _ _ J M N heq hn hM hN (by first | omega | (simp (decide := true) only [am_u_at, am_u_j, am_u_ne]; omega)) (by first | omega | (simp (decide := true) only [am_u_at, am_u_j, am_u_ne]; omega)) (by first | omega | (simp (decide := true) only [am_u_at, am_u_j, am_u_ne]; omega)) h3) ?_; rintro r I ⟨rfl, rfl⟩)
      | (refine am_cV (y' := Y_ju_byLost) rfl lk_ju_92 ok_ju_byLost rfl rfl rfl (c_ju_byLost _ _ _ _ _ J M N heq hn hM hN (by first | omega | (simp (decide := true) only [am_u_at, am_u_j, am_u_ne]; omega)) (by first | omega | (simp (decide := true) only [am_u_at, am_u_j, am_u_ne]; omega)) (by first | omega | (simp (decide := true) only [am_u_at, am_u_j, am_u_ne]; omega)) h3) ?_; rintro r I ⟨rfl, rfl⟩)
      | (refine am_cV (y' := Y_ju_byMore) rfl lk_ju_95 ok_ju_byMore rfl rfl rfl (c_ju_byMore _ _ _ _ _ J M N heq hn hM hN (by first | omega | (simp (decide := true) only [am_u_at, am_u_j, am_u_ne]; omega)) (by first | omega | (simp (decide := true) only [am_u_at, am_u_j, am_u_ne]; omega)) (by first | omega | (simp (decide := true) only [am_u_at, am_u_j, am_u_ne]; omega)) h3) ?_; rintro r I ⟨rfl, rfl⟩)
      | (refine am_rt rfl (by first | exact True.intro | (refine And.intro ?_ ?_ <;> decide) | exact Or.inl rfl | exact Or.inr rfl | (show _ ∨ _; omega)) ?_))
    · exact hL (by omega) (by omega) (by omega)
    · exact ⟨rfl, by rw [p2 (by omega) (by omega) (by omega)]⟩
    · exact ⟨rfl, by rw [p1 (by omega) (by omega)]⟩
    · exact ⟨rfl, by rw [p0 (by omega)]⟩
  · have hkt : es_kt (es_Qc J) M N told (M - i) (N - j) c = es_k1 (es_Qc J) M N (M - i) (N - j) c := if_neg (by omega)
    obtain ⟨p, p0, p1, p2, p3⟩ := es_nxa hM4 hN4 hi hj hc (Or.inr e) hne hkt
    have hL := fun g0 g1 g2 => ju_nx d i j c told (es_k1 (es_Qc J) M N (M - i) (N - j) c) _ I J M N heq hn hM hN hi hj h3 p (p3 g0 g1 g2) 26 (-12) (by omega) (by omega) (by omega) (fun y y1 y2 => by omega)
    clear p3 hkt hD
    repeat' (first
      | (refine am_gp 80 [70] rfl (by first | exact True.intro | (refine And.intro ?_ ?_ <;> decide) | exact Or.inl rfl | exact Or.inr rfl | (simp (decide := true) only [am_p, am_u_at, am_u_j, am_u_ne]; omega) | (simp (decide := true) only [am_p, and_true, true_and, true_or, or_true, am_u_at, am_u_j, am_u_ne]; omega) | (simp (decide := true) [am_p, am_u_at, am_u_j, am_u_ne]; omega)) ?_)
      | (show am_V _ _ _ _ _ _ _; simp only [Int.reduceToNat])
      | (refine am_bt rfl (by first | omega | (simp (decide := true) only [am_u_at, am_u_j, am_u_ne]; omega)) (by first | omega | (simp (decide := true) only [am_u_at, am_u_j, am_u_ne]; omega)) ?_)
      | (refine am_bf rfl (by first | omega | (simp (decide := true) only [am_u_at, am_u_j, am_u_ne]; omega)) (by first | omega | (simp (decide := true) only [am_u_at, am_u_j, am_u_ne]; omega)) ?_)
      | (refine am_br rfl (by first | omega | (simp (decide := true) only [am_u_at, am_u_j, am_u_ne]; omega)) (fun h => ?_) (fun h => ?_))
      | (refine am_cV (y' := Y_ju_unshifted) rfl lk_ju_65 ok_ju_unshifted rfl rfl rfl (c_ju_unsh _ _ _ _ _ J M N heq hn hM hN (by first | omega | (simp (decide := true) only [am_u_at, am_u_j, am_u_ne]; omega)) (by first | omega | (simp (decide := true) only [am_u_at, am_u_j, am_u_ne]; omega)) (by first | omega | (simp (decide := true) only [am_u_at, am_u_j, am_u_ne]; omega)) h3) ?_; rintro r I ⟨rfl, rfl⟩)
      | (refine am_cV (y' := Y_ju_byHit) rfl lk_ju_89 ok_ju_byHit rfl rfl rfl (c_ju_byHit _ _ _ _ _ J M N heq hn hM hN (by first | omega | (simp (decide := true) only [am_u_at, am_u_j, am_u_ne]; omega)) (by first | omega | (simp (decide := true) only [am_u_at, am_u_j, am_u_ne]; omega)) (by first | omega | (simp (decide := true) only [am_u_at, am_u_j, am_u_ne]; omega)) h3) ?_; rintro r I ⟨rfl, rfl⟩)
      | (refine am_cV (y' := Y_ju_byLost) rfl lk_ju_92 ok_ju_byLost rfl rfl rfl (c_ju_byLost _ _ _ _ _ J M N heq hn hM hN (by first | omega | (simp (decide := true) only [am_u_at, am_u_j, am_u_ne]; omega)) (by first | omega | (simp (decide := true) only [am_u_at, am_u_j, am_u_ne]; omega)) (by first | omega | (simp (decide := true) only [am_u_at, am_u_j, am_u_ne]; omega)) h3) ?_; rintro r I ⟨rfl, rfl⟩)
      | (refine am_cV (y' := Y_ju_byMore) rfl lk_ju_95 ok_ju_byMore rfl rfl rfl (c_ju_byMore _ _ _ _ _ J M N heq hn hM hN (by first | omega | (simp (decide := true) only [am_u_at, am_u_j, am_u_ne]; omega)) (by first | omega | (simp (decide := true) only [am_u_at, am_u_j, am_u_ne]; omega)) (by first | omega | (simp (decide := true) only [am_u_at, am_u_j, am_u_ne]; omega)) h3) ?_; rintro r I ⟨rfl, rfl⟩)
      | (refine am_rt rfl (by first | exact True.intro | (refine And.intro ?_ ?_ <;> decide) | exact Or.inl rfl | exact Or.inr rfl | (show _ ∨ _; omega)) ?_))
    · exact hL (by omega) (by omega) (by omega)
    · exact ⟨rfl, by rw [p2 (by omega) (by omega) (by omega)]⟩
    · exact ⟨rfl, by rw [p1 (by omega) (by omega)]⟩
    · exact ⟨rfl, by rw [p0 (by omega)]⟩
