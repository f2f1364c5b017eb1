theorem es_fn_ub {f : Int → Int} {a : Int} : ∀ m : Nat, ∀ x, a ≤ x → x < a + (m : Int) → es_fd es_on 10000 f a m ≤ f x
  | 0, x, h1, h2 => by omega
  | m + 1, x, h1, h2 => by
    have e : es_fd es_on 10000 f a (m + 1) = min (es_fd es_on 10000 f a m) (f (a + m)) := rfl
    rw [e]
    by_cases c : x = a + m
    · rw [c]; omega
    · have := es_fn_ub (f := f) (a := a) m x h1 (by omega)
      omega
theorem ju_in2 (d : Nat) (s B : Int) (f : Int → Int) (I0 : am_I) (Po : Option am_v → am_I → Prop) (hPo : ∀ I' : am_I, am_fr I0 I' [24] → (∀ x : Nat, ¬ (s ≤ (x : Int) ∧ (x : Int) < s + 25) → I' 24 x = I0 24 x) → (∀ y : Int, 0 ≤ y → y < 25 → I' 24 (s + y).toNat = min (f (y - 12)) (B + 3)) → Po none I') (hs : 0 ≤ s ∧ s ≤ 14950) (hB : 0 ≤ B ∧ B ≤ 9999) (hf : ∀ c, 0 ≤ f c ∧ f c ≤ 200) : ∀ (m : Nat) (c : Int) (I : am_I), 0 ≤ c → c ≤ 25 → 25 - c < m → am_fr I0 I [24] → (∀ x : Nat, ¬ (s ≤ (x : Int) ∧ (x : Int) < s + 25) → I 24 x = I0 24 x) → (∀ y : Int, 0 ≤ y → y < c → I 24 (s + y).toNat = min (f (y - 12)) (B + 3)) → (∀ y : Int, c ≤ y → y < 25 → I 24 (s + y).toNat = f (y - 12)) → am_V (d + 1) Y_ju_fillInside Po 209 [(0, .inr (.inr 23)), (3, .inl s), (4, .inl (s + 650)), (10, .inl B), (11, .inl c)] [] I := by
  intro m
  induction m with
  | zero => intro c I h1 h2 h3; omega
  | succ m ih =>
    intro c I h1 h2 h3 hfr hou hlo hhi
    have hc : c < 25 → I 24 (s + c).toNat = f (c - 12) := fun h => hhi c (by omega) h
    have hfc := hf (c - 12)
    refine am_go 1 [] rfl trivial ?_
    repeat' (first
      | (refine am_gp 80 [209] rfl (by first | exact True.intro | (refine And.intro ?_ ?_ <;> decide) | exact Or.inl rfl | exact Or.inr rfl | (simp (decide := true) only [am_p, am_u_at, am_u_j, am_u_ne]; omega) | (simp (decide := true) only [am_p, and_true, true_and, true_or, or_true, am_u_at, am_u_j, am_u_ne]; omega) | (simp (decide := true) [am_p, am_u_at, am_u_j, am_u_ne]; omega)) ?_)
      | (show am_V _ _ _ _ _ _ _; simp only [Int.reduceToNat])
      | (refine am_bt rfl (by first | omega | (simp (decide := true) only [am_u_at, am_u_j, am_u_ne]; omega)) (by first | omega | (simp (decide := true) only [am_u_at, am_u_j, am_u_ne]; omega)) ?_)
      | (refine am_bf rfl (by first | omega | (simp (decide := true) only [am_u_at, am_u_j, am_u_ne]; omega)) (by first | omega | (simp (decide := true) only [am_u_at, am_u_j, am_u_ne]; omega)) ?_)
      | (refine am_br rfl (by first | omega | (simp (decide := true) only [am_u_at, am_u_j, am_u_ne]; omega)) (fun h => ?_) (fun h => ?_))
      | (refine am_mini rfl mk_ju_80 rfl (by first | omega | (simp (decide := true) only [am_u_at, am_u_j, am_u_ne]; omega)) ?_)
      | (refine am_rt rfl (by first | exact True.intro | (refine And.intro ?_ ?_ <;> decide) | exact Or.inl rfl | exact Or.inr rfl | (show _ ∨ _; omega)) ?_))
    · exact hPo I hfr hou (fun y y1 y2 => hlo y y1 (by omega))
    · refine ih (c + 1) _ (by omega) (by omega) (by omega) (hfr.u _ _ rfl) ?_ ?_ ?_
      · intro x hx
        rw [am_u_eq, am_up_ne (by omega)]
        exact hou x hx
      · intro y y1 y2
        rw [am_u_eq]
        by_cases e : y = c
        · rw [e, am_up_eq, hc (by omega)]
        · rw [am_up_ne (by omega)]
          exact hlo y y1 (by omega)
      · intro y y1 y2
        rw [am_u_eq, am_up_ne (by omega)]
        exact hhi y (by omega) y2
theorem ju_in1 (d : Nat) (s rt lc mc : Int) (f : Int → Int) (I0 : am_I) (Po : Option am_v → am_I → Prop) (hPo : ∀ I' : am_I, am_fr I0 I' [24] → (∀ x : Nat, ¬ (s ≤ (x : Int) ∧ (x : Int) < s + 25) → I' 24 x = I0 24 x) → (∀ y : Int, 0 ≤ y → y < 25 → I' 24 (s + y).toNat = min (f (y - 12)) (es_fd es_on 10000 f (-12) 25 + 3)) → Po none I') (hs : 0 ≤ s ∧ s ≤ 14950) (hf : ∀ c, 0 ≤ f c ∧ f c ≤ 200) (hl : 0 ≤ lc ∧ lc ≤ 1) (hmc : 1 ≤ mc ∧ mc ≤ 3) (hr : -200 ≤ rt ∧ rt ≤ 200) (hT : ∀ y : Int, 0 ≤ y → y < 25 → (0 ≤ I0 24 (s + 650 + y).toNat ∧ I0 24 (s + 650 + y).toNat ≤ 200) ∧ (0 ≤ I0 24 (s + 625 + y).toNat ∧ I0 24 (s + 625 + y).toNat ≤ 200) ∧ (0 ≤ I0 24 (s + 25 + y).toNat ∧ I0 24 (s + 25 + y).toNat ≤ 200))
    (hv : ∀ y : Int, 0 ≤ y → y < 25 → f (y - 12) = min (min (I0 24 (s + 650 + y).toNat + lc + (if y = rt then 0 else 2)) (I0 24 (s + 625 + y).toNat + 3)) (I0 24 (s + 25 + y).toNat + mc)) : ∀ (m : Nat) (c : Int) (I : am_I), 0 ≤ c → c ≤ 25 → 25 - c < m → am_fr I0 I [24] → (∀ x : Nat, ¬ (s ≤ (x : Int) ∧ (x : Int) < s + 25) → I 24 x = I0 24 x) → (∀ y : Int, 0 ≤ y → y < c → I 24 (s + y).toNat = f (y - 12)) → am_V (d + 1) Y_ju_fillInside Po 93 [(0, .inr (.inr 23)), (3, .inl s), (4, .inl (s + 650)), (5, .inl (s + 625)), (6, .inl (s + 25)), (7, .inl rt), (8, .inl lc), (9, .inl mc), (10, .inl (es_fr (es_fd es_on 10000 f (-12) c.toNat))), (11, .inl c)] [] I := by
  intro m
  induction m with
  | zero => intro c I h1 h2 h3; omega
  | succ m ih =>
    intro c I h1 h2 h3 hfr hou hlo
    have t1 : c < 25 → I 24 (s + 650 + c).toNat = I0 24 (s + 650 + c).toNat := fun h => hou _ (by omega)
    have t2 : c < 25 → I 24 (s + 625 + c).toNat = I0 24 (s + 625 + c).toNat := fun h => hou _ (by omega)
    have t3 : c < 25 → I 24 (s + 25 + c).toNat = I0 24 (s + 25 + c).toNat := fun h => hou _ (by omega)
    have hTc := hT c h1
    have hvc := hv c h1
    have hfc := hf (c - 12)
    have g1 := es_fr_c (es_fd es_on 10000 f (-12) c.toNat)
    have g2 := es_fn_le (f := f) (a := -12) c.toNat
    have g3 := es_fn_ge (f := f) (a := -12) (b := 0) (by omega) (fun d => (hf d).1) c.toNat
    have g4 : es_fd es_on 10000 f (-12) (c + 1).toNat = min (es_fd es_on 10000 f (-12) c.toNat) (f (c - 12)) := by
      rw [show (c + 1).toNat = c.toNat + 1 by omega]
      show min (es_fd es_on 10000 f (-12) c.toNat) (f (-12 + (c.toNat : Int))) = _
      rw [show -12 + (c.toNat : Int) = c - 12 by omega]
    have g5 : es_fr (es_fd es_on 10000 f (-12) (c + 1).toNat) = min (es_fr (es_fd es_on 10000 f (-12) c.toNat)) (f (c - 12)) := by
      rw [g4]
      have g6 := es_fr_c (min (es_fd es_on 10000 f (-12) c.toNat) (f (c - 12)))
      omega
    have hend : c = 25 → es_fr (es_fd es_on 10000 f (-12) c.toNat) = es_fd es_on 10000 f (-12) 25 ∧ es_fd es_on 10000 f (-12) 25 ≤ 200 ∧ 0 ≤ es_fd es_on 10000 f (-12) 25 := by
      intro e
      subst e
      have := es_fn_ub (f := f) (a := -12) 25 (-12) (by omega) (by omega)
      have h9 := hf (-12)
      refine ⟨es_fr_n ?_, by omega, es_fn_ge (by omega) (fun d => (hf d).1) 25⟩
      show es_fd es_on 10000 f (-12) 25 < 10000
      omega
    refine am_go 1 [] rfl trivial ?_
    have stepc : c < 25 → ∀ (I2 : am_I) (v : Int), v = f (c - 12) → I2 = am_u I 24 (s + c).toNat v → am_V (d + 1) Y_ju_fillInside Po 93 [(0, .inr (.inr 23)), (3, .inl s), (4, .inl (s + 650)), (5, .inl (s + 625)), (6, .inl (s + 25)), (7, .inl rt), (8, .inl lc), (9, .inl mc), (10, .inl (min (es_fr (es_fd es_on 10000 f (-12) c.toNat)) v)), (11, .inl (c + 1))] [] I2 := by
      intro hc I2 v hv2 hI2
      rw [hv2, ← g5]
      refine ih (c + 1) I2 (by omega) (by omega) (by omega) ?_ ?_ ?_
      · rw [hI2]; exact hfr.u _ _ rfl
      · intro x hx
        rw [hI2, am_u_eq, am_up_ne (by omega)]
        exact hou x hx
      · intro y y1 y2
        rw [hI2, am_u_eq]
        by_cases e : y = c
        · rw [e, am_up_eq, hv2]
        · rw [am_up_ne (by omega)]
          exact hlo y y1 (by omega)
    clear ih hv hT g4 g5
    repeat' (first
      | (refine am_gp 80 [93, 209] rfl (by first | exact True.intro | (refine And.intro ?_ ?_ <;> decide) | exact Or.inl rfl | exact Or.inr rfl | (simp (decide := true) only [am_p, am_u_at, am_u_j, am_u_ne]; omega) | (simp (decide := true) only [am_p, and_true, true_and, true_or, or_true, am_u_at, am_u_j, am_u_ne]; omega) | (simp (decide := true) [am_p, am_u_at, am_u_j, am_u_ne]; omega)) ?_)
      | (show am_V _ _ _ _ _ _ _; simp only [Int.reduceToNat])
      | (refine am_bt rfl (by first | omega | (simp (decide := true) only [am_u_at, am_u_j, am_u_ne]; omega)) (by first | omega | (simp (decide := true) only [am_u_at, am_u_j, am_u_ne]; omega)) ?_)
      | (refine am_bf rfl (by first | omega | (simp (decide := true) only [am_u_at, am_u_j, am_u_ne]; omega)) (by first | omega | (simp (decide := true) only [am_u_at, am_u_j, am_u_ne]; omega)) ?_)
      | (refine am_br rfl (by first | omega | (simp (decide := true) only [am_u_at, am_u_j, am_u_ne]; omega)) (fun h => ?_) (fun h => ?_))
      | (refine am_mini rfl mk_ju_80 rfl (by first | omega | (simp (decide := true) only [am_u_at, am_u_j, am_u_ne]; omega)) ?_)
      | (refine am_rt rfl (by first | exact True.intro | (refine And.intro ?_ ?_ <;> decide) | exact Or.inl rfl | exact Or.inr rfl | (show _ ∨ _; omega)) ?_))
    · refine am_wk [5, 6, 7, 8, 9, 12] ?_
      obtain ⟨e1, e2, e3⟩ := hend (by omega)
      rw [e1]
      exact ju_in2 d s _ f I0 Po hPo hs (by omega) hf 27 0 I (by omega) (by omega) (by omega) hfr hou (fun y y1 y2 => by omega) (fun y y1 y2 => hlo y y1 (by omega))
    · refine am_wk [12] (stepc (by omega) _ _ ?_ rfl)
      rw [hvc (by omega), t1 (by omega), t2 (by omega), t3 (by omega), if_neg (by omega)]
    · refine am_wk [12] (stepc (by omega) _ _ ?_ rfl)
      rw [hvc (by omega), t1 (by omega), t2 (by omega), t3 (by omega), if_pos (by omega)]
theorem c_ju_inside (d : Nat) (i j : Nat) (I0 J : am_I) (M N : Nat) (heq : es_eqc I0 J) (hn : es_nc J) (hM : J 4 2 = (M : Int)) (hN : J 1 2 = (N : Int)) (hi : i < M) (hj : j < N) (h3 : es_h3 (I0 24) (es_Qc J) M N i j) : am_C (d + 1) Y_ju_fillInside [.inr (.inr 23), .inl i, .inl j] I0 (fun r I' => r = none ∧ am_fr I0 I' [24] ∧ (∀ x : Nat, ¬ (((i : Int) * 25 + (j : Int)) * 25 ≤ (x : Int) ∧ (x : Int) < ((i : Int) * 25 + (j : Int)) * 25 + 25) → I' 24 x = I0 24 x) ∧ ∀ c : Int, -12 ≤ c → c ≤ 12 → I' 24 (((i : Int) * 25 + (j : Int)) * 25 + c + 12).toNat = es_k0 (es_Qc J) M N (M - i) (N - j) c) := by
  refine am_enter ok_ju_fillInside rfl ?_
  have hM4 : M ≤ 24 := by have := hn.1; omega
  have hN4 : N ≤ 24 := by have := hn.2.1; omega
  obtain ⟨⟨q1, q2, q3, q4⟩, q5, q6⟩ := id heq
  obtain ⟨n1, n2, n3, n4⟩ := id hn
  have ei : (i : Int).toNat = i := by omega
  have ej : (j : Int).toNat = j := by omega
  have hi4 : (i : Int) < J 4 2 := by omega
  have hj1 : (j : Int) < J 1 2 := by omega
  have r1 := n3 i hi4
  have r2 := n4 j hj1
  have f1 : I0 2 (j : Int).toNat = J 2 j := by rw [ej, q1]
  have f3 : I0 5 (i : Int).toNat = J 5 i := by rw [ei, q3]
  generalize hs : ((i : Int) * 25 + (j : Int)) * 25 = s
  have hs2 : 0 ≤ s ∧ s ≤ 14950 := by omega
  have hk : M - i = (M - i - 1) + 1 := by omega
  have hk' : N - j = (N - j - 1) + 1 := by omega
  have kr := es_k_r (es_Qc J) M N (M - i) (N - j)
  have kr1 : ∀ c, 0 ≤ es_k1 (es_Qc J) M N (M - i) (N - j) c ∧ es_k1 (es_Qc J) M N (M - i) (N - j) c ≤ 200 := fun c => by
    have := kr.2 c
    omega
  have a1 := (es_k_r (es_Qc J) M N (M - i - 1) (N - j - 1)).1
  have a2 := (es_k_r (es_Qc J) M N (M - i - 1) (N - j)).1
  have a3 := (es_k_r (es_Qc J) M N (M - i) (N - j - 1)).1
  have jm := es_jm_r (es_Qc J) j
  have hT3 : ∀ y : Int, 0 ≤ y → y < 25 → I0 24 (s + 650 + y).toNat = es_k0 (es_Qc J) M N (M - i - 1) (N - j - 1) (y - 12) ∧ I0 24 (s + 625 + y).toNat = es_k0 (es_Qc J) M N (M - i - 1) (N - j) (y - 12) ∧ I0 24 (s + 25 + y).toNat = es_k0 (es_Qc J) M N (M - i) (N - j - 1) (y - 12) := by
    intro y y1 y2
    obtain ⟨b1, b2, b3⟩ := h3 (y - 12) (by omega) (by omega)
    refine ⟨?_, ?_, ?_⟩
    · rw [← b1 hi hj, ← hs]; congr 2; omega
    · rw [← b2 hi, ← hs]; congr 2; omega
    · rw [← b3 hj, ← hs]; congr 2; omega
  have hlen : (if J 3 j = J 6 i then (0 : Int) else 1) = if es_Qc J 3 j = es_Qc J 1 i then 0 else 1 := by rw [es_Qc1 J hi4, es_Qc3 J hj1]
  have hlr : 0 ≤ (if J 3 j = J 6 i then (0 : Int) else 1) ∧ (if J 3 j = J 6 i then (0 : Int) else 1) ≤ 1 := by split <;> omega
  have L := ju_in1 d s (J 2 j - J 5 i + 12) (if J 3 j = J 6 i then 0 else 1) (es_jm (es_Qc J) j) (es_k1 (es_Qc J) M N (M - i) (N - j)) I0 (fun r I' => r = none ∧ am_fr I0 I' [24] ∧ (∀ x : Nat, ¬ (s ≤ (x : Int) ∧ (x : Int) < s + 25) → I' 24 x = I0 24 x) ∧ ∀ c : Int, -12 ≤ c → c ≤ 12 → I' 24 (s + c + 12).toNat = es_k0 (es_Qc J) M N (M - i) (N - j) c) (by
    intro I' z2 z3 z4
    refine ⟨rfl, z2, z3, fun c c1 c2 => ?_⟩
    have z5 := z4 (c + 12) (by omega) (by omega)
    have e0 := es_k0_in (es_Qc J) M N (M - i - 1) (N - j - 1) c
    rw [← hk, ← hk'] at e0
    rw [show s + c + 12 = s + (c + 12) by omega, z5, e0, show c + 12 - 12 = c by omega]
    omega) hs2 kr1 hlr jm (by omega) (fun y y1 y2 => by
      obtain ⟨b1, b2, b3⟩ := hT3 y y1 y2
      rw [b1, b2, b3]
      have c1 := a1 (y - 12)
      have c2 := a2 (y - 12)
      have c3 := a3 (y - 12)
      omega) (fun y y1 y2 => by
      obtain ⟨b1, b2, b3⟩ := hT3 y y1 y2
      rw [b1, b2, b3]
      have e1 := es_k1_in (es_Qc J) M N (M - i - 1) (N - j - 1) (y - 12)
      rw [← hk, ← hk', show M - (M - i) = i by omega, show N - (N - j) = j by omega] at e1
      rw [e1]
      unfold es_jh
      rw [es_Qc0 J hi4, es_Qc1 J hi4, es_Qc2 J hj1, es_Qc3 J hj1]
      by_cases g : y = J 2 j - J 5 i + 12
      · rw [if_pos g, if_pos (show J 2 j = J 5 i + (y - 12) by omega)]
        omega
      · rw [if_neg g, if_neg (show ¬ J 2 j = J 5 i + (y - 12) by omega)]
        omega) 27 0 I0 (by omega) (by omega) (by omega) am_fr.rf (fun x _ => rfl) (fun y y1 y2 => by omega)
  have e10 : es_fr (es_fd es_on 10000 (es_k1 (es_Qc J) M N (M - i) (N - j)) (-12) (0 : Int).toNat) = 1000000 := by
    show es_fr 10000 = 1000000
    unfold es_fr
    exact if_pos rfl
  rw [e10] at L
  clear a1 a2 a3 kr kr1 hT3 h3 hlr hlen n3 n4
  repeat' (first
    | (refine am_gp 80 [93] rfl (by first | exact True.intro | (refine And.intro ?_ ?_ <;> decide) | exact Or.inl rfl | exact Or.inr rfl | (simp (decide := true) only [am_p, am_u_at, am_u_j, am_u_ne]; omega) | (simp (decide := true) only [am_p, and_true, true_and, true_or, or_true, am_u_at, am_u_j, am_u_ne]; omega) | (simp (decide := true) [am_p, am_u_at, am_u_j, am_u_ne]; omega)) ?_)
    | (show am_V _ _ _ _ _ _ _; simp only [Int.reduceToNat])
    | (refine am_bt rfl (by first | omega | (simp (decide := true) only [am_u_at, am_u_j, am_u_ne]; omega)) (by first | omega | (simp (decide := true) only [am_u_at, am_u_j, am_u_ne]; omega)) ?_)
    | (refine am_bf rfl (by first | omega | (simp (decide := true) only [am_u_at, am_u_j, am_u_ne]; omega)) (by first | omega | (simp (decide := true) only [am_u_at, am_u_j, am_u_ne]; omega)) ?_)
    | (refine am_br rfl (by first | omega | (simp (decide := true) only [am_u_at, am_u_j, am_u_ne]; omega)) (fun h => ?_) (fun h => ?_))
    | (refine am_cV (y' := Y_ju_index) rfl lk_ju_62 ok_ju_index rfl rfl rfl (c_ju_index _ _ _ _ _) ?_; rintro r I0 ⟨rfl, rfl⟩)
    | (refine am_cV (y' := Y_ju_lengthCost) rfl lk_ju_71 ok_ju_lengthCost rfl rfl rfl (c_ju_len _ _ _ _ J heq hn (by first | omega | (simp (decide := true) only [am_u_at, am_u_j, am_u_ne]; omega)) (by first | omega | (simp (decide := true) only [am_u_at, am_u_j, am_u_ne]; omega))) ?_; rintro r I0 ⟨rfl, rfl⟩)
    | (refine am_cV (y' := Y_ju_moreCost) rfl lk_ju_75 ok_ju_moreCost rfl rfl rfl (c_ju_more _ _ _ J heq hn (by first | omega | (simp (decide := true) only [am_u_at, am_u_j, am_u_ne]; omega))) ?_; rintro r I0 ⟨rfl, rfl⟩)
    | (refine am_rt rfl (by first | exact True.intro | (refine And.intro ?_ ?_ <;> decide) | exact Or.inl rfl | exact Or.inr rfl | (show _ ∨ _; omega)) ?_))
  refine am_wk [1, 2] ?_
  rw [show ((i : Int) * 25 + (j : Int)) * 25 + -12 + 12 = s by omega, show (((i : Int) + 1) * 25 + ((j : Int) + 1)) * 25 + -12 + 12 = s + 650 by omega, show (((i : Int) + 1) * 25 + (j : Int)) * 25 + -12 + 12 = s + 625 by omega, show ((i : Int) * 25 + ((j : Int) + 1)) * 25 + -12 + 12 = s + 25 by omega, f1, f3]
  exact L
