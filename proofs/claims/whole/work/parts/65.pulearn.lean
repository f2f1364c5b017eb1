theorem c_pu_enter0 (d : Nat) (I0 : am_I) (M N T : Nat) (hn : es_nc I0) (hM : I0 4 2 = (M : Int)) (hN : I0 1 2 = (N : Int)) (hT : T ≤ 96) (hjT : es_jT (es_Qc I0) M N T) (h7 : I0 23 7 = (T : Int)) (hax : ∀ k : Nat, k < T → es_axc (es_Qc I0) M N I0 k) : am_C (d + 1) Y_pu_enter [.inr (.inr 29), .inl 0, .inr (.inr 23), .inr (.inr 4)] I0 (fun r I' => r = some (.inl (es_lc (es_Qc I0) M N T)) ∧ am_fr I0 I' [31, 38] ∧ ∀ s : Nat, s ≤ 12 → I' 31 s = I0 31 s + es_la (es_Qc I0) M N T s ∧ I' 38 s = I0 38 s + es_lb (es_Qc I0) M N T s) := by
  refine am_enter ok_pu_enter rfl ?_
  have hM4 : M ≤ 24 := by have := hn.1; omega
  have hN4 : N ≤ 24 := by have := hn.2.1; omega
  have loop : ∀ (m k : Nat) (I : am_I), k ≤ T → T - k < m → am_fr I0 I [31, 38] → (∀ s : Nat, s ≤ 12 → I 31 s = I0 31 s + es_la (es_Qc I0) M N k s ∧ I 38 s = I0 38 s + es_lb (es_Qc I0) M N k s) → am_V (d + 1) Y_pu_enter (fun r I' => r = some (.inl (es_lc (es_Qc I0) M N T)) ∧ am_fr I0 I' [31, 38] ∧ ∀ s : Nat, s ≤ 12 → I' 31 s = I0 31 s + es_la (es_Qc I0) M N T s ∧ I' 38 s = I0 38 s + es_lb (es_Qc I0) M N T s) 6 [(0, .inr (.inr 29)), (1, .inl 0), (2, .inr (.inr 23)), (3, .inr (.inr 4)), (4, .inl (es_lc (es_Qc I0) M N k)), (5, .inl (k : Int))] [] I := by
    intro m
    induction m with
    | zero => intro k I h1 h2; omega
    | succ m ih =>
      intro k I h1 h2 hf hs
      have b7 : I 23 7 = (T : Int) := by rw [hf 23 rfl]; exact h7
      have b4 : I 4 2 = (M : Int) := by rw [hf 4 rfl]; exact hM
      refine am_go 1 [] rfl trivial ?_
      by_cases g : k < T
      · obtain ⟨p1, p2, p3, p4, p5, p6⟩ := es_pf hM4 hN4 hjT g
        obtain ⟨x0, x1, x2, x3⟩ := hax k g
        have ek : (k : Int).toNat = k := by omega
        have f25 : I 25 (k : Int).toNat = es_ja (es_Qc I0) M N (es_js (es_Qc I0) M N k) := by rw [hf 25 rfl, ek, x0]
        have f26 : I 26 (k : Int).toNat = es_pi (es_Qc I0) M N k := by rw [hf 26 rfl, ek, x1]; rfl
        have f28 : I 28 (k : Int).toNat = es_a3 (es_Qc I0) (es_js (es_Qc I0) M N k) (es_ja (es_Qc I0) M N (es_js (es_Qc I0) M N k)) := by rw [hf 28 rfl, ek, x3]
        have e1 : ∀ s : Int, es_la (es_Qc I0) M N (k + 1) s = es_la (es_Qc I0) M N k s + (if es_pz (es_Qc I0) M N k = s then 1 else 0) := fun s => rfl
        have e2 : ∀ s : Int, es_lb (es_Qc I0) M N (k + 1) s = es_lb (es_Qc I0) M N k s + (if es_pz (es_Qc I0) M N k = s then es_pn (es_Qc I0) M N k else 0) := fun s => rfl
        have e3 : es_lc (es_Qc I0) M N (k + 1) = es_lc (es_Qc I0) M N k + (if 0 ≤ es_pz (es_Qc I0) M N k then es_pn (es_Qc I0) M N k else 0) := rfl
        have ec : ((k + 1 : Nat) : Int) = (k : Int) + 1 := by omega
        have ihk := ih (k + 1)
        rw [ec] at ihk
        by_cases gp : 0 < es_pi (es_Qc I0) M N k
        · have hz := es_pz_p gp
          have hzr := es_sz_r (es_Qc I0) (es_pi (es_Qc I0) M N k).toNat
          have q1 : I 5 (I 26 (k : Int).toNat).toNat = es_Qc I0 0 (es_pi (es_Qc I0) M N k).toNat := by
            rw [hf 5 rfl, f26, es_Qc0 I0 (by omega)]
          have q2 : I 5 (I 26 (k : Int).toNat - 1).toNat = es_Qc I0 0 ((es_pi (es_Qc I0) M N k).toNat - 1) := by
            rw [hf 5 rfl, f26, es_Qc0 I0 (by omega), show (es_pi (es_Qc I0) M N k - 1).toNat = (es_pi (es_Qc I0) M N k).toNat - 1 by omega]
          have hzz : min (max (I 5 (I 26 (k : Int).toNat).toNat - I 5 (I 26 (k : Int).toNat - 1).toNat) (-(I 5 (I 26 (k : Int).toNat).toNat - I 5 (I 26 (k : Int).toNat - 1).toNat))) 12 = es_pz (es_Qc I0) M N k := by
            rw [hz, q1, q2]
            rfl
          have n3 := hn.2.2.1 (es_pi (es_Qc I0) M N k).toNat (by omega)
          have n4 := hn.2.2.1 ((es_pi (es_Qc I0) M N k).toNat - 1) (by omega)
          have q3 : 0 ≤ I 5 (I 26 (k : Int).toNat).toNat ∧ I 5 (I 26 (k : Int).toNat).toNat ≤ 127 := by rw [q1, es_Qc0 I0 (by omega)]; exact n3.1
          have q4 : 0 ≤ I 5 (I 26 (k : Int).toNat - 1).toNat ∧ I 5 (I 26 (k : Int).toNat - 1).toNat ≤ 127 := by rw [q2, es_Qc0 I0 (by omega)]; exact n4.1
          have hzr2 : 0 ≤ es_pz (es_Qc I0) M N k ∧ es_pz (es_Qc I0) M N k ≤ 12 := by rw [hz]; exact hzr
          have pn1 : (es_ja (es_Qc I0) M N (es_js (es_Qc I0) M N k) = 1 ∨ (es_ja (es_Qc I0) M N (es_js (es_Qc I0) M N k) = 0 ∧ 2 ≤ es_a3 (es_Qc I0) (es_js (es_Qc I0) M N k) (es_ja (es_Qc I0) M N (es_js (es_Qc I0) M N k)))) → es_pn (es_Qc I0) M N k = 1 := fun z => if_pos z
          have pn0 : ¬ (es_ja (es_Qc I0) M N (es_js (es_Qc I0) M N k) = 1 ∨ (es_ja (es_Qc I0) M N (es_js (es_Qc I0) M N k) = 0 ∧ 2 ≤ es_a3 (es_Qc I0) (es_js (es_Qc I0) M N k) (es_ja (es_Qc I0) M N (es_js (es_Qc I0) M N k)))) → es_pn (es_Qc I0) M N k = 0 := fun z => if_neg z
          clear n3 n4 q1 q2 hz hzr x0 x1 x2 x3 p3 p4 p5 ih
          generalize es_pz (es_Qc I0) M N k = z at *
          generalize es_pn (es_Qc I0) M N k = pn at *
          rw [if_pos hzr2.1] at e3
          rw [e3] at ihk
          repeat' (first
            | (refine am_gp 80 [6] rfl (by first | exact True.intro | (refine And.intro ?_ ?_ <;> decide) | exact Or.inl rfl | exact Or.inr rfl | (simp (decide := true) only [am_p, am_u_at, am_u_j, am_u_ne]; omega) | (simp (decide := true) only [am_p, and_true, true_and, true_or, or_true, am_u_at, am_u_j, am_u_ne]; omega) | (simp (decide := true) [am_p, am_u_at, am_u_j, am_u_ne]; omega)) ?_)
            | (show am_V _ _ _ _ _ _ _; simp only [Int.reduceToNat])
            | (refine am_bt rfl (by first | omega | (simp (decide := true) only [am_u_at, am_u_j, am_u_ne]; omega)) (by first | omega | (simp (decide := true) only [am_u_at, am_u_j, am_u_ne]; omega)) ?_)
            | (refine am_bf rfl (by first | omega | (simp (decide := true) only [am_u_at, am_u_j, am_u_ne]; omega)) (by first | omega | (simp (decide := true) only [am_u_at, am_u_j, am_u_ne]; omega)) ?_)
            | (refine am_br rfl (by first | omega | (simp (decide := true) only [am_u_at, am_u_j, am_u_ne]; omega)) (fun h => ?_) (fun h => ?_))
            | (refine am_cN (y' := Y_es_outside) rfl lk_pu_32 ok_es_outside rfl rfl (c_outside _ _ _ _ _ (by first | omega | (simp (decide := true) only [am_u_at, am_u_j, am_u_ne]; omega)) (by first | omega | (simp (decide := true) only [am_u_at, am_u_j, am_u_ne]; omega)) (by first | omega | (simp (decide := true) only [am_u_at, am_u_j, am_u_ne]; omega))) ?_; rintro r I ⟨rfl, (⟨rfl, h⟩ | ⟨rfl, h⟩)⟩ <;> (try (exfalso; omega)))
            | (refine am_absi rfl mk_pu_39 rfl (by first | omega | (simp (decide := true) only [am_u_at, am_u_j, am_u_ne]; omega)) ?_)
            | (refine am_mini rfl mk_pu_45 rfl (by first | omega | (simp (decide := true) only [am_u_at, am_u_j, am_u_ne]; omega)) ?_)
            | (refine am_cV (y' := Y_ju_missed) rfl lk_pu_49 ok_ju_missed rfl rfl rfl (c_ju_missed _ _ _ (by first | omega | (simp (decide := true) only [am_u_at, am_u_j, am_u_ne]; omega)) (by first | omega | (simp (decide := true) only [am_u_at, am_u_j, am_u_ne]; omega)) (by first | omega | (simp (decide := true) only [am_u_at, am_u_j, am_u_ne]; omega))) ?_; rintro r I ⟨rfl, (⟨rfl, hmi⟩ | ⟨rfl, hmi⟩)⟩ <;> (try (exfalso; omega)))
            | (refine am_rt rfl (by first | exact True.intro | (refine And.intro ?_ ?_ <;> decide) | exact Or.inl rfl | exact Or.inr rfl | (show _ ∨ _; omega)) ?_))
          · rw [hzz]
            simp (decide := true) only [am_u_at, am_u_j, am_u_ne] at hmi
            rw [pn1 (by omega)] at ihk e2
            refine am_wk [6, 7, 8] (ihk _ (by omega) (by omega) ((hf.u _ _ rfl).u _ _ rfl) ?_)
            intro s hs12
            have hs2 := hs s hs12
            have e4 := e1 s
            have e5 := e2 s
            simp (decide := true) only [am_u_at, am_u_j, am_u_ne]
            by_cases c : s = z.toNat
            · rw [if_pos (by omega)] at e4 e5
              rw [c, am_u_eq, am_u_eq, am_up_eq, am_up_eq, ← c]
              omega
            · rw [if_neg (by omega)] at e4 e5
              rw [am_u_eq, am_u_eq, am_up_ne c, am_up_ne c, am_u_ne (by decide)]
              omega
          · rw [hzz]
            simp (decide := true) only [am_u_at, am_u_j, am_u_ne] at hmi
            rw [pn0 (by omega)] at ihk e2
            refine am_wk [6, 7, 8] ?_
            rw [Int.add_zero] at ihk
            refine ihk _ (by omega) (by omega) (hf.u _ _ rfl) ?_
            intro s hs12
            have hs2 := hs s hs12
            have e4 := e1 s
            have e5 := e2 s
            simp (decide := true) only [am_u_at, am_u_j, am_u_ne]
            by_cases c : s = z.toNat
            · rw [if_pos (by omega)] at e4 e5
              rw [c, am_u_eq, am_up_eq, ← c]
              omega
            · rw [if_neg (by omega)] at e4 e5
              rw [am_u_eq, am_up_ne c]
              omega
        · have hz := es_pz_n gp
          rw [hz] at e1 e2 e3
          rw [if_neg (by omega), Int.add_zero] at e3
          rw [e3] at ihk
          clear x0 x1 x2 x3 p3 p4 p5 ih
          repeat' (first
            | (refine am_gp 80 [6] rfl (by first | exact True.intro | (refine And.intro ?_ ?_ <;> decide) | exact Or.inl rfl | exact Or.inr rfl | (simp (decide := true) only [am_p, am_u_at, am_u_j, am_u_ne]; omega) | (simp (decide := true) only [am_p, and_true, true_and, true_or, or_true, am_u_at, am_u_j, am_u_ne]; omega) | (simp (decide := true) [am_p, am_u_at, am_u_j, am_u_ne]; omega)) ?_)
            | (show am_V _ _ _ _ _ _ _; simp only [Int.reduceToNat])
            | (refine am_bt rfl (by first | omega | (simp (decide := true) only [am_u_at, am_u_j, am_u_ne]; omega)) (by first | omega | (simp (decide := true) only [am_u_at, am_u_j, am_u_ne]; omega)) ?_)
            | (refine am_bf rfl (by first | omega | (simp (decide := true) only [am_u_at, am_u_j, am_u_ne]; omega)) (by first | omega | (simp (decide := true) only [am_u_at, am_u_j, am_u_ne]; omega)) ?_)
            | (refine am_br rfl (by first | omega | (simp (decide := true) only [am_u_at, am_u_j, am_u_ne]; omega)) (fun h => ?_) (fun h => ?_))
            | (refine am_cN (y' := Y_es_outside) rfl lk_pu_32 ok_es_outside rfl rfl (c_outside _ _ _ _ _ (by first | omega | (simp (decide := true) only [am_u_at, am_u_j, am_u_ne]; omega)) (by first | omega | (simp (decide := true) only [am_u_at, am_u_j, am_u_ne]; omega)) (by first | omega | (simp (decide := true) only [am_u_at, am_u_j, am_u_ne]; omega))) ?_; rintro r I ⟨rfl, (⟨rfl, h⟩ | ⟨rfl, h⟩)⟩ <;> (try (exfalso; omega)))
            | (refine am_rt rfl (by first | exact True.intro | (refine And.intro ?_ ?_ <;> decide) | exact Or.inl rfl | exact Or.inr rfl | (show _ ∨ _; omega)) ?_))
          refine am_wk [6] (ihk _ (by omega) (by omega) hf ?_)
          intro s hs12
          have hs2 := hs s hs12
          have e4 := e1 s
          have e5 := e2 s
          rw [if_neg (by omega)] at e4 e5
          omega
      · have ek : k = T := by omega
        subst ek
        clear ih
        repeat' (first
          | (refine am_gp 80 [] rfl (by first | exact True.intro | (refine And.intro ?_ ?_ <;> decide) | exact Or.inl rfl | exact Or.inr rfl | (simp (decide := true) only [am_p, am_u_at, am_u_j, am_u_ne]; omega) | (simp (decide := true) only [am_p, and_true, true_and, true_or, or_true, am_u_at, am_u_j, am_u_ne]; omega) | (simp (decide := true) [am_p, am_u_at, am_u_j, am_u_ne]; omega)) ?_)
          | (show am_V _ _ _ _ _ _ _; simp only [Int.reduceToNat])
          | (refine am_bt rfl (by first | omega | (simp (decide := true) only [am_u_at, am_u_j, am_u_ne]; omega)) (by first | omega | (simp (decide := true) only [am_u_at, am_u_j, am_u_ne]; omega)) ?_)
          | (refine am_bf rfl (by first | omega | (simp (decide := true) only [am_u_at, am_u_j, am_u_ne]; omega)) (by first | omega | (simp (decide := true) only [am_u_at, am_u_j, am_u_ne]; omega)) ?_)
          | (refine am_br rfl (by first | omega | (simp (decide := true) only [am_u_at, am_u_j, am_u_ne]; omega)) (fun h => ?_) (fun h => ?_))
          | (refine am_rt rfl (by first | exact True.intro | (refine And.intro ?_ ?_ <;> decide) | exact Or.inl rfl | exact Or.inr rfl | (show _ ∨ _; omega)) ?_))
        exact ⟨rfl, hf, hs⟩
  repeat' (first
    | (refine am_gp 80 [6] rfl (by first | exact True.intro | (refine And.intro ?_ ?_ <;> decide) | exact Or.inl rfl | exact Or.inr rfl | (simp (decide := true) only [am_p, am_u_at, am_u_j, am_u_ne]; omega) | (simp (decide := true) only [am_p, and_true, true_and, true_or, or_true, am_u_at, am_u_j, am_u_ne]; omega) | (simp (decide := true) [am_p, am_u_at, am_u_j, am_u_ne]; omega)) ?_)
    | (show am_V _ _ _ _ _ _ _; simp only [Int.reduceToNat])
    | (refine am_bt rfl (by first | omega | (simp (decide := true) only [am_u_at, am_u_j, am_u_ne]; omega)) (by first | omega | (simp (decide := true) only [am_u_at, am_u_j, am_u_ne]; omega)) ?_)
    | (refine am_bf rfl (by first | omega | (simp (decide := true) only [am_u_at, am_u_j, am_u_ne]; omega)) (by first | omega | (simp (decide := true) only [am_u_at, am_u_j, am_u_ne]; omega)) ?_)
    | (refine am_br rfl (by first | omega | (simp (decide := true) only [am_u_at, am_u_j, am_u_ne]; omega)) (fun h => ?_) (fun h => ?_))
    | (refine am_rt rfl (by first | exact True.intro | (refine And.intro ?_ ?_ <;> decide) | exact Or.inl rfl | exact Or.inr rfl | (show _ ∨ _; omega)) ?_))
  exact loop (T + 1) 0 I0 (by omega) (by omega) am_fr.rf (fun s _ => ⟨(Int.add_zero _).symm, (Int.add_zero _).symm⟩)
theorem c_pu_enter1 (d : Nat) (I0 : am_I) (M N T : Nat) (hn : es_nc I0) (hM : I0 4 2 = (M : Int)) (hN : I0 1 2 = (N : Int)) (hT : T ≤ 96) (hjT : es_jT (es_Qc I0) M N T) (h7 : I0 23 7 = (T : Int)) (hax : ∀ k : Nat, k < T → es_axc (es_Qc I0) M N I0 k) : am_C (d + 1) Y_pu_enter [.inr (.inr 29), .inl 1, .inr (.inr 23), .inr (.inr 4)] I0 (fun r I' => r = some (.inl (es_lc (es_Qc I0) M N T)) ∧ am_fr I0 I' [32, 39] ∧ ∀ s : Nat, s ≤ 12 → I' 32 s = I0 32 s + es_la (es_Qc I0) M N T s ∧ I' 39 s = I0 39 s + es_lb (es_Qc I0) M N T s) := by
  refine am_enter ok_pu_enter rfl ?_
  have hM4 : M ≤ 24 := by have := hn.1; omega
  have hN4 : N ≤ 24 := by have := hn.2.1; omega
  have loop : ∀ (m k : Nat) (I : am_I), k ≤ T → T - k < m → am_fr I0 I [32, 39] → (∀ s : Nat, s ≤ 12 → I 32 s = I0 32 s + es_la (es_Qc I0) M N k s ∧ I 39 s = I0 39 s + es_lb (es_Qc I0) M N k s) → am_V (d + 1) Y_pu_enter (fun r I' => r = some (.inl (es_lc (es_Qc I0) M N T)) ∧ am_fr I0 I' [32, 39] ∧ ∀ s : Nat, s ≤ 12 → I' 32 s = I0 32 s + es_la (es_Qc I0) M N T s ∧ I' 39 s = I0 39 s + es_lb (es_Qc I0) M N T s) 6 [(0, .inr (.inr 29)), (1, .inl 1), (2, .inr (.inr 23)), (3, .inr (.inr 4)), (4, .inl (es_lc (es_Qc I0) M N k)), (5, .inl (k : Int))] [] I := by
    intro m
    induction m with
    | zero => intro k I h1 h2; omega
    | succ m ih =>
      intro k I h1 h2 hf hs
      have b7 : I 23 7 = (T : Int) := by rw [hf 23 rfl]; exact h7
      have b4 : I 4 2 = (M : Int) := by rw [hf 4 rfl]; exact hM
      refine am_go 1 [] rfl trivial ?_
      by_cases g : k < T
      · obtain ⟨p1, p2, p3, p4, p5, p6⟩ := es_pf hM4 hN4 hjT g
        obtain ⟨x0, x1, x2, x3⟩ := hax k g
        have ek : (k : Int).toNat = k := by omega
        have f25 : I 25 (k : Int).toNat = es_ja (es_Qc I0) M N (es_js (es_Qc I0) M N k) := by rw [hf 25 rfl, ek, x0]
        have f26 : I 26 (k : Int).toNat = es_pi (es_Qc I0) M N k := by rw [hf 26 rfl, ek, x1]; rfl
        have f28 : I 28 (k : Int).toNat = es_a3 (es_Qc I0) (es_js (es_Qc I0) M N k) (es_ja (es_Qc I0) M N (es_js (es_Qc I0) M N k)) := by rw [hf 28 rfl, ek, x3]
        have e1 : ∀ s : Int, es_la (es_Qc I0) M N (k + 1) s = es_la (es_Qc I0) M N k s + (if es_pz (es_Qc I0) M N k = s then 1 else 0) := fun s => rfl
        have e2 : ∀ s : Int, es_lb (es_Qc I0) M N (k + 1) s = es_lb (es_Qc I0) M N k s + (if es_pz (es_Qc I0) M N k = s then es_pn (es_Qc I0) M N k else 0) := fun s => rfl
        have e3 : es_lc (es_Qc I0) M N (k + 1) = es_lc (es_Qc I0) M N k + (if 0 ≤ es_pz (es_Qc I0) M N k then es_pn (es_Qc I0) M N k else 0) := rfl
        have ec : ((k + 1 : Nat) : Int) = (k : Int) + 1 := by omega
        have ihk := ih (k + 1)
        rw [ec] at ihk
        by_cases gp : 0 < es_pi (es_Qc I0) M N k
        · have hz := es_pz_p gp
          have hzr := es_sz_r (es_Qc I0) (es_pi (es_Qc I0) M N k).toNat
          have q1 : I 5 (I 26 (k : Int).toNat).toNat = es_Qc I0 0 (es_pi (es_Qc I0) M N k).toNat := by
            rw [hf 5 rfl, f26, es_Qc0 I0 (by omega)]
          have q2 : I 5 (I 26 (k : Int).toNat - 1).toNat = es_Qc I0 0 ((es_pi (es_Qc I0) M N k).toNat - 1) := by
            rw [hf 5 rfl, f26, es_Qc0 I0 (by omega), show (es_pi (es_Qc I0) M N k - 1).toNat = (es_pi (es_Qc I0) M N k).toNat - 1 by omega]
          have hzz : min (max (I 5 (I 26 (k : Int).toNat).toNat - I 5 (I 26 (k : Int).toNat - 1).toNat) (-(I 5 (I 26 (k : Int).toNat).toNat - I 5 (I 26 (k : Int).toNat - 1).toNat))) 12 = es_pz (es_Qc I0) M N k := by
            rw [hz, q1, q2]
            rfl
          have n3 := hn.2.2.1 (es_pi (es_Qc I0) M N k).toNat (by omega)
          have n4 := hn.2.2.1 ((es_pi (es_Qc I0) M N k).toNat - 1) (by omega)
          have q3 : 0 ≤ I 5 (I 26 (k : Int).toNat).toNat ∧ I 5 (I 26 (k : Int).toNat).toNat ≤ 127 := by rw [q1, es_Qc0 I0 (by omega)]; exact n3.1
          have q4 : 0 ≤ I 5 (I 26 (k : Int).toNat - 1).toNat ∧ I 5 (I 26 (k : Int).toNat - 1).toNat ≤ 127 := by rw [q2, es_Qc0 I0 (by omega)]; exact n4.1
          have hzr2 : 0 ≤ es_pz (es_Qc I0) M N k ∧ es_pz (es_Qc I0) M N k ≤ 12 := by rw [hz]; exact hzr
          have pn1 : (es_ja (es_Qc I0) M N (es_js (es_Qc I0) M N k) = 1 ∨ (es_ja (es_Qc I0) M N (es_js (es_Qc I0) M N k) = 0 ∧ 2 ≤ es_a3 (es_Qc I0) (es_js (es_Qc I0) M N k) (es_ja (es_Qc I0) M N (es_js (es_Qc I0) M N k)))) → es_pn (es_Qc I0) M N k = 1 := fun z => if_pos z
          have pn0 : ¬ (es_ja (es_Qc I0) M N (es_js (es_Qc I0) M N k) = 1 ∨ (es_ja (es_Qc I0) M N (es_js (es_Qc I0) M N k) = 0 ∧ 2 ≤ es_a3 (es_Qc I0) (es_js (es_Qc I0) M N k) (es_ja (es_Qc I0) M N (es_js (es_Qc I0) M N k)))) → es_pn (es_Qc I0) M N k = 0 := fun z => if_neg z
          clear n3 n4 q1 q2 hz hzr x0 x1 x2 x3 p3 p4 p5 ih
          generalize es_pz (es_Qc I0) M N k = z at *
          generalize es_pn (es_Qc I0) M N k = pn at *
          rw [if_pos hzr2.1] at e3
          rw [e3] at ihk
          repeat' (first
            | (refine am_gp 80 [6] rfl (by first | exact True.intro | (refine And.intro ?_ ?_ <;> decide) | exact Or.inl rfl | exact Or.inr rfl | (simp (decide := true) only [am_p, am_u_at, am_u_j, am_u_ne]; omega) | (simp (decide := true) only [am_p, and_true, true_and, true_or, or_true, am_u_at, am_u_j, am_u_ne]; omega) | (simp (decide := true) [am_p, am_u_at, am_u_j, am_u_ne]; omega)) ?_)
            | (show am_V _ _ _ _ _ _ _; simp only [Int.reduceToNat])
            | (refine am_bt rfl (by first | omega | (simp (decide := true) only [am_u_at, am_u_j, am_u_ne]; omega)) (by first | omega | (simp (decide := true) only [am_u_at, am_u_j, am_u_ne]; omega)) ?_)
            | (refine am_bf rfl (by first | omega | (simp (decide := true) only [am_u_at, am_u_j, am_u_ne]; omega)) (by first | omega | (simp (decide := true) only [am_u_at, am_u_j, am_u_ne]; omega)) ?_)
            | (refine am_br rfl (by first | omega | (simp (decide := true) only [am_u_at, am_u_j, am_u_ne]; omega)) (fun h => ?_) (fun h => ?_))
            | (refine am_cN (y' := Y_es_outside) rfl lk_pu_32 ok_es_outside rfl rfl (c_outside _ _ _ _ _ (by first | omega | (simp (decide := true) only [am_u_at, am_u_j, am_u_ne]; omega)) (by first | omega | (simp (decide := true) only [am_u_at, am_u_j, am_u_ne]; omega)) (by first | omega | (simp (decide := true) only [am_u_at, am_u_j, am_u_ne]; omega))) ?_; rintro r I ⟨rfl, (⟨rfl, h⟩ | ⟨rfl, h⟩)⟩ <;> (try (exfalso; omega)))
            | (refine am_absi rfl mk_pu_39 rfl (by first | omega | (simp (decide := true) only [am_u_at, am_u_j, am_u_ne]; omega)) ?_)
            | (refine am_mini rfl mk_pu_45 rfl (by first | omega | (simp (decide := true) only [am_u_at, am_u_j, am_u_ne]; omega)) ?_)
            | (refine am_cV (y' := Y_ju_missed) rfl lk_pu_49 ok_ju_missed rfl rfl rfl (c_ju_missed _ _ _ (by first | omega | (simp (decide := true) only [am_u_at, am_u_j, am_u_ne]; omega)) (by first | omega | (simp (decide := true) only [am_u_at, am_u_j, am_u_ne]; omega)) (by first | omega | (simp (decide := true) only [am_u_at, am_u_j, am_u_ne]; omega))) ?_; rintro r I ⟨rfl, (⟨rfl, hmi⟩ | ⟨rfl, hmi⟩)⟩ <;> (try (exfalso; omega)))
            | (refine am_rt rfl (by first | exact True.intro | (refine And.intro ?_ ?_ <;> decide) | exact Or.inl rfl | exact Or.inr rfl | (show _ ∨ _; omega)) ?_))
          · rw [hzz]
            simp (decide := true) only [am_u_at, am_u_j, am_u_ne] at hmi
            rw [pn1 (by omega)] at ihk e2
            refine am_wk [6, 7, 8] (ihk _ (by omega) (by omega) ((hf.u _ _ rfl).u _ _ rfl) ?_)
            intro s hs12
            have hs2 := hs s hs12
            have e4 := e1 s
            have e5 := e2 s
            simp (decide := true) only [am_u_at, am_u_j, am_u_ne]
            by_cases c : s = z.toNat
            · rw [if_pos (by omega)] at e4 e5
              rw [c, am_u_eq, am_u_eq, am_up_eq, am_up_eq, ← c]
              omega
            · rw [if_neg (by omega)] at e4 e5
              rw [am_u_eq, am_u_eq, am_up_ne c, am_up_ne c, am_u_ne (by decide)]
              omega
          · rw [hzz]
            simp (decide := true) only [am_u_at, am_u_j, am_u_ne] at hmi
            rw [pn0 (by omega)] at ihk e2
            refine am_wk [6, 7, 8] ?_
            rw [Int.add_zero] at ihk
            refine ihk _ (by omega) (by omega) (hf.u _ _ rfl) ?_
            intro s hs12
            have hs2 := hs s hs12
            have e4 := e1 s
            have e5 := e2 s
            simp (decide := true) only [am_u_at, am_u_j, am_u_ne]
            by_cases c : s = z.toNat
            · rw [if_pos (by omega)] at e4 e5
              rw [c, am_u_eq, am_up_eq, ← c]
              omega
            · rw [if_neg (by omega)] at e4 e5
              rw [am_u_eq, am_up_ne c]
              omega
        · have hz := es_pz_n gp
          rw [hz] at e1 e2 e3
          rw [if_neg (by omega), Int.add_zero] at e3
          rw [e3] at ihk
          clear x0 x1 x2 x3 p3 p4 p5 ih
          repeat' (first
            | (refine am_gp 80 [6] rfl (by first | exact True.intro | (refine And.intro ?_ ?_ <;> decide) | exact Or.inl rfl | exact Or.inr rfl | (simp (decide := true) only [am_p, am_u_at, am_u_j, am_u_ne]; omega) | (simp (decide := true) only [am_p, and_true, true_and, true_or, or_true, am_u_at, am_u_j, am_u_ne]; omega) | (simp (decide := true) [am_p, am_u_at, am_u_j, am_u_ne]; omega)) ?_)
            | (show am_V _ _ _ _ _ _ _; simp only [Int.reduceToNat])
            | (refine am_bt rfl (by first | omega | (simp (decide := true) only [am_u_at, am_u_j, am_u_ne]; omega)) (by first | omega | (simp (decide := true) only [am_u_at, am_u_j, am_u_ne]; omega)) ?_)
            | (refine am_bf rfl (by first | omega | (simp (decide := true) only [am_u_at, am_u_j, am_u_ne]; omega)) (by first | omega | (simp (decide := true) only [am_u_at, am_u_j, am_u_ne]; omega)) ?_)
            | (refine am_br rfl (by first | omega | (simp (decide := true) only [am_u_at, am_u_j, am_u_ne]; omega)) (fun h => ?_) (fun h => ?_))
            | (refine am_cN (y' := Y_es_outside) rfl lk_pu_32 ok_es_outside rfl rfl (c_outside _ _ _ _ _ (by first | omega | (simp (decide := true) only [am_u_at, am_u_j, am_u_ne]; omega)) (by first | omega | (simp (decide := true) only [am_u_at, am_u_j, am_u_ne]; omega)) (by first | omega | (simp (decide := true) only [am_u_at, am_u_j, am_u_ne]; omega))) ?_; rintro r I ⟨rfl, (⟨rfl, h⟩ | ⟨rfl, h⟩)⟩ <;> (try (exfalso; omega)))
            | (refine am_rt rfl (by first | exact True.intro | (refine And.intro ?_ ?_ <;> decide) | exact Or.inl rfl | exact Or.inr rfl | (show _ ∨ _; omega)) ?_))
          refine am_wk [6] (ihk _ (by omega) (by omega) hf ?_)
          intro s hs12
          have hs2 := hs s hs12
          have e4 := e1 s
          have e5 := e2 s
          rw [if_neg (by omega)] at e4 e5
          omega
      · have ek : k = T := by omega
        subst ek
        clear ih
        repeat' (first
          | (refine am_gp 80 [] rfl (by first | exact True.intro | (refine And.intro ?_ ?_ <;> decide) | exact Or.inl rfl | exact Or.inr rfl | (simp (decide := true) only [am_p, am_u_at, am_u_j, am_u_ne]; omega) | (simp (decide := true) only [am_p, and_true, true_and, true_or, or_true, am_u_at, am_u_j, am_u_ne]; omega) | (simp (decide := true) [am_p, am_u_at, am_u_j, am_u_ne]; omega)) ?_)
          | (show am_V _ _ _ _ _ _ _; simp only [Int.reduceToNat])
          | (refine am_bt rfl (by first | omega | (simp (decide := true) only [am_u_at, am_u_j, am_u_ne]; omega)) (by first | omega | (simp (decide := true) only [am_u_at, am_u_j, am_u_ne]; omega)) ?_)
          | (refine am_bf rfl (by first | omega | (simp (decide := true) only [am_u_at, am_u_j, am_u_ne]; omega)) (by first | omega | (simp (decide := true) only [am_u_at, am_u_j, am_u_ne]; omega)) ?_)
          | (refine am_br rfl (by first | omega | (simp (decide := true) only [am_u_at, am_u_j, am_u_ne]; omega)) (fun h => ?_) (fun h => ?_))
          | (refine am_rt rfl (by first | exact True.intro | (refine And.intro ?_ ?_ <;> decide) | exact Or.inl rfl | exact Or.inr rfl | (show _ ∨ _; omega)) ?_))
        exact ⟨rfl, hf, hs⟩
  repeat' (first
    | (refine am_gp 80 [6] rfl (by first | exact True.intro | (refine And.intro ?_ ?_ <;> decide) | exact Or.inl rfl | exact Or.inr rfl | (simp (decide := true) only [am_p, am_u_at, am_u_j, am_u_ne]; omega) | (simp (decide := true) only [am_p, and_true, true_and, true_or, or_true, am_u_at, am_u_j, am_u_ne]; omega) | (simp (decide := true) [am_p, am_u_at, am_u_j, am_u_ne]; omega)) ?_)
    | (show am_V _ _ _ _ _ _ _; simp only [Int.reduceToNat])
    | (refine am_bt rfl (by first | omega | (simp (decide := true) only [am_u_at, am_u_j, am_u_ne]; omega)) (by first | omega | (simp (decide := true) only [am_u_at, am_u_j, am_u_ne]; omega)) ?_)
    | (refine am_bf rfl (by first | omega | (simp (decide := true) only [am_u_at, am_u_j, am_u_ne]; omega)) (by first | omega | (simp (decide := true) only [am_u_at, am_u_j, am_u_ne]; omega)) ?_)
    | (refine am_br rfl (by first | omega | (simp (decide := true) only [am_u_at, am_u_j, am_u_ne]; omega)) (fun h => ?_) (fun h => ?_))
    | (refine am_rt rfl (by first | exact True.intro | (refine And.intro ?_ ?_ <;> decide) | exact Or.inl rfl | exact Or.inr rfl | (show _ ∨ _; omega)) ?_))
  exact loop (T + 1) 0 I0 (by omega) (by omega) am_fr.rf (fun s _ => ⟨(Int.add_zero _).symm, (Int.add_zero _).symm⟩)
theorem c_pu_enter2 (d : Nat) (I0 : am_I) (M N T : Nat) (hn : es_nc I0) (hM : I0 4 2 = (M : Int)) (hN : I0 1 2 = (N : Int)) (hT : T ≤ 96) (hjT : es_jT (es_Qc I0) M N T) (h7 : I0 23 7 = (T : Int)) (hax : ∀ k : Nat, k < T → es_axc (es_Qc I0) M N I0 k) : am_C (d + 1) Y_pu_enter [.inr (.inr 29), .inl 2, .inr (.inr 23), .inr (.inr 4)] I0 (fun r I' => r = some (.inl (es_lc (es_Qc I0) M N T)) ∧ am_fr I0 I' [33, 40] ∧ ∀ s : Nat, s ≤ 12 → I' 33 s = I0 33 s + es_la (es_Qc I0) M N T s ∧ I' 40 s = I0 40 s + es_lb (es_Qc I0) M N T s) := by
  refine am_enter ok_pu_enter rfl ?_
  have hM4 : M ≤ 24 := by have := hn.1; omega
  have hN4 : N ≤ 24 := by have := hn.2.1; omega
  have loop : ∀ (m k : Nat) (I : am_I), k ≤ T → T - k < m → am_fr I0 I [33, 40] → (∀ s : Nat, s ≤ 12 → I 33 s = I0 33 s + es_la (es_Qc I0) M N k s ∧ I 40 s = I0 40 s + es_lb (es_Qc I0) M N k s) → am_V (d + 1) Y_pu_enter (fun r I' => r = some (.inl (es_lc (es_Qc I0) M N T)) ∧ am_fr I0 I' [33, 40] ∧ ∀ s : Nat, s ≤ 12 → I' 33 s = I0 33 s + es_la (es_Qc I0) M N T s ∧ I' 40 s = I0 40 s + es_lb (es_Qc I0) M N T s) 6 [(0, .inr (.inr 29)), (1, .inl 2), (2, .inr (.inr 23)), (3, .inr (.inr 4)), (4, .inl (es_lc (es_Qc I0) M N k)), (5, .inl (k : Int))] [] I := by
    intro m
    induction m with
    | zero => intro k I h1 h2; omega
    | succ m ih =>
      intro k I h1 h2 hf hs
      have b7 : I 23 7 = (T : Int) := by rw [hf 23 rfl]; exact h7
      have b4 : I 4 2 = (M : Int) := by rw [hf 4 rfl]; exact hM
      refine am_go 1 [] rfl trivial ?_
      by_cases g : k < T
      · obtain ⟨p1, p2, p3, p4, p5, p6⟩ := es_pf hM4 hN4 hjT g
        obtain ⟨x0, x1, x2, x3⟩ := hax k g
        have ek : (k : Int).toNat = k := by omega
        have f25 : I 25 (k : Int).toNat = es_ja (es_Qc I0) M N (es_js (es_Qc I0) M N k) := by rw [hf 25 rfl, ek, x0]
        have f26 : I 26 (k : Int).toNat = es_pi (es_Qc I0) M N k := by rw [hf 26 rfl, ek, x1]; rfl
        have f28 : I 28 (k : Int).toNat = es_a3 (es_Qc I0) (es_js (es_Qc I0) M N k) (es_ja (es_Qc I0) M N (es_js (es_Qc I0) M N k)) := by rw [hf 28 rfl, ek, x3]
        have e1 : ∀ s : Int, es_la (es_Qc I0) M N (k + 1) s = es_la (es_Qc I0) M N k s + (if es_pz (es_Qc I0) M N k = s then 1 else 0) := fun s => rfl
        have e2 : ∀ s : Int, es_lb (es_Qc I0) M N (k + 1) s = es_lb (es_Qc I0) M N k s + (if es_pz (es_Qc I0) M N k = s then es_pn (es_Qc I0) M N k else 0) := fun s => rfl
        have e3 : es_lc (es_Qc I0) M N (k + 1) = es_lc (es_Qc I0) M N k + (if 0 ≤ es_pz (es_Qc I0) M N k then es_pn (es_Qc I0) M N k else 0) := rfl
        have ec : ((k + 1 : Nat) : Int) = (k : Int) + 1 := by omega
        have ihk := ih (k + 1)
        rw [ec] at ihk
        by_cases gp : 0 < es_pi (es_Qc I0) M N k
        · have hz := es_pz_p gp
          have hzr := es_sz_r (es_Qc I0) (es_pi (es_Qc I0) M N k).toNat
          have q1 : I 5 (I 26 (k : Int).toNat).toNat = es_Qc I0 0 (es_pi (es_Qc I0) M N k).toNat := by
            rw [hf 5 rfl, f26, es_Qc0 I0 (by omega)]
          have q2 : I 5 (I 26 (k : Int).toNat - 1).toNat = es_Qc I0 0 ((es_pi (es_Qc I0) M N k).toNat - 1) := by
            rw [hf 5 rfl, f26, es_Qc0 I0 (by omega), show (es_pi (es_Qc I0) M N k - 1).toNat = (es_pi (es_Qc I0) M N k).toNat - 1 by omega]
          have hzz : min (max (I 5 (I 26 (k : Int).toNat).toNat - I 5 (I 26 (k : Int).toNat - 1).toNat) (-(I 5 (I 26 (k : Int).toNat).toNat - I 5 (I 26 (k : Int).toNat - 1).toNat))) 12 = es_pz (es_Qc I0) M N k := by
            rw [hz, q1, q2]
            rfl
          have n3 := hn.2.2.1 (es_pi (es_Qc I0) M N k).toNat (by omega)
          have n4 := hn.2.2.1 ((es_pi (es_Qc I0) M N k).toNat - 1) (by omega)
          have q3 : 0 ≤ I 5 (I 26 (k : Int).toNat).toNat ∧ I 5 (I 26 (k : Int).toNat).toNat ≤ 127 := by rw [q1, es_Qc0 I0 (by omega)]; exact n3.1
          have q4 : 0 ≤ I 5 (I 26 (k : Int).toNat - 1).toNat ∧ I 5 (I 26 (k : Int).toNat - 1).toNat ≤ 127 := by rw [q2, es_Qc0 I0 (by omega)]; exact n4.1
          have hzr2 : 0 ≤ es_pz (es_Qc I0) M N k ∧ es_pz (es_Qc I0) M N k ≤ 12 := by rw [hz]; exact hzr
          have pn1 : (es_ja (es_Qc I0) M N (es_js (es_Qc I0) M N k) = 1 ∨ (es_ja (es_Qc I0) M N (es_js (es_Qc I0) M N k) = 0 ∧ 2 ≤ es_a3 (es_Qc I0) (es_js (es_Qc I0) M N k) (es_ja (es_Qc I0) M N (es_js (es_Qc I0) M N k)))) → es_pn (es_Qc I0) M N k = 1 := fun z => if_pos z
          have pn0 : ¬ (es_ja (es_Qc I0) M N (es_js (es_Qc I0) M N k) = 1 ∨ (es_ja (es_Qc I0) M N (es_js (es_Qc I0) M N k) = 0 ∧ 2 ≤ es_a3 (es_Qc I0) (es_js (es_Qc I0) M N k) (es_ja (es_Qc I0) M N (es_js (es_Qc I0) M N k)))) → es_pn (es_Qc I0) M N k = 0 := fun z => if_neg z
          clear n3 n4 q1 q2 hz hzr x0 x1 x2 x3 p3 p4 p5 ih
          generalize es_pz (es_Qc I0) M N k = z at *
          generalize es_pn (es_Qc I0) M N k = pn at *
          rw [if_pos hzr2.1] at e3
          rw [e3] at ihk
          repeat' (first
            | (refine am_gp 80 [6] rfl (by first | exact True.intro | (refine And.intro ?_ ?_ <;> decide) | exact Or.inl rfl | exact Or.inr rfl | (simp (decide := true) only [am_p, am_u_at, am_u_j, am_u_ne]; omega) | (simp (decide := true) only [am_p, and_true, true_and, true_or, or_true, am_u_at, am_u_j, am_u_ne]; omega) | (simp (decide := true) [am_p, am_u_at, am_u_j, am_u_ne]; omega)) ?_)
            | (show am_V _ _ _ _ _ _ _; simp only [Int.reduceToNat])
            | (refine am_bt rfl (by first | omega | (simp (decide := true) only [am_u_at, am_u_j, am_u_ne]; omega)) (by first | omega | (simp (decide := true) only [am_u_at, am_u_j, am_u_ne]; omega)) ?_)
            | (refine am_bf rfl (by first | omega | (simp (decide := true) only [am_u_at, am_u_j, am_u_ne]; omega)) (by first | omega | (simp (decide := true) only [am_u_at, am_u_j, am_u_ne]; omega)) ?_)
            | (refine am_br rfl (by first | omega | (simp (decide := true) only [am_u_at, am_u_j, am_u_ne]; omega)) (fun h => ?_) (fun h => ?_))
            | (refine am_cN (y' := Y_es_outside) rfl lk_pu_32 ok_es_outside rfl rfl (c_outside _ _ _ _ _ (by first | omega | (simp (decide := true) only [am_u_at, am_u_j, am_u_ne]; omega)) (by first | omega | (simp (decide := true) only [am_u_at, am_u_j, am_u_ne]; omega)) (by first | omega | (simp (decide := true) only [am_u_at, am_u_j, am_u_ne]; omega))) ?_; rintro r I ⟨rfl, (⟨rfl, h⟩ | ⟨rfl, h⟩)⟩ <;> (try (exfalso; omega)))
            | (refine am_absi rfl mk_pu_39 rfl (by first | omega | (simp (decide := true) only [am_u_at, am_u_j, am_u_ne]; omega)) ?_)
            | (refine am_mini rfl mk_pu_45 rfl (by first | omega | (simp (decide := true) only [am_u_at, am_u_j, am_u_ne]; omega)) ?_)
            | (refine am_cV (y' := Y_ju_missed) rfl lk_pu_49 ok_ju_missed rfl rfl rfl (c_ju_missed _ _ _ (by first | omega | (simp (decide := true) only [am_u_at, am_u_j, am_u_ne]; omega)) (by first | omega | (simp (decide := true) only [am_u_at, am_u_j, am_u_ne]; omega)) (by first | omega | (simp (decide := true) only [am_u_at, am_u_j, am_u_ne]; omega))) ?_; rintro r I ⟨rfl, (⟨rfl, hmi⟩ | ⟨rfl, hmi⟩)⟩ <;> (try (exfalso; omega)))
            | (refine am_rt rfl (by first | exact True.intro | (refine And.intro ?_ ?_ <;> decide) | exact Or.inl rfl | exact Or.inr rfl | (show _ ∨ _; omega)) ?_))
          · rw [hzz]
            simp (decide := true) only [am_u_at, am_u_j, am_u_ne] at hmi
            rw [pn1 (by omega)] at ihk e2
            refine am_wk [6, 7, 8] (ihk _ (by omega) (by omega) ((hf.u _ _ rfl).u _ _ rfl) ?_)
            intro s hs12
            have hs2 := hs s hs12
            have e4 := e1 s
            have e5 := e2 s
            simp (decide := true) only [am_u_at, am_u_j, am_u_ne]
            by_cases c : s = z.toNat
            · rw [if_pos (by omega)] at e4 e5
              rw [c, am_u_eq, am_u_eq, am_up_eq, am_up_eq, ← c]
              omega
            · rw [if_neg (by omega)] at e4 e5
              rw [am_u_eq, am_u_eq, am_up_ne c, am_up_ne c, am_u_ne (by decide)]
              omega
          · rw [hzz]
            simp (decide := true) only [am_u_at, am_u_j, am_u_ne] at hmi
            rw [pn0 (by omega)] at ihk e2
            refine am_wk [6, 7, 8] ?_
            rw [Int.add_zero] at ihk
            refine ihk _ (by omega) (by omega) (hf.u _ _ rfl) ?_
            intro s hs12
            have hs2 := hs s hs12
            have e4 := e1 s
            have e5 := e2 s
            simp (decide := true) only [am_u_at, am_u_j, am_u_ne]
            by_cases c : s = z.toNat
            · rw [if_pos (by omega)] at e4 e5
              rw [c, am_u_eq, am_up_eq, ← c]
              omega
            · rw [if_neg (by omega)] at e4 e5
              rw [am_u_eq, am_up_ne c]
              omega
        · have hz := es_pz_n gp
          rw [hz] at e1 e2 e3
          rw [if_neg (by omega), Int.add_zero] at e3
          rw [e3] at ihk
          clear x0 x1 x2 x3 p3 p4 p5 ih
          repeat' (first
            | (refine am_gp 80 [6] rfl (by first | exact True.intro | (refine And.intro ?_ ?_ <;> decide) | exact Or.inl rfl | exact Or.inr rfl | (simp (decide := true) only [am_p, am_u_at, am_u_j, am_u_ne]; omega) | (simp (decide := true) only [am_p, and_true, true_and, true_or, or_true, am_u_at, am_u_j, am_u_ne]; omega) | (simp (decide := true) [am_p, am_u_at, am_u_j, am_u_ne]; omega)) ?_)
            | (show am_V _ _ _ _ _ _ _; simp only [Int.reduceToNat])
            | (refine am_bt rfl (by first | omega | (simp (decide := true) only [am_u_at, am_u_j, am_u_ne]; omega)) (by first | omega | (simp (decide := true) only [am_u_at, am_u_j, am_u_ne]; omega)) ?_)
            | (refine am_bf rfl (by first | omega | (simp (decide := true) only [am_u_at, am_u_j, am_u_ne]; omega)) (by first | omega | (simp (decide := true) only [am_u_at, am_u_j, am_u_ne]; omega)) ?_)
            | (refine am_br rfl (by first | omega | (simp (decide := true) only [am_u_at, am_u_j, am_u_ne]; omega)) (fun h => ?_) (fun h => ?_))
            | (refine am_cN (y' := Y_es_outside) rfl lk_pu_32 ok_es_outside rfl rfl (c_outside _ _ _ _ _ (by first | omega | (simp (decide := true) only [am_u_at, am_u_j, am_u_ne]; omega)) (by first | omega | (simp (decide := true) only [am_u_at, am_u_j, am_u_ne]; omega)) (by first | omega | (simp (decide := true) only [am_u_at, am_u_j, am_u_ne]; omega))) ?_; rintro r I ⟨rfl, (⟨rfl, h⟩ | ⟨rfl, h⟩)⟩ <;> (try (exfalso; omega)))
            | (refine am_rt rfl (by first | exact True.intro | (refine And.intro ?_ ?_ <;> decide) | exact Or.inl rfl | exact Or.inr rfl | (show _ ∨ _; omega)) ?_))
          refine am_wk [6] (ihk _ (by omega) (by omega) hf ?_)
          intro s hs12
          have hs2 := hs s hs12
          have e4 := e1 s
          have e5 := e2 s
          rw [if_neg (by omega)] at e4 e5
          omega
      · have ek : k = T := by omega
        subst ek
        clear ih
        repeat' (first
          | (refine am_gp 80 [] rfl (by first | exact True.intro | (refine And.intro ?_ ?_ <;> decide) | exact Or.inl rfl | exact Or.inr rfl | (simp (decide := true) only [am_p, am_u_at, am_u_j, am_u_ne]; omega) | (simp (decide := true) only [am_p, and_true, true_and, true_or, or_true, am_u_at, am_u_j, am_u_ne]; omega) | (simp (decide := true) [am_p, am_u_at, am_u_j, am_u_ne]; omega)) ?_)
          | (show am_V _ _ _ _ _ _ _; simp only [Int.reduceToNat])
          | (refine am_bt rfl (by first | omega | (simp (decide := true) only [am_u_at, am_u_j, am_u_ne]; omega)) (by first | omega | (simp (decide := true) only [am_u_at, am_u_j, am_u_ne]; omega)) ?_)
          | (refine am_bf rfl (by first | omega | (simp (decide := true) only [am_u_at, am_u_j, am_u_ne]; omega)) (by first | omega | (simp (decide := true) only [am_u_at, am_u_j, am_u_ne]; omega)) ?_)
          | (refine am_br rfl (by first | omega | (simp (decide := true) only [am_u_at, am_u_j, am_u_ne]; omega)) (fun h => ?_) (fun h => ?_))
          | (refine am_rt rfl (by first | exact True.intro | (refine And.intro ?_ ?_ <;> decide) | exact Or.inl rfl | exact Or.inr rfl | (show _ ∨ _; omega)) ?_))
        exact ⟨rfl, hf, hs⟩
  repeat' (first
    | (refine am_gp 80 [6] rfl (by first | exact True.intro | (refine And.intro ?_ ?_ <;> decide) | exact Or.inl rfl | exact Or.inr rfl | (simp (decide := true) only [am_p, am_u_at, am_u_j, am_u_ne]; omega) | (simp (decide := true) only [am_p, and_true, true_and, true_or, or_true, am_u_at, am_u_j, am_u_ne]; omega) | (simp (decide := true) [am_p, am_u_at, am_u_j, am_u_ne]; omega)) ?_)
    | (show am_V _ _ _ _ _ _ _; simp only [Int.reduceToNat])
    | (refine am_bt rfl (by first | omega | (simp (decide := true) only [am_u_at, am_u_j, am_u_ne]; omega)) (by first | omega | (simp (decide := true) only [am_u_at, am_u_j, am_u_ne]; omega)) ?_)
    | (refine am_bf rfl (by first | omega | (simp (decide := true) only [am_u_at, am_u_j, am_u_ne]; omega)) (by first | omega | (simp (decide := true) only [am_u_at, am_u_j, am_u_ne]; omega)) ?_)
    | (refine am_br rfl (by first | omega | (simp (decide := true) only [am_u_at, am_u_j, am_u_ne]; omega)) (fun h => ?_) (fun h => ?_))
    | (refine am_rt rfl (by first | exact True.intro | (refine And.intro ?_ ?_ <;> decide) | exact Or.inl rfl | exact Or.inr rfl | (show _ ∨ _; omega)) ?_))
  exact loop (T + 1) 0 I0 (by omega) (by omega) am_fr.rf (fun s _ => ⟨(Int.add_zero _).symm, (Int.add_zero _).symm⟩)
theorem c_pu_enter3 (d : Nat) (I0 : am_I) (M N T : Nat) (hn : es_nc I0) (hM : I0 4 2 = (M : Int)) (hN : I0 1 2 = (N : Int)) (hT : T ≤ 96) (hjT : es_jT (es_Qc I0) M N T) (h7 : I0 23 7 = (T : Int)) (hax : ∀ k : Nat, k < T → es_axc (es_Qc I0) M N I0 k) : am_C (d + 1) Y_pu_enter [.inr (.inr 29), .inl 3, .inr (.inr 23), .inr (.inr 4)] I0 (fun r I' => r = some (.inl (es_lc (es_Qc I0) M N T)) ∧ am_fr I0 I' [34, 41] ∧ ∀ s : Nat, s ≤ 12 → I' 34 s = I0 34 s + es_la (es_Qc I0) M N T s ∧ I' 41 s = I0 41 s + es_lb (es_Qc I0) M N T s) := by
  refine am_enter ok_pu_enter rfl ?_
  have hM4 : M ≤ 24 := by have := hn.1; omega
  have hN4 : N ≤ 24 := by have := hn.2.1; omega
  have loop : ∀ (m k : Nat) (I : am_I), k ≤ T → T - k < m → am_fr I0 I [34, 41] → (∀ s : Nat, s ≤ 12 → I 34 s = I0 34 s + es_la (es_Qc I0) M N k s ∧ I 41 s = I0 41 s + es_lb (es_Qc I0) M N k s) → am_V (d + 1) Y_pu_enter (fun r I' => r = some (.inl (es_lc (es_Qc I0) M N T)) ∧ am_fr I0 I' [34, 41] ∧ ∀ s : Nat, s ≤ 12 → I' 34 s = I0 34 s + es_la (es_Qc I0) M N T s ∧ I' 41 s = I0 41 s + es_lb (es_Qc I0) M N T s) 6 [(0, .inr (.inr 29)), (1, .inl 3), (2, .inr (.inr 23)), (3, .inr (.inr 4)), (4, .inl (es_lc (es_Qc I0) M N k)), (5, .inl (k : Int))] [] I := by
    intro m
    induction m with
    | zero => intro k I h1 h2; omega
    | succ m ih =>
      intro k I h1 h2 hf hs
      have b7 : I 23 7 = (T : Int) := by rw [hf 23 rfl]; exact h7
      have b4 : I 4 2 = (M : Int) := by rw [hf 4 rfl]; exact hM
      refine am_go 1 [] rfl trivial ?_
      by_cases g : k < T
      · obtain ⟨p1, p2, p3, p4, p5, p6⟩ := es_pf hM4 hN4 hjT g
        obtain ⟨x0, x1, x2, x3⟩ := hax k g
        have ek : (k : Int).toNat = k := by omega
        have f25 : I 25 (k : Int).toNat = es_ja (es_Qc I0) M N (es_js (es_Qc I0) M N k) := by rw [hf 25 rfl, ek, x0]
        have f26 : I 26 (k : Int).toNat = es_pi (es_Qc I0) M N k := by rw [hf 26 rfl, ek, x1]; rfl
        have f28 : I 28 (k : Int).toNat = es_a3 (es_Qc I0) (es_js (es_Qc I0) M N k) (es_ja (es_Qc I0) M N (es_js (es_Qc I0) M N k)) := by rw [hf 28 rfl, ek, x3]
        have e1 : ∀ s : Int, es_la (es_Qc I0) M N (k + 1) s = es_la (es_Qc I0) M N k s + (if es_pz (es_Qc I0) M N k = s then 1 else 0) := fun s => rfl
        have e2 : ∀ s : Int, es_lb (es_Qc I0) M N (k + 1) s = es_lb (es_Qc I0) M N k s + (if es_pz (es_Qc I0) M N k = s then es_pn (es_Qc I0) M N k else 0) := fun s => rfl
        have e3 : es_lc (es_Qc I0) M N (k + 1) = es_lc (es_Qc I0) M N k + (if 0 ≤ es_pz (es_Qc I0) M N k then es_pn (es_Qc I0) M N k else 0) := rfl
        have ec : ((k + 1 : Nat) : Int) = (k : Int) + 1 := by omega
        have ihk := ih (k + 1)
        rw [ec] at ihk
        by_cases gp : 0 < es_pi (es_Qc I0) M N k
        · have hz := es_pz_p gp
          have hzr := es_sz_r (es_Qc I0) (es_pi (es_Qc I0) M N k).toNat
          have q1 : I 5 (I 26 (k : Int).toNat).toNat = es_Qc I0 0 (es_pi (es_Qc I0) M N k).toNat := by
            rw [hf 5 rfl, f26, es_Qc0 I0 (by omega)]
          have q2 : I 5 (I 26 (k : Int).toNat - 1).toNat = es_Qc I0 0 ((es_pi (es_Qc I0) M N k).toNat - 1) := by
            rw [hf 5 rfl, f26, es_Qc0 I0 (by omega), show (es_pi (es_Qc I0) M N k - 1).toNat = (es_pi (es_Qc I0) M N k).toNat - 1 by omega]
          have hzz : min (max (I 5 (I 26 (k : Int).toNat).toNat - I 5 (I 26 (k : Int).toNat - 1).toNat) (-(I 5 (I 26 (k : Int).toNat).toNat - I 5 (I 26 (k : Int).toNat - 1).toNat))) 12 = es_pz (es_Qc I0) M N k := by
            rw [hz, q1, q2]
            rfl
          have n3 := hn.2.2.1 (es_pi (es_Qc I0) M N k).toNat (by omega)
          have n4 := hn.2.2.1 ((es_pi (es_Qc I0) M N k).toNat - 1) (by omega)
          have q3 : 0 ≤ I 5 (I 26 (k : Int).toNat).toNat ∧ I 5 (I 26 (k : Int).toNat).toNat ≤ 127 := by rw [q1, es_Qc0 I0 (by omega)]; exact n3.1
          have q4 : 0 ≤ I 5 (I 26 (k : Int).toNat - 1).toNat ∧ I 5 (I 26 (k : Int).toNat - 1).toNat ≤ 127 := by rw [q2, es_Qc0 I0 (by omega)]; exact n4.1
          have hzr2 : 0 ≤ es_pz (es_Qc I0) M N k ∧ es_pz (es_Qc I0) M N k ≤ 12 := by rw [hz]; exact hzr
          have pn1 : (es_ja (es_Qc I0) M N (es_js (es_Qc I0) M N k) = 1 ∨ (es_ja (es_Qc I0) M N (es_js (es_Qc I0) M N k) = 0 ∧ 2 ≤ es_a3 (es_Qc I0) (es_js (es_Qc I0) M N k) (es_ja (es_Qc I0) M N (es_js (es_Qc I0) M N k)))) → es_pn (es_Qc I0) M N k = 1 := fun z => if_pos z
          have pn0 : ¬ (es_ja (es_Qc I0) M N (es_js (es_Qc I0) M N k) = 1 ∨ (es_ja (es_Qc I0) M N (es_js (es_Qc I0) M N k) = 0 ∧ 2 ≤ es_a3 (es_Qc I0) (es_js (es_Qc I0) M N k) (es_ja (es_Qc I0) M N (es_js (es_Qc I0) M N k)))) → es_pn (es_Qc I0) M N k = 0 := fun z => if_neg z
          clear n3 n4 q1 q2 hz hzr x0 x1 x2 x3 p3 p4 p5 ih
          generalize es_pz (es_Qc I0) M N k = z at *
          generalize es_pn (es_Qc I0) M N k = pn at *
          rw [if_pos hzr2.1] at e3
          rw [e3] at ihk
          repeat' (first
            | (refine am_gp 80 [6] rfl (by first | exact True.intro | (refine And.intro ?_ ?_ <;> decide) | exact Or.inl rfl | exact Or.inr rfl | (simp (decide := true) only [am_p, am_u_at, am_u_j, am_u_ne]; omega) | (simp (decide := true) only [am_p, and_true, true_and, true_or, or_true, am_u_at, am_u_j, am_u_ne]; omega) | (simp (decide := true) [am_p, am_u_at, am_u_j, am_u_ne]; omega)) ?_)
            | (show am_V _ _ _ _ _ _ _; simp only [Int.reduceToNat])
            | (refine am_bt rfl (by first | omega | (simp (decide := true) only [am_u_at, am_u_j, am_u_ne]; omega)) (by first | omega | (simp (decide := true) only [am_u_at, am_u_j, am_u_ne]; omega)) ?_)
            | (refine am_bf rfl (by first | omega | (simp (decide := true) only [am_u_at, am_u_j, am_u_ne]; omega)) (by first | omega | (simp (decide := true) only [am_u_at, am_u_j, am_u_ne]; omega)) ?_)
            | (refine am_br rfl (by first | omega | (simp (decide := true) only [am_u_at, am_u_j, am_u_ne]; omega)) (fun h => ?_) (fun h => ?_))
            | (refine am_cN (y' := Y_es_outside) rfl lk_pu_32 ok_es_outside rfl rfl (c_outside _ _ _ _ _ (by first | omega | (simp (decide := true) only [am_u_at, am_u_j, am_u_ne]; omega)) (by first | omega | (simp (decide := true) only [am_u_at, am_u_j, am_u_ne]; omega)) (by first | omega | (simp (decide := true) only [am_u_at, am_u_j, am_u_ne]; omega))) ?_; rintro r I ⟨rfl, (⟨rfl, h⟩ | ⟨rfl, h⟩)⟩ <;> (try (exfalso; omega)))
            | (refine am_absi rfl mk_pu_39 rfl (by first | omega | (simp (decide := true) only [am_u_at, am_u_j, am_u_ne]; omega)) ?_)
            | (refine am_mini rfl mk_pu_45 rfl (by first | omega | (simp (decide := true) only [am_u_at, am_u_j, am_u_ne]; omega)) ?_)
            | (refine am_cV (y' := Y_ju_missed) rfl lk_pu_49 ok_ju_missed rfl rfl rfl (c_ju_missed _ _ _ (by first | omega | (simp (decide := true) only [am_u_at, am_u_j, am_u_ne]; omega)) (by first | omega | (simp (decide := true) only [am_u_at, am_u_j, am_u_ne]; omega)) (by first | omega | (simp (decide := true) only [am_u_at, am_u_j, am_u_ne]; omega))) ?_; rintro r I ⟨rfl, (⟨rfl, hmi⟩ | ⟨rfl, hmi⟩)⟩ <;> (try (exfalso; omega)))
            | (refine am_rt rfl (by first | exact True.intro | (refine And.intro ?_ ?_ <;> decide) | exact Or.inl rfl | exact Or.inr rfl | (show _ ∨ _; omega)) ?_))
          · rw [hzz]
            simp (decide := true) only [am_u_at, am_u_j, am_u_ne] at hmi
            rw [pn1 (by omega)] at ihk e2
            refine am_wk [6, 7, 8] (ihk _ (by omega) (by omega) ((hf.u _ _ rfl).u _ _ rfl) ?_)
            intro s hs12
            have hs2 := hs s hs12
            have e4 := e1 s
            have e5 := e2 s
            simp (decide := true) only [am_u_at, am_u_j, am_u_ne]
            by_cases c : s = z.toNat
            · rw [if_pos (by omega)] at e4 e5
              rw [c, am_u_eq, am_u_eq, am_up_eq, am_up_eq, ← c]
              omega
            · rw [if_neg (by omega)] at e4 e5
              rw [am_u_eq, am_u_eq, am_up_ne c, am_up_ne c, am_u_ne (by decide)]
              omega
          · rw [hzz]
            simp (decide := true) only [am_u_at, am_u_j, am_u_ne] at hmi
            rw [pn0 (by omega)] at ihk e2
            refine am_wk [6, 7, 8] ?_
            rw [Int.add_zero] at ihk
            refine ihk _ (by omega) (by omega) (hf.u _ _ rfl) ?_
            intro s hs12
            have hs2 := hs s hs12
            have e4 := e1 s
            have e5 := e2 s
            simp (decide := true) only [am_u_at, am_u_j, am_u_ne]
            by_cases c : s = z.toNat
            · rw [if_pos (by omega)] at e4 e5
              rw [c, am_u_eq, am_up_eq, ← c]
              omega
            · rw [if_neg (by omega)] at e4 e5
              rw [am_u_eq, am_up_ne c]
              omega
        · have hz := es_pz_n gp
          rw [hz] at e1 e2 e3
          rw [if_neg (by omega), Int.add_zero] at e3
          rw [e3] at ihk
          clear x0 x1 x2 x3 p3 p4 p5 ih
          repeat' (first
            | (refine am_gp 80 [6] rfl (by first | exact True.intro | (refine And.intro ?_ ?_ <;> decide) | exact Or.inl rfl | exact Or.inr rfl | (simp (decide := true) only [am_p, am_u_at, am_u_j, am_u_ne]; omega) | (simp (decide := true) only [am_p, and_true, true_and, true_or, or_true, am_u_at, am_u_j, am_u_ne]; omega) | (simp (decide := true) [am_p, am_u_at, am_u_j, am_u_ne]; omega)) ?_)
            | (show am_V _ _ _ _ _ _ _; simp only [Int.reduceToNat])
            | (refine am_bt rfl (by first | omega | (simp (decide := true) only [am_u_at, am_u_j, am_u_ne]; omega)) (by first | omega | (simp (decide := true) only [am_u_at, am_u_j, am_u_ne]; omega)) ?_)
            | (refine am_bf rfl (by first | omega | (simp (decide := true) only [am_u_at, am_u_j, am_u_ne]; omega)) (by first | omega | (simp (decide := true) only [am_u_at, am_u_j, am_u_ne]; omega)) ?_)
            | (refine am_br rfl (by first | omega | (simp (decide := true) only [am_u_at, am_u_j, am_u_ne]; omega)) (fun h => ?_) (fun h => ?_))
            | (refine am_cN (y' := Y_es_outside) rfl lk_pu_32 ok_es_outside rfl rfl (c_outside _ _ _ _ _ (by first | omega | (simp (decide := true) only [am_u_at, am_u_j, am_u_ne]; omega)) (by first | omega | (simp (decide := true) only [am_u_at, am_u_j, am_u_ne]; omega)) (by first | omega | (simp (decide := true) only [am_u_at, am_u_j, am_u_ne]; omega))) ?_; rintro r I ⟨rfl, (⟨rfl, h⟩ | ⟨rfl, h⟩)⟩ <;> (try (exfalso; omega)))
            | (refine am_rt rfl (by first | exact True.intro | (refine And.intro ?_ ?_ <;> decide) | exact Or.inl rfl | exact Or.inr rfl | (show _ ∨ _; omega)) ?_))
          refine am_wk [6] (ihk _ (by omega) (by omega) hf ?_)
          intro s hs12
          have hs2 := hs s hs12
          have e4 := e1 s
          have e5 := e2 s
          rw [if_neg (by omega)] at e4 e5
          omega
      · have ek : k = T := by omega
        subst ek
        clear ih
        repeat' (first
          | (refine am_gp 80 [] rfl (by first | exact True.intro | (refine And.intro ?_ ?_ <;> decide) | exact Or.inl rfl | exact Or.inr rfl | (simp (decide := true) only [am_p, am_u_at, am_u_j, am_u_ne]; omega) | (simp (decide := true) only [am_p, and_true, true_and, true_or, or_true, am_u_at, am_u_j, am_u_ne]; omega) | (simp (decide := true) [am_p, am_u_at, am_u_j, am_u_ne]; omega)) ?_)
          | (show am_V _ _ _ _ _ _ _; simp only [Int.reduceToNat])
          | (refine am_bt rfl (by first | omega | (simp (decide := true) only [am_u_at, am_u_j, am_u_ne]; omega)) (by first | omega | (simp (decide := true) only [am_u_at, am_u_j, am_u_ne]; omega)) ?_)
          | (refine am_bf rfl (by first | omega | (simp (decide := true) only [am_u_at, am_u_j, am_u_ne]; omega)) (by first | omega | (simp (decide := true) only [am_u_at, am_u_j, am_u_ne]; omega)) ?_)
          | (refine am_br rfl (by first | omega | (simp (decide := true) only [am_u_at, am_u_j, am_u_ne]; omega)) (fun h => ?_) (fun h => ?_))
          | (refine am_rt rfl (by first | exact True.intro | (refine And.intro ?_ ?_ <;> decide) | exact Or.inl rfl | exact Or.inr rfl | (show _ ∨ _; omega)) ?_))
        exact ⟨rfl, hf, hs⟩
  repeat' (first
    | (refine am_gp 80 [6] rfl (by first | exact True.intro | (refine And.intro ?_ ?_ <;> decide) | exact Or.inl rfl | exact Or.inr rfl | (simp (decide := true) only [am_p, am_u_at, am_u_j, am_u_ne]; omega) | (simp (decide := true) only [am_p, and_true, true_and, true_or, or_true, am_u_at, am_u_j, am_u_ne]; omega) | (simp (decide := true) [am_p, am_u_at, am_u_j, am_u_ne]; omega)) ?_)
    | (show am_V _ _ _ _ _ _ _; simp only [Int.reduceToNat])
    | (refine am_bt rfl (by first | omega | (simp (decide := true) only [am_u_at, am_u_j, am_u_ne]; omega)) (by first | omega | (simp (decide := true) only [am_u_at, am_u_j, am_u_ne]; omega)) ?_)
    | (refine am_bf rfl (by first | omega | (simp (decide := true) only [am_u_at, am_u_j, am_u_ne]; omega)) (by first | omega | (simp (decide := true) only [am_u_at, am_u_j, am_u_ne]; omega)) ?_)
    | (refine am_br rfl (by first | omega | (simp (decide := true) only [am_u_at, am_u_j, am_u_ne]; omega)) (fun h => ?_) (fun h => ?_))
    | (refine am_rt rfl (by first | exact True.intro | (refine And.intro ?_ ?_ <;> decide) | exact Or.inl rfl | exact Or.inr rfl | (show _ ∨ _; omega)) ?_))
  exact loop (T + 1) 0 I0 (by omega) (by omega) am_fr.rf (fun s _ => ⟨(Int.add_zero _).symm, (Int.add_zero _).symm⟩)
theorem c_pu_enter4 (d : Nat) (I0 : am_I) (M N T : Nat) (hn : es_nc I0) (hM : I0 4 2 = (M : Int)) (hN : I0 1 2 = (N : Int)) (hT : T ≤ 96) (hjT : es_jT (es_Qc I0) M N T) (h7 : I0 23 7 = (T : Int)) (hax : ∀ k : Nat, k < T → es_axc (es_Qc I0) M N I0 k) : am_C (d + 1) Y_pu_enter [.inr (.inr 29), .inl 4, .inr (.inr 23), .inr (.inr 4)] I0 (fun r I' => r = some (.inl (es_lc (es_Qc I0) M N T)) ∧ am_fr I0 I' [35, 42] ∧ ∀ s : Nat, s ≤ 12 → I' 35 s = I0 35 s + es_la (es_Qc I0) M N T s ∧ I' 42 s = I0 42 s + es_lb (es_Qc I0) M N T s) := by
  refine am_enter ok_pu_enter rfl ?_
  have hM4 : M ≤ 24 := by have := hn.1; omega
  have hN4 : N ≤ 24 := by have := hn.2.1; omega
  have loop : ∀ (m k : Nat) (I : am_I), k ≤ T → T - k < m → am_fr I0 I [35, 42] → (∀ s : Nat, s ≤ 12 → I 35 s = I0 35 s + es_la (es_Qc I0) M N k s ∧ I 42 s = I0 42 s + es_lb (es_Qc I0) M N k s) → am_V (d + 1) Y_pu_enter (fun r I' => r = some (.inl (es_lc (es_Qc I0) M N T)) ∧ am_fr I0 I' [35, 42] ∧ ∀ s : Nat, s ≤ 12 → I' 35 s = I0 35 s + es_la (es_Qc I0) M N T s ∧ I' 42 s = I0 42 s + es_lb (es_Qc I0) M N T s) 6 [(0, .inr (.inr 29)), (1, .inl 4), (2, .inr (.inr 23)), (3, .inr (.inr 4)), (4, .inl (es_lc (es_Qc I0) M N k)), (5, .inl (k : Int))] [] I := by
    intro m
    induction m with
    | zero => intro k I h1 h2; omega
    | succ m ih =>
      intro k I h1 h2 hf hs
      have b7 : I 23 7 = (T : Int) := by rw [hf 23 rfl]; exact h7
      have b4 : I 4 2 = (M : Int) := by rw [hf 4 rfl]; exact hM
      refine am_go 1 [] rfl trivial ?_
      by_cases g : k < T
      · obtain ⟨p1, p2, p3, p4, p5, p6⟩ := es_pf hM4 hN4 hjT g
        obtain ⟨x0, x1, x2, x3⟩ := hax k g
        have ek : (k : Int).toNat = k := by omega
        have f25 : I 25 (k : Int).toNat = es_ja (es_Qc I0) M N (es_js (es_Qc I0) M N k) := by rw [hf 25 rfl, ek, x0]
        have f26 : I 26 (k : Int).toNat = es_pi (es_Qc I0) M N k := by rw [hf 26 rfl, ek, x1]; rfl
        have f28 : I 28 (k : Int).toNat = es_a3 (es_Qc I0) (es_js (es_Qc I0) M N k) (es_ja (es_Qc I0) M N (es_js (es_Qc I0) M N k)) := by rw [hf 28 rfl, ek, x3]
        have e1 : ∀ s : Int, es_la (es_Qc I0) M N (k + 1) s = es_la (es_Qc I0) M N k s + (if es_pz (es_Qc I0) M N k = s then 1 else 0) := fun s => rfl
        have e2 : ∀ s : Int, es_lb (es_Qc I0) M N (k + 1) s = es_lb (es_Qc I0) M N k s + (if es_pz (es_Qc I0) M N k = s then es_pn (es_Qc I0) M N k else 0) := fun s => rfl
        have e3 : es_lc (es_Qc I0) M N (k + 1) = es_lc (es_Qc I0) M N k + (if 0 ≤ es_pz (es_Qc I0) M N k then es_pn (es_Qc I0) M N k else 0) := rfl
        have ec : ((k + 1 : Nat) : Int) = (k : Int) + 1 := by omega
        have ihk := ih (k + 1)
        rw [ec] at ihk
        by_cases gp : 0 < es_pi (es_Qc I0) M N k
        · have hz := es_pz_p gp
          have hzr := es_sz_r (es_Qc I0) (es_pi (es_Qc I0) M N k).toNat
          have q1 : I 5 (I 26 (k : Int).toNat).toNat = es_Qc I0 0 (es_pi (es_Qc I0) M N k).toNat := by
            rw [hf 5 rfl, f26, es_Qc0 I0 (by omega)]
          have q2 : I 5 (I 26 (k : Int).toNat - 1).toNat = es_Qc I0 0 ((es_pi (es_Qc I0) M N k).toNat - 1) := by
            rw [hf 5 rfl, f26, es_Qc0 I0 (by omega), show (es_pi (es_Qc I0) M N k - 1).toNat = (es_pi (es_Qc I0) M N k).toNat - 1 by omega]
          have hzz : min (max (I 5 (I 26 (k : Int).toNat).toNat - I 5 (I 26 (k : Int).toNat - 1).toNat) (-(I 5 (I 26 (k : Int).toNat).toNat - I 5 (I 26 (k : Int).toNat - 1).toNat))) 12 = es_pz (es_Qc I0) M N k := by
            rw [hz, q1, q2]
            rfl
          have n3 := hn.2.2.1 (es_pi (es_Qc I0) M N k).toNat (by omega)
          have n4 := hn.2.2.1 ((es_pi (es_Qc I0) M N k).toNat - 1) (by omega)
          have q3 : 0 ≤ I 5 (I 26 (k : Int).toNat).toNat ∧ I 5 (I 26 (k : Int).toNat).toNat ≤ 127 := by rw [q1, es_Qc0 I0 (by omega)]; exact n3.1
          have q4 : 0 ≤ I 5 (I 26 (k : Int).toNat - 1).toNat ∧ I 5 (I 26 (k : Int).toNat - 1).toNat ≤ 127 := by rw [q2, es_Qc0 I0 (by omega)]; exact n4.1
          have hzr2 : 0 ≤ es_pz (es_Qc I0) M N k ∧ es_pz (es_Qc I0) M N k ≤ 12 := by rw [hz]; exact hzr
          have pn1 : (es_ja (es_Qc I0) M N (es_js (es_Qc I0) M N k) = 1 ∨ (es_ja (es_Qc I0) M N (es_js (es_Qc I0) M N k) = 0 ∧ 2 ≤ es_a3 (es_Qc I0) (es_js (es_Qc I0) M N k) (es_ja (es_Qc I0) M N (es_js (es_Qc I0) M N k)))) → es_pn (es_Qc I0) M N k = 1 := fun z => if_pos z
          have pn0 : ¬ (es_ja (es_Qc I0) M N (es_js (es_Qc I0) M N k) = 1 ∨ (es_ja (es_Qc I0) M N (es_js (es_Qc I0) M N k) = 0 ∧ 2 ≤ es_a3 (es_Qc I0) (es_js (es_Qc I0) M N k) (es_ja (es_Qc I0) M N (es_js (es_Qc I0) M N k)))) → es_pn (es_Qc I0) M N k = 0 := fun z => if_neg z
          clear n3 n4 q1 q2 hz hzr x0 x1 x2 x3 p3 p4 p5 ih
          generalize es_pz (es_Qc I0) M N k = z at *
          generalize es_pn (es_Qc I0) M N k = pn at *
          rw [if_pos hzr2.1] at e3
          rw [e3] at ihk
          repeat' (first
            | (refine am_gp 80 [6] rfl (by first | exact True.intro | (refine And.intro ?_ ?_ <;> decide) | exact Or.inl rfl | exact Or.inr rfl | (simp (decide := true) only [am_p, am_u_at, am_u_j, am_u_ne]; omega) | (simp (decide := true) only [am_p, and_true, true_and, true_or, or_true, am_u_at, am_u_j, am_u_ne]; omega) | (simp (decide := true) [am_p, am_u_at, am_u_j, am_u_ne]; omega)) ?_)
            | (show am_V _ _ _ _ _ _ _; simp only [Int.reduceToNat])
            | (refine am_bt rfl (by first | omega | (simp (decide := true) only [am_u_at, am_u_j, am_u_ne]; omega)) (by first | omega | (simp (decide := true) only [am_u_at, am_u_j, am_u_ne]; omega)) ?_)
            | (refine am_bf rfl (by first | omega | (simp (decide := true) only [am_u_at, am_u_j, am_u_ne]; omega)) (by first | omega | (simp (decide := true) only [am_u_at, am_u_j, am_u_ne]; omega)) ?_)
            | (refine am_br rfl (by first | omega | (simp (decide := true) only [am_u_at, am_u_j, am_u_ne]; omega)) (fun h => ?_) (fun h => ?_))
            | (refine am_cN (y' := Y_es_outside) rfl lk_pu_32 ok_es_outside rfl rfl (c_outside _ _ _ _ _ (by first | omega | (simp (decide := true) only [am_u_at, am_u_j, am_u_ne]; omega)) (by first | omega | (simp (decide := true) only [am_u_at, am_u_j, am_u_ne]; omega)) (by first | omega | (simp (decide := true) only [am_u_at, am_u_j, am_u_ne]; omega))) ?_; rintro r I ⟨rfl, (⟨rfl, h⟩ | ⟨rfl, h⟩)⟩ <;> (try (exfalso; omega)))
            | (refine am_absi rfl mk_pu_39 rfl (by first | omega | (simp (decide := true) only [am_u_at, am_u_j, am_u_ne]; omega)) ?_)
            | (refine am_mini rfl mk_pu_45 rfl (by first | omega | (simp (decide := true) only [am_u_at, am_u_j, am_u_ne]; omega)) ?_)
            | (refine am_cV (y' := Y_ju_missed) rfl lk_pu_49 ok_ju_missed rfl rfl rfl (c_ju_missed _ _ _ (by first | omega | (simp (decide := true) only [am_u_at, am_u_j, am_u_ne]; omega)) (by first | omega | (simp (decide := true) only [am_u_at, am_u_j, am_u_ne]; omega)) (by first | omega | (simp (decide := true) only [am_u_at, am_u_j, am_u_ne]; omega))) ?_; rintro r I ⟨rfl, (⟨rfl, hmi⟩ | ⟨rfl, hmi⟩)⟩ <;> (try (exfalso; omega)))
            | (refine am_rt rfl (by first | exact True.intro | (refine And.intro ?_ ?_ <;> decide) | exact Or.inl rfl | exact Or.inr rfl | (show _ ∨ _; omega)) ?_))
          · rw [hzz]
            simp (decide := true) only [am_u_at, am_u_j, am_u_ne] at hmi
            rw [pn1 (by omega)] at ihk e2
            refine am_wk [6, 7, 8] (ihk _ (by omega) (by omega) ((hf.u _ _ rfl).u _ _ rfl) ?_)
            intro s hs12
            have hs2 := hs s hs12
            have e4 := e1 s
            have e5 := e2 s
            simp (decide := true) only [am_u_at, am_u_j, am_u_ne]
            by_cases c : s = z.toNat
            · rw [if_pos (by omega)] at e4 e5
              rw [c, am_u_eq, am_u_eq, am_up_eq, am_up_eq, ← c]
              omega
            · rw [if_neg (by omega)] at e4 e5
              rw [am_u_eq, am_u_eq, am_up_ne c, am_up_ne c, am_u_ne (by decide)]
              omega
          · rw [hzz]
            simp (decide := true) only [am_u_at, am_u_j, am_u_ne] at hmi
            rw [pn0 (by omega)] at ihk e2
            refine am_wk [6, 7, 8] ?_
            rw [Int.add_zero] at ihk
            refine ihk _ (by omega) (by omega) (hf.u _ _ rfl) ?_
            intro s hs12
            have hs2 := hs s hs12
            have e4 := e1 s
            have e5 := e2 s
            simp (decide := true) only [am_u_at, am_u_j, am_u_ne]
            by_cases c : s = z.toNat
            · rw [if_pos (by omega)] at e4 e5
              rw [c, am_u_eq, am_up_eq, ← c]
              omega
            · rw [if_neg (by omega)] at e4 e5
              rw [am_u_eq, am_up_ne c]
              omega
        · have hz := es_pz_n gp
          rw [hz] at e1 e2 e3
          rw [if_neg (by omega), Int.add_zero] at e3
          rw [e3] at ihk
          clear x0 x1 x2 x3 p3 p4 p5 ih
          repeat' (first
            | (refine am_gp 80 [6] rfl (by first | exact True.intro | (refine And.intro ?_ ?_ <;> decide) | exact Or.inl rfl | exact Or.inr rfl | (simp (decide := true) only [am_p, am_u_at, am_u_j, am_u_ne]; omega) | (simp (decide := true) only [am_p, and_true, true_and, true_or, or_true, am_u_at, am_u_j, am_u_ne]; omega) | (simp (decide := true) [am_p, am_u_at, am_u_j, am_u_ne]; omega)) ?_)
            | (show am_V _ _ _ _ _ _ _; simp only [Int.reduceToNat])
            | (refine am_bt rfl (by first | omega | (simp (decide := true) only [am_u_at, am_u_j, am_u_ne]; omega)) (by first | omega | (simp (decide := true) only [am_u_at, am_u_j, am_u_ne]; omega)) ?_)
            | (refine am_bf rfl (by first | omega | (simp (decide := true) only [am_u_at, am_u_j, am_u_ne]; omega)) (by first | omega | (simp (decide := true) only [am_u_at, am_u_j, am_u_ne]; omega)) ?_)
            | (refine am_br rfl (by first | omega | (simp (decide := true) only [am_u_at, am_u_j, am_u_ne]; omega)) (fun h => ?_) (fun h => ?_))
            | (refine am_cN (y' := Y_es_outside) rfl lk_pu_32 ok_es_outside rfl rfl (c_outside _ _ _ _ _ (by first | omega | (simp (decide := true) only [am_u_at, am_u_j, am_u_ne]; omega)) (by first | omega | (simp (decide := true) only [am_u_at, am_u_j, am_u_ne]; omega)) (by first | omega | (simp (decide := true) only [am_u_at, am_u_j, am_u_ne]; omega))) ?_; rintro r I ⟨rfl, (⟨rfl, h⟩ | ⟨rfl, h⟩)⟩ <;> (try (exfalso; omega)))
            | (refine am_rt rfl (by first | exact True.intro | (refine And.intro ?_ ?_ <;> decide) | exact Or.inl rfl | exact Or.inr rfl | (show _ ∨ _; omega)) ?_))
          refine am_wk [6] (ihk _ (by omega) (by omega) hf ?_)
          intro s hs12
          have hs2 := hs s hs12
          have e4 := e1 s
          have e5 := e2 s
          rw [if_neg (by omega)] at e4 e5
          omega
      · have ek : k = T := by omega
        subst ek
        clear ih
        repeat' (first
          | (refine am_gp 80 [] rfl (by first | exact True.intro | (refine And.intro ?_ ?_ <;> decide) | exact Or.inl rfl | exact Or.inr rfl | (simp (decide := true) only [am_p, am_u_at, am_u_j, am_u_ne]; omega) | (simp (decide := true) only [am_p, and_true, true_and, true_or, or_true, am_u_at, am_u_j, am_u_ne]; omega) | (simp (decide := true) [am_p, am_u_at, am_u_j, am_u_ne]; omega)) ?_)
          | (show am_V _ _ _ _ _ _ _; simp only [Int.reduceToNat])
          | (refine am_bt rfl (by first | omega | (simp (decide := true) only [am_u_at, am_u_j, am_u_ne]; omega)) (by first | omega | (simp (decide := true) only [am_u_at, am_u_j, am_u_ne]; omega)) ?_)
          | (refine am_bf rfl (by first | omega | (simp (decide := true) only [am_u_at, am_u_j, am_u_ne]; omega)) (by first | omega | (simp (decide := true) only [am_u_at, am_u_j, am_u_ne]; omega)) ?_)
          | (refine am_br rfl (by first | omega | (simp (decide := true) only [am_u_at, am_u_j, am_u_ne]; omega)) (fun h => ?_) (fun h => ?_))
          | (refine am_rt rfl (by first | exact True.intro | (refine And.intro ?_ ?_ <;> decide) | exact Or.inl rfl | exact Or.inr rfl | (show _ ∨ _; omega)) ?_))
        exact ⟨rfl, hf, hs⟩
  repeat' (first
    | (refine am_gp 80 [6] rfl (by first | exact True.intro | (refine And.intro ?_ ?_ <;> decide) | exact Or.inl rfl | exact Or.inr rfl | (simp (decide := true) only [am_p, am_u_at, am_u_j, am_u_ne]; omega) | (simp (decide := true) only [am_p, and_true, true_and, true_or, or_true, am_u_at, am_u_j, am_u_ne]; omega) | (simp (decide := true) [am_p, am_u_at, am_u_j, am_u_ne]; omega)) ?_)
    | (show am_V _ _ _ _ _ _ _; simp only [Int.reduceToNat])
    | (refine am_bt rfl (by first | omega | (simp (decide := true) only [am_u_at, am_u_j, am_u_ne]; omega)) (by first | omega | (simp (decide := true) only [am_u_at, am_u_j, am_u_ne]; omega)) ?_)
    | (refine am_bf rfl (by first | omega | (simp (decide := true) only [am_u_at, am_u_j, am_u_ne]; omega)) (by first | omega | (simp (decide := true) only [am_u_at, am_u_j, am_u_ne]; omega)) ?_)
    | (refine am_br rfl (by first | omega | (simp (decide := true) only [am_u_at, am_u_j, am_u_ne]; omega)) (fun h => ?_) (fun h => ?_))
    | (refine am_rt rfl (by first | exact True.intro | (refine And.intro ?_ ?_ <;> decide) | exact Or.inl rfl | exact Or.inr rfl | (show _ ∨ _; omega)) ?_))
  exact loop (T + 1) 0 I0 (by omega) (by omega) am_fr.rf (fun s _ => ⟨(Int.add_zero _).symm, (Int.add_zero _).symm⟩)
theorem c_pu_enter5 (d : Nat) (I0 : am_I) (M N T : Nat) (hn : es_nc I0) (hM : I0 4 2 = (M : Int)) (hN : I0 1 2 = (N : Int)) (hT : T ≤ 96) (hjT : es_jT (es_Qc I0) M N T) (h7 : I0 23 7 = (T : Int)) (hax : ∀ k : Nat, k < T → es_axc (es_Qc I0) M N I0 k) : am_C (d + 1) Y_pu_enter [.inr (.inr 29), .inl 5, .inr (.inr 23), .inr (.inr 4)] I0 (fun r I' => r = some (.inl (es_lc (es_Qc I0) M N T)) ∧ am_fr I0 I' [36, 43] ∧ ∀ s : Nat, s ≤ 12 → I' 36 s = I0 36 s + es_la (es_Qc I0) M N T s ∧ I' 43 s = I0 43 s + es_lb (es_Qc I0) M N T s) := by
  refine am_enter ok_pu_enter rfl ?_
  have hM4 : M ≤ 24 := by have := hn.1; omega
  have hN4 : N ≤ 24 := by have := hn.2.1; omega
  have loop : ∀ (m k : Nat) (I : am_I), k ≤ T → T - k < m → am_fr I0 I [36, 43] → (∀ s : Nat, s ≤ 12 → I 36 s = I0 36 s + es_la (es_Qc I0) M N k s ∧ I 43 s = I0 43 s + es_lb (es_Qc I0) M N k s) → am_V (d + 1) Y_pu_enter (fun r I' => r = some (.inl (es_lc (es_Qc I0) M N T)) ∧ am_fr I0 I' [36, 43] ∧ ∀ s : Nat, s ≤ 12 → I' 36 s = I0 36 s + es_la (es_Qc I0) M N T s ∧ I' 43 s = I0 43 s + es_lb (es_Qc I0) M N T s) 6 [(0, .inr (.inr 29)), (1, .inl 5), (2, .inr (.inr 23)), (3, .inr (.inr 4)), (4, .inl (es_lc (es_Qc I0) M N k)), (5, .inl (k : Int))] [] I := by
    intro m
    induction m with
    | zero => intro k I h1 h2; omega
    | succ m ih =>
      intro k I h1 h2 hf hs
      have b7 : I 23 7 = (T : Int) := by rw [hf 23 rfl]; exact h7
      have b4 : I 4 2 = (M : Int) := by rw [hf 4 rfl]; exact hM
      refine am_go 1 [] rfl trivial ?_
      by_cases g : k < T
      · obtain ⟨p1, p2, p3, p4, p5, p6⟩ := es_pf hM4 hN4 hjT g
        obtain ⟨x0, x1, x2, x3⟩ := hax k g
        have ek : (k : Int).toNat = k := by omega
        have f25 : I 25 (k : Int).toNat = es_ja (es_Qc I0) M N (es_js (es_Qc I0) M N k) := by rw [hf 25 rfl, ek, x0]
        have f26 : I 26 (k : Int).toNat = es_pi (es_Qc I0) M N k := by rw [hf 26 rfl, ek, x1]; rfl
        have f28 : I 28 (k : Int).toNat = es_a3 (es_Qc I0) (es_js (es_Qc I0) M N k) (es_ja (es_Qc I0) M N (es_js (es_Qc I0) M N k)) := by rw [hf 28 rfl, ek, x3]
        have e1 : ∀ s : Int, es_la (es_Qc I0) M N (k + 1) s = es_la (es_Qc I0) M N k s + (if es_pz (es_Qc I0) M N k = s then 1 else 0) := fun s => rfl
        have e2 : ∀ s : Int, es_lb (es_Qc I0) M N (k + 1) s = es_lb (es_Qc I0) M N k s + (if es_pz (es_Qc I0) M N k = s then es_pn (es_Qc I0) M N k else 0) := fun s => rfl
        have e3 : es_lc (es_Qc I0) M N (k + 1) = es_lc (es_Qc I0) M N k + (if 0 ≤ es_pz (es_Qc I0) M N k then es_pn (es_Qc I0) M N k else 0) := rfl
        have ec : ((k + 1 : Nat) : Int) = (k : Int) + 1 := by omega
        have ihk := ih (k + 1)
        rw [ec] at ihk
        by_cases gp : 0 < es_pi (es_Qc I0) M N k
        · have hz := es_pz_p gp
          have hzr := es_sz_r (es_Qc I0) (es_pi (es_Qc I0) M N k).toNat
          have q1 : I 5 (I 26 (k : Int).toNat).toNat = es_Qc I0 0 (es_pi (es_Qc I0) M N k).toNat := by
            rw [hf 5 rfl, f26, es_Qc0 I0 (by omega)]
          have q2 : I 5 (I 26 (k : Int).toNat - 1).toNat = es_Qc I0 0 ((es_pi (es_Qc I0) M N k).toNat - 1) := by
            rw [hf 5 rfl, f26, es_Qc0 I0 (by omega), show (es_pi (es_Qc I0) M N k - 1).toNat = (es_pi (es_Qc I0) M N k).toNat - 1 by omega]
          have hzz : min (max (I 5 (I 26 (k : Int).toNat).toNat - I 5 (I 26 (k : Int).toNat - 1).toNat) (-(I 5 (I 26 (k : Int).toNat).toNat - I 5 (I 26 (k : Int).toNat - 1).toNat))) 12 = es_pz (es_Qc I0) M N k := by
            rw [hz, q1, q2]
            rfl
          have n3 := hn.2.2.1 (es_pi (es_Qc I0) M N k).toNat (by omega)
          have n4 := hn.2.2.1 ((es_pi (es_Qc I0) M N k).toNat - 1) (by omega)
          have q3 : 0 ≤ I 5 (I 26 (k : Int).toNat).toNat ∧ I 5 (I 26 (k : Int).toNat).toNat ≤ 127 := by rw [q1, es_Qc0 I0 (by omega)]; exact n3.1
          have q4 : 0 ≤ I 5 (I 26 (k : Int).toNat - 1).toNat ∧ I 5 (I 26 (k : Int).toNat - 1).toNat ≤ 127 := by rw [q2, es_Qc0 I0 (by omega)]; exact n4.1
          have hzr2 : 0 ≤ es_pz (es_Qc I0) M N k ∧ es_pz (es_Qc I0) M N k ≤ 12 := by rw [hz]; exact hzr
          have pn1 : (es_ja (es_Qc I0) M N (es_js (es_Qc I0) M N k) = 1 ∨ (es_ja (es_Qc I0) M N (es_js (es_Qc I0) M N k) = 0 ∧ 2 ≤ es_a3 (es_Qc I0) (es_js (es_Qc I0) M N k) (es_ja (es_Qc I0) M N (es_js (es_Qc I0) M N k)))) → es_pn (es_Qc I0) M N k = 1 := fun z => if_pos z
          have pn0 : ¬ (es_ja (es_Qc I0) M N (es_js (es_Qc I0) M N k) = 1 ∨ (es_ja (es_Qc I0) M N (es_js (es_Qc I0) M N k) = 0 ∧ 2 ≤ es_a3 (es_Qc I0) (es_js (es_Qc I0) M N k) (es_ja (es_Qc I0) M N (es_js (es_Qc I0) M N k)))) → es_pn (es_Qc I0) M N k = 0 := fun z => if_neg z
          clear n3 n4 q1 q2 hz hzr x0 x1 x2 x3 p3 p4 p5 ih
          generalize es_pz (es_Qc I0) M N k = z at *
          generalize es_pn (es_Qc I0) M N k = pn at *
          rw [if_pos hzr2.1] at e3
          rw [e3] at ihk
          repeat' (first
            | (refine am_gp 80 [6] rfl (by first | exact True.intro | (refine And.intro ?_ ?_ <;> decide) | exact Or.inl rfl | exact Or.inr rfl | (simp (decide := true) only [am_p, am_u_at, am_u_j, am_u_ne]; omega) | (simp (decide := true) only [am_p, and_true, true_and, true_or, or_true, am_u_at, am_u_j, am_u_ne]; omega) | (simp (decide := true) [am_p, am_u_at, am_u_j, am_u_ne]; omega)) ?_)
            | (show am_V _ _ _ _ _ _ _; simp only [Int.reduceToNat])
            | (refine am_bt rfl (by first | omega | (simp (decide := true) only [am_u_at, am_u_j, am_u_ne]; omega)) (by first | omega | (simp (decide := true) only [am_u_at, am_u_j, am_u_ne]; omega)) ?_)
            | (refine am_bf rfl (by first | omega | (simp (decide := true) only [am_u_at, am_u_j, am_u_ne]; omega)) (by first | omega | (simp (decide := true) only [am_u_at, am_u_j, am_u_ne]; omega)) ?_)
            | (refine am_br rfl (by first | omega | (simp (decide := true) only [am_u_at, am_u_j, am_u_ne]; omega)) (fun h => ?_) (fun h => ?_))
            | (refine am_cN (y' := Y_es_outside) rfl lk_pu_32 ok_es_outside rfl rfl (c_outside _ _ _ _ _ (by first | omega | (simp (decide := true) only [am_u_at, am_u_j, am_u_ne]; omega)) (by first | omega | (simp (decide := true) only [am_u_at, am_u_j, am_u_ne]; omega)) (by first | omega | (simp (decide := true) only [am_u_at, am_u_j, am_u_ne]; omega))) ?_; rintro r I ⟨rfl, (⟨rfl, h⟩ | ⟨rfl, h⟩)⟩ <;> (try (exfalso; omega)))
            | (refine am_absi rfl mk_pu_39 rfl (by first | omega | (simp (decide := true) only [am_u_at, am_u_j, am_u_ne]; omega)) ?_)
            | (refine am_mini rfl mk_pu_45 rfl (by first | omega | (simp (decide := true) only [am_u_at, am_u_j, am_u_ne]; omega)) ?_)
            | (refine am_cV (y' := Y_ju_missed) rfl lk_pu_49 ok_ju_missed rfl rfl rfl (c_ju_missed _ _ _ (by first | omega | (simp (decide := true) only [am_u_at, am_u_j, am_u_ne]; omega)) (by first | omega | (simp (decide := true) only [am_u_at, am_u_j, am_u_ne]; omega)) (by first | omega | (simp (decide := true) only [am_u_at, am_u_j, am_u_ne]; omega))) ?_; rintro r I ⟨rfl, (⟨rfl, hmi⟩ | ⟨rfl, hmi⟩)⟩ <;> (try (exfalso; omega)))
            | (refine am_rt rfl (by first | exact True.intro | (refine And.intro ?_ ?_ <;> decide) | exact Or.inl rfl | exact Or.inr rfl | (show _ ∨ _; omega)) ?_))
          · rw [hzz]
            simp (decide := true) only [am_u_at, am_u_j, am_u_ne] at hmi
            rw [pn1 (by omega)] at ihk e2
            refine am_wk [6, 7, 8] (ihk _ (by omega) (by omega) ((hf.u _ _ rfl).u _ _ rfl) ?_)
            intro s hs12
            have hs2 := hs s hs12
            have e4 := e1 s
            have e5 := e2 s
            simp (decide := true) only [am_u_at, am_u_j, am_u_ne]
            by_cases c : s = z.toNat
            · rw [if_pos (by omega)] at e4 e5
              rw [c, am_u_eq, am_u_eq, am_up_eq, am_up_eq, ← c]
              omega
            · rw [if_neg (by omega)] at e4 e5
              rw [am_u_eq, am_u_eq, am_up_ne c, am_up_ne c, am_u_ne (by decide)]
              omega
          · rw [hzz]
            simp (decide := true) only [am_u_at, am_u_j, am_u_ne] at hmi
            rw [pn0 (by omega)] at ihk e2
            refine am_wk [6, 7, 8] ?_
            rw [Int.add_zero] at ihk
            refine ihk _ (by omega) (by omega) (hf.u _ _ rfl) ?_
            intro s hs12
            have hs2 := hs s hs12
            have e4 := e1 s
            have e5 := e2 s
            simp (decide := true) only [am_u_at, am_u_j, am_u_ne]
            by_cases c : s = z.toNat
            · rw [if_pos (by omega)] at e4 e5
              rw [c, am_u_eq, am_up_eq, ← c]
              omega
            · rw [if_neg (by omega)] at e4 e5
              rw [am_u_eq, am_up_ne c]
              omega
        · have hz := es_pz_n gp
          rw [hz] at e1 e2 e3
          rw [if_neg (by omega), Int.add_zero] at e3
          rw [e3] at ihk
          clear x0 x1 x2 x3 p3 p4 p5 ih
          repeat' (first
            | (refine am_gp 80 [6] rfl (by first | exact True.intro | (refine And.intro ?_ ?_ <;> decide) | exact Or.inl rfl | exact Or.inr rfl | (simp (decide := true) only [am_p, am_u_at, am_u_j, am_u_ne]; omega) | (simp (decide := true) only [am_p, and_true, true_and, true_or, or_true, am_u_at, am_u_j, am_u_ne]; omega) | (simp (decide := true) [am_p, am_u_at, am_u_j, am_u_ne]; omega)) ?_)
            | (show am_V _ _ _ _ _ _ _; simp only [Int.reduceToNat])
            | (refine am_bt rfl (by first | omega | (simp (decide := true) only [am_u_at, am_u_j, am_u_ne]; omega)) (by first | omega | (simp (decide := true) only [am_u_at, am_u_j, am_u_ne]; omega)) ?_)
            | (refine am_bf rfl (by first | omega | (simp (decide := true) only [am_u_at, am_u_j, am_u_ne]; omega)) (by first | omega | (simp (decide := true) only [am_u_at, am_u_j, am_u_ne]; omega)) ?_)
            | (refine am_br rfl (by first | omega | (simp (decide := true) only [am_u_at, am_u_j, am_u_ne]; omega)) (fun h => ?_) (fun h => ?_))
            | (refine am_cN (y' := Y_es_outside) rfl lk_pu_32 ok_es_outside rfl rfl (c_outside _ _ _ _ _ (by first | omega | (simp (decide := true) only [am_u_at, am_u_j, am_u_ne]; omega)) (by first | omega | (simp (decide := true) only [am_u_at, am_u_j, am_u_ne]; omega)) (by first | omega | (simp (decide := true) only [am_u_at, am_u_j, am_u_ne]; omega))) ?_; rintro r I ⟨rfl, (⟨rfl, h⟩ | ⟨rfl, h⟩)⟩ <;> (try (exfalso; omega)))
            | (refine am_rt rfl (by first | exact True.intro | (refine And.intro ?_ ?_ <;> decide) | exact Or.inl rfl | exact Or.inr rfl | (show _ ∨ _; omega)) ?_))
          refine am_wk [6] (ihk _ (by omega) (by omega) hf ?_)
          intro s hs12
          have hs2 := hs s hs12
          have e4 := e1 s
          have e5 := e2 s
          rw [if_neg (by omega)] at e4 e5
          omega
      · have ek : k = T := by omega
        subst ek
        clear ih
        repeat' (first
          | (refine am_gp 80 [] rfl (by first | exact True.intro | (refine And.intro ?_ ?_ <;> decide) | exact Or.inl rfl | exact Or.inr rfl | (simp (decide := true) only [am_p, am_u_at, am_u_j, am_u_ne]; omega) | (simp (decide := true) only [am_p, and_true, true_and, true_or, or_true, am_u_at, am_u_j, am_u_ne]; omega) | (simp (decide := true) [am_p, am_u_at, am_u_j, am_u_ne]; omega)) ?_)
          | (show am_V _ _ _ _ _ _ _; simp only [Int.reduceToNat])
          | (refine am_bt rfl (by first | omega | (simp (decide := true) only [am_u_at, am_u_j, am_u_ne]; omega)) (by first | omega | (simp (decide := true) only [am_u_at, am_u_j, am_u_ne]; omega)) ?_)
          | (refine am_bf rfl (by first | omega | (simp (decide := true) only [am_u_at, am_u_j, am_u_ne]; omega)) (by first | omega | (simp (decide := true) only [am_u_at, am_u_j, am_u_ne]; omega)) ?_)
          | (refine am_br rfl (by first | omega | (simp (decide := true) only [am_u_at, am_u_j, am_u_ne]; omega)) (fun h => ?_) (fun h => ?_))
          | (refine am_rt rfl (by first | exact True.intro | (refine And.intro ?_ ?_ <;> decide) | exact Or.inl rfl | exact Or.inr rfl | (show _ ∨ _; omega)) ?_))
        exact ⟨rfl, hf, hs⟩
  repeat' (first
    | (refine am_gp 80 [6] rfl (by first | exact True.intro | (refine And.intro ?_ ?_ <;> decide) | exact Or.inl rfl | exact Or.inr rfl | (simp (decide := true) only [am_p, am_u_at, am_u_j, am_u_ne]; omega) | (simp (decide := true) only [am_p, and_true, true_and, true_or, or_true, am_u_at, am_u_j, am_u_ne]; omega) | (simp (decide := true) [am_p, am_u_at, am_u_j, am_u_ne]; omega)) ?_)
    | (show am_V _ _ _ _ _ _ _; simp only [Int.reduceToNat])
    | (refine am_bt rfl (by first | omega | (simp (decide := true) only [am_u_at, am_u_j, am_u_ne]; omega)) (by first | omega | (simp (decide := true) only [am_u_at, am_u_j, am_u_ne]; omega)) ?_)
    | (refine am_bf rfl (by first | omega | (simp (decide := true) only [am_u_at, am_u_j, am_u_ne]; omega)) (by first | omega | (simp (decide := true) only [am_u_at, am_u_j, am_u_ne]; omega)) ?_)
    | (refine am_br rfl (by first | omega | (simp (decide := true) only [am_u_at, am_u_j, am_u_ne]; omega)) (fun h => ?_) (fun h => ?_))
    | (refine am_rt rfl (by first | exact True.intro | (refine And.intro ?_ ?_ <;> decide) | exact Or.inl rfl | exact Or.inr rfl | (show _ ∨ _; omega)) ?_))
  exact loop (T + 1) 0 I0 (by omega) (by omega) am_fr.rf (fun s _ => ⟨(Int.add_zero _).symm, (Int.add_zero _).symm⟩)
theorem c_es_learn (d : Nat) (p : Int) (I0 : am_I) (M N T : Nat) (hp : (-2147483648 ≤ p ∧ p < 2147483648)) (hn : es_nc I0) (hM : I0 4 2 = (M : Int)) (hN : I0 1 2 = (N : Int)) (hst : 0 ≤ I0 23 9 ∧ I0 23 9 ≤ 1) (hJ : I0 23 9 = 1 → T ≤ 96 ∧ es_jT (es_Qc I0) M N T ∧ I0 23 7 = (T : Int) ∧ ∀ k : Nat, k < T → es_axc (es_Qc I0) M N I0 k) : am_C (d + 2) Y_es_learn [.inr (.inr 0), .inl p] I0 (fun r I' => (¬ (0 ≤ p ∧ p ≤ 5) ∧ r = some (.inl (-2)) ∧ I' = I0) ∨ (((0 ≤ p ∧ p ≤ 5) ∧ I0 23 9 = 0) ∧ r = some (.inl (-3)) ∧ I' = I0) ∨ (((0 ≤ p ∧ p ≤ 5) ∧ I0 23 9 = 1) ∧ r = some (.inl (es_lc (es_Qc I0) M N T)) ∧ am_fr I0 I' [31 + p.toNat, 38 + p.toNat] ∧ ∀ s : Nat, s ≤ 12 → I' (31 + p.toNat) s = I0 (31 + p.toNat) s + es_la (es_Qc I0) M N T s ∧ I' (38 + p.toNat) s = I0 (38 + p.toNat) s + es_lb (es_Qc I0) M N T s)) := by
  refine am_enter ok_es_learn rfl ?_
  by_cases h9 : I0 23 9 = 1
  · obtain ⟨hT, hjT, h7, hax⟩ := hJ h9
    by_cases hp5 : 0 ≤ p ∧ p ≤ 5
    · have h6 : p = 0 ∨ p = 1 ∨ p = 2 ∨ p = 3 ∨ p = 4 ∨ p = 5 := by omega
      rcases h6 with rfl | rfl | rfl | rfl | rfl | rfl
      · skip
        repeat' (first
          | (refine am_gp 80 [] rfl (by first | exact True.intro | (refine And.intro ?_ ?_ <;> decide) | exact Or.inl rfl | exact Or.inr rfl | (simp (decide := true) only [am_p, am_u_at, am_u_j, am_u_ne]; omega) | (simp (decide := true) only [am_p, and_true, true_and, true_or, or_true, am_u_at, am_u_j, am_u_ne]; omega) | (simp (decide := true) [am_p, am_u_at, am_u_j, am_u_ne]; omega)) ?_)
          | (show am_V _ _ _ _ _ _ _; simp only [Int.reduceToNat])
          | (refine am_bt rfl (by first | omega | (simp (decide := true) only [am_u_at, am_u_j, am_u_ne]; omega)) (by first | omega | (simp (decide := true) only [am_u_at, am_u_j, am_u_ne]; omega)) ?_)
          | (refine am_bf rfl (by first | omega | (simp (decide := true) only [am_u_at, am_u_j, am_u_ne]; omega)) (by first | omega | (simp (decide := true) only [am_u_at, am_u_j, am_u_ne]; omega)) ?_)
          | (refine am_br rfl (by first | omega | (simp (decide := true) only [am_u_at, am_u_j, am_u_ne]; omega)) (fun h => ?_) (fun h => ?_))
          | (refine am_cS (y' := Y_es_outside) rfl lk_es_72 ok_es_outside rfl rfl (c_outside _ _ _ _ _ (by first | omega | (simp (decide := true) only [am_u_at, am_u_j, am_u_ne]; omega)) (by first | omega | (simp (decide := true) only [am_u_at, am_u_j, am_u_ne]; omega)) (by first | omega | (simp (decide := true) only [am_u_at, am_u_j, am_u_ne]; omega))) ?_; rintro r I ⟨rfl, (⟨rfl, h⟩ | ⟨rfl, h⟩)⟩ <;> (try (exfalso; omega)))
          | (refine am_cV (y' := Y_pu_enter) rfl lk_es_209 ok_pu_enter rfl rfl rfl (c_pu_enter0 _ _ _ _ _ hn hM hN (by first | omega | (simp (decide := true) only [am_u_at, am_u_j, am_u_ne]; omega)) (by assumption) (by first | omega | (simp (decide := true) only [am_u_at, am_u_j, am_u_ne]; omega)) (by assumption)) ?_; rintro r I ⟨rfl, hfrE, hasE⟩)
          | (refine am_rt rfl (by first | exact True.intro | (refine And.intro ?_ ?_ <;> decide) | exact Or.inl rfl | exact Or.inr rfl | (show _ ∨ _; omega)) ?_))
        exact Or.inr (Or.inr ⟨⟨hp5, h9⟩, rfl, hfrE, hasE⟩)
      · skip
        repeat' (first
          | (refine am_gp 80 [] rfl (by first | exact True.intro | (refine And.intro ?_ ?_ <;> decide) | exact Or.inl rfl | exact Or.inr rfl | (simp (decide := true) only [am_p, am_u_at, am_u_j, am_u_ne]; omega) | (simp (decide := true) only [am_p, and_true, true_and, true_or, or_true, am_u_at, am_u_j, am_u_ne]; omega) | (simp (decide := true) [am_p, am_u_at, am_u_j, am_u_ne]; omega)) ?_)
          | (show am_V _ _ _ _ _ _ _; simp only [Int.reduceToNat])
          | (refine am_bt rfl (by first | omega | (simp (decide := true) only [am_u_at, am_u_j, am_u_ne]; omega)) (by first | omega | (simp (decide := true) only [am_u_at, am_u_j, am_u_ne]; omega)) ?_)
          | (refine am_bf rfl (by first | omega | (simp (decide := true) only [am_u_at, am_u_j, am_u_ne]; omega)) (by first | omega | (simp (decide := true) only [am_u_at, am_u_j, am_u_ne]; omega)) ?_)
          | (refine am_br rfl (by first | omega | (simp (decide := true) only [am_u_at, am_u_j, am_u_ne]; omega)) (fun h => ?_) (fun h => ?_))
          | (refine am_cS (y' := Y_es_outside) rfl lk_es_72 ok_es_outside rfl rfl (c_outside _ _ _ _ _ (by first | omega | (simp (decide := true) only [am_u_at, am_u_j, am_u_ne]; omega)) (by first | omega | (simp (decide := true) only [am_u_at, am_u_j, am_u_ne]; omega)) (by first | omega | (simp (decide := true) only [am_u_at, am_u_j, am_u_ne]; omega))) ?_; rintro r I ⟨rfl, (⟨rfl, h⟩ | ⟨rfl, h⟩)⟩ <;> (try (exfalso; omega)))
          | (refine am_cV (y' := Y_pu_enter) rfl lk_es_209 ok_pu_enter rfl rfl rfl (c_pu_enter1 _ _ _ _ _ hn hM hN (by first | omega | (simp (decide := true) only [am_u_at, am_u_j, am_u_ne]; omega)) (by assumption) (by first | omega | (simp (decide := true) only [am_u_at, am_u_j, am_u_ne]; omega)) (by assumption)) ?_; rintro r I ⟨rfl, hfrE, hasE⟩)
          | (refine am_rt rfl (by first | exact True.intro | (refine And.intro ?_ ?_ <;> decide) | exact Or.inl rfl | exact Or.inr rfl | (show _ ∨ _; omega)) ?_))
        exact Or.inr (Or.inr ⟨⟨hp5, h9⟩, rfl, hfrE, hasE⟩)
      · skip
        repeat' (first
          | (refine am_gp 80 [] rfl (by first | exact True.intro | (refine And.intro ?_ ?_ <;> decide) | exact Or.inl rfl | exact Or.inr rfl | (simp (decide := true) only [am_p, am_u_at, am_u_j, am_u_ne]; omega) | (simp (decide := true) only [am_p, and_true, true_and, true_or, or_true, am_u_at, am_u_j, am_u_ne]; omega) | (simp (decide := true) [am_p, am_u_at, am_u_j, am_u_ne]; omega)) ?_)
          | (show am_V _ _ _ _ _ _ _; simp only [Int.reduceToNat])
          | (refine am_bt rfl (by first | omega | (simp (decide := true) only [am_u_at, am_u_j, am_u_ne]; omega)) (by first | omega | (simp (decide := true) only [am_u_at, am_u_j, am_u_ne]; omega)) ?_)
          | (refine am_bf rfl (by first | omega | (simp (decide := true) only [am_u_at, am_u_j, am_u_ne]; omega)) (by first | omega | (simp (decide := true) only [am_u_at, am_u_j, am_u_ne]; omega)) ?_)
          | (refine am_br rfl (by first | omega | (simp (decide := true) only [am_u_at, am_u_j, am_u_ne]; omega)) (fun h => ?_) (fun h => ?_))
          | (refine am_cS (y' := Y_es_outside) rfl lk_es_72 ok_es_outside rfl rfl (c_outside _ _ _ _ _ (by first | omega | (simp (decide := true) only [am_u_at, am_u_j, am_u_ne]; omega)) (by first | omega | (simp (decide := true) only [am_u_at, am_u_j, am_u_ne]; omega)) (by first | omega | (simp (decide := true) only [am_u_at, am_u_j, am_u_ne]; omega))) ?_; rintro r I ⟨rfl, (⟨rfl, h⟩ | ⟨rfl, h⟩)⟩ <;> (try (exfalso; omega)))
          | (refine am_cV (y' := Y_pu_enter) rfl lk_es_209 ok_pu_enter rfl rfl rfl (c_pu_enter2 _ _ _ _ _ hn hM hN (by first | omega | (simp (decide := true) only [am_u_at, am_u_j, am_u_ne]; omega)) (by assumption) (by first | omega | (simp (decide := true) only [am_u_at, am_u_j, am_u_ne]; omega)) (by assumption)) ?_; rintro r I ⟨rfl, hfrE, hasE⟩)
          | (refine am_rt rfl (by first | exact True.intro | (refine And.intro ?_ ?_ <;> decide) | exact Or.inl rfl | exact Or.inr rfl | (show _ ∨ _; omega)) ?_))
        exact Or.inr (Or.inr ⟨⟨hp5, h9⟩, rfl, hfrE, hasE⟩)
      · skip
        repeat' (first
          | (refine am_gp 80 [] rfl (by first | exact True.intro | (refine And.intro ?_ ?_ <;> decide) | exact Or.inl rfl | exact Or.inr rfl | (simp (decide := true) only [am_p, am_u_at, am_u_j, am_u_ne]; omega) | (simp (decide := true) only [am_p, and_true, true_and, true_or, or_true, am_u_at, am_u_j, am_u_ne]; omega) | (simp (decide := true) [am_p, am_u_at, am_u_j, am_u_ne]; omega)) ?_)
          | (show am_V _ _ _ _ _ _ _; simp only [Int.reduceToNat])
          | (refine am_bt rfl (by first | omega | (simp (decide := true) only [am_u_at, am_u_j, am_u_ne]; omega)) (by first | omega | (simp (decide := true) only [am_u_at, am_u_j, am_u_ne]; omega)) ?_)
          | (refine am_bf rfl (by first | omega | (simp (decide := true) only [am_u_at, am_u_j, am_u_ne]; omega)) (by first | omega | (simp (decide := true) only [am_u_at, am_u_j, am_u_ne]; omega)) ?_)
          | (refine am_br rfl (by first | omega | (simp (decide := true) only [am_u_at, am_u_j, am_u_ne]; omega)) (fun h => ?_) (fun h => ?_))
          | (refine am_cS (y' := Y_es_outside) rfl lk_es_72 ok_es_outside rfl rfl (c_outside _ _ _ _ _ (by first | omega | (simp (decide := true) only [am_u_at, am_u_j, am_u_ne]; omega)) (by first | omega | (simp (decide := true) only [am_u_at, am_u_j, am_u_ne]; omega)) (by first | omega | (simp (decide := true) only [am_u_at, am_u_j, am_u_ne]; omega))) ?_; rintro r I ⟨rfl, (⟨rfl, h⟩ | ⟨rfl, h⟩)⟩ <;> (try (exfalso; omega)))
          | (refine am_cV (y' := Y_pu_enter) rfl lk_es_209 ok_pu_enter rfl rfl rfl (c_pu_enter3 _ _ _ _ _ hn hM hN (by first | omega | (simp (decide := true) only [am_u_at, am_u_j, am_u_ne]; omega)) (by assumption) (by first | omega | (simp (decide := true) only [am_u_at, am_u_j, am_u_ne]; omega)) (by assumption)) ?_; rintro r I ⟨rfl, hfrE, hasE⟩)
          | (refine am_rt rfl (by first | exact True.intro | (refine And.intro ?_ ?_ <;> decide) | exact Or.inl rfl | exact Or.inr rfl | (show _ ∨ _; omega)) ?_))
        exact Or.inr (Or.inr ⟨⟨hp5, h9⟩, rfl, hfrE, hasE⟩)
      · skip
        repeat' (first
          | (refine am_gp 80 [] rfl (by first | exact True.intro | (refine And.intro ?_ ?_ <;> decide) | exact Or.inl rfl | exact Or.inr rfl | (simp (decide := true) only [am_p, am_u_at, am_u_j, am_u_ne]; omega) | (simp (decide := true) only [am_p, and_true, true_and, true_or, or_true, am_u_at, am_u_j, am_u_ne]; omega) | (simp (decide := true) [am_p, am_u_at, am_u_j, am_u_ne]; omega)) ?_)
          | (show am_V _ _ _ _ _ _ _; simp only [Int.reduceToNat])
          | (refine am_bt rfl (by first | omega | (simp (decide := true) only [am_u_at, am_u_j, am_u_ne]; omega)) (by first | omega | (simp (decide := true) only [am_u_at, am_u_j, am_u_ne]; omega)) ?_)
          | (refine am_bf rfl (by first | omega | (simp (decide := true) only [am_u_at, am_u_j, am_u_ne]; omega)) (by first | omega | (simp (decide := true) only [am_u_at, am_u_j, am_u_ne]; omega)) ?_)
          | (refine am_br rfl (by first | omega | (simp (decide := true) only [am_u_at, am_u_j, am_u_ne]; omega)) (fun h => ?_) (fun h => ?_))
          | (refine am_cS (y' := Y_es_outside) rfl lk_es_72 ok_es_outside rfl rfl (c_outside _ _ _ _ _ (by first | omega | (simp (decide := true) only [am_u_at, am_u_j, am_u_ne]; omega)) (by first | omega | (simp (decide := true) only [am_u_at, am_u_j, am_u_ne]; omega)) (by first | omega | (simp (decide := true) only [am_u_at, am_u_j, am_u_ne]; omega))) ?_; rintro r I ⟨rfl, (⟨rfl, h⟩ | ⟨rfl, h⟩)⟩ <;> (try (exfalso; omega)))
          | (refine am_cV (y' := Y_pu_enter) rfl lk_es_209 ok_pu_enter rfl rfl rfl (c_pu_enter4 _ _ _ _ _ hn hM hN (by first | omega | (simp (decide := true) only [am_u_at, am_u_j, am_u_ne]; omega)) (by assumption) (by first | omega | (simp (decide := true) only [am_u_at, am_u_j, am_u_ne]; omega)) (by assumption)) ?_; rintro r I ⟨rfl, hfrE, hasE⟩)
          | (refine am_rt rfl (by first | exact True.intro | (refine And.intro ?_ ?_ <;> decide) | exact Or.inl rfl | exact Or.inr rfl | (show _ ∨ _; omega)) ?_))
        exact Or.inr (Or.inr ⟨⟨hp5, h9⟩, rfl, hfrE, hasE⟩)
      · skip
        repeat' (first
          | (refine am_gp 80 [] rfl (by first | exact True.intro | (refine And.intro ?_ ?_ <;> decide) | exact Or.inl rfl | exact Or.inr rfl | (simp (decide := true) only [am_p, am_u_at, am_u_j, am_u_ne]; omega) | (simp (decide := true) only [am_p, and_true, true_and, true_or, or_true, am_u_at, am_u_j, am_u_ne]; omega) | (simp (decide := true) [am_p, am_u_at, am_u_j, am_u_ne]; omega)) ?_)
          | (show am_V _ _ _ _ _ _ _; simp only [Int.reduceToNat])
          | (refine am_bt rfl (by first | omega | (simp (decide := true) only [am_u_at, am_u_j, am_u_ne]; omega)) (by first | omega | (simp (decide := true) only [am_u_at, am_u_j, am_u_ne]; omega)) ?_)
          | (refine am_bf rfl (by first | omega | (simp (decide := true) only [am_u_at, am_u_j, am_u_ne]; omega)) (by first | omega | (simp (decide := true) only [am_u_at, am_u_j, am_u_ne]; omega)) ?_)
          | (refine am_br rfl (by first | omega | (simp (decide := true) only [am_u_at, am_u_j, am_u_ne]; omega)) (fun h => ?_) (fun h => ?_))
          | (refine am_cS (y' := Y_es_outside) rfl lk_es_72 ok_es_outside rfl rfl (c_outside _ _ _ _ _ (by first | omega | (simp (decide := true) only [am_u_at, am_u_j, am_u_ne]; omega)) (by first | omega | (simp (decide := true) only [am_u_at, am_u_j, am_u_ne]; omega)) (by first | omega | (simp (decide := true) only [am_u_at, am_u_j, am_u_ne]; omega))) ?_; rintro r I ⟨rfl, (⟨rfl, h⟩ | ⟨rfl, h⟩)⟩ <;> (try (exfalso; omega)))
          | (refine am_cV (y' := Y_pu_enter) rfl lk_es_209 ok_pu_enter rfl rfl rfl (c_pu_enter5 _ _ _ _ _ hn hM hN (by first | omega | (simp (decide := true) only [am_u_at, am_u_j, am_u_ne]; omega)) (by assumption) (by first | omega | (simp (decide := true) only [am_u_at, am_u_j, am_u_ne]; omega)) (by assumption)) ?_; rintro r I ⟨rfl, hfrE, hasE⟩)
          | (refine am_rt rfl (by first | exact True.intro | (refine And.intro ?_ ?_ <;> decide) | exact Or.inl rfl | exact Or.inr rfl | (show _ ∨ _; omega)) ?_))
        exact Or.inr (Or.inr ⟨⟨hp5, h9⟩, rfl, hfrE, hasE⟩)
    · skip
      repeat' (first
        | (refine am_gp 80 [] rfl (by first | exact True.intro | (refine And.intro ?_ ?_ <;> decide) | exact Or.inl rfl | exact Or.inr rfl | (simp (decide := true) only [am_p, am_u_at, am_u_j, am_u_ne]; omega) | (simp (decide := true) only [am_p, and_true, true_and, true_or, or_true, am_u_at, am_u_j, am_u_ne]; omega) | (simp (decide := true) [am_p, am_u_at, am_u_j, am_u_ne]; omega)) ?_)
        | (show am_V _ _ _ _ _ _ _; simp only [Int.reduceToNat])
        | (refine am_bt rfl (by first | omega | (simp (decide := true) only [am_u_at, am_u_j, am_u_ne]; omega)) (by first | omega | (simp (decide := true) only [am_u_at, am_u_j, am_u_ne]; omega)) ?_)
        | (refine am_bf rfl (by first | omega | (simp (decide := true) only [am_u_at, am_u_j, am_u_ne]; omega)) (by first | omega | (simp (decide := true) only [am_u_at, am_u_j, am_u_ne]; omega)) ?_)
        | (refine am_br rfl (by first | omega | (simp (decide := true) only [am_u_at, am_u_j, am_u_ne]; omega)) (fun h => ?_) (fun h => ?_))
        | (refine am_cS (y' := Y_es_outside) rfl lk_es_72 ok_es_outside rfl rfl (c_outside _ _ _ _ _ (by first | omega | (simp (decide := true) only [am_u_at, am_u_j, am_u_ne]; omega)) (by first | omega | (simp (decide := true) only [am_u_at, am_u_j, am_u_ne]; omega)) (by first | omega | (simp (decide := true) only [am_u_at, am_u_j, am_u_ne]; omega))) ?_; rintro r I ⟨rfl, (⟨rfl, h⟩ | ⟨rfl, h⟩)⟩ <;> (try (exfalso; omega)))
        | (refine am_rt rfl (by first | exact True.intro | (refine And.intro ?_ ?_ <;> decide) | exact Or.inl rfl | exact Or.inr rfl | (show _ ∨ _; omega)) ?_))
      exact Or.inl ⟨by omega, rfl, rfl⟩
  · skip
    repeat' (first
      | (refine am_gp 80 [] rfl (by first | exact True.intro | (refine And.intro ?_ ?_ <;> decide) | exact Or.inl rfl | exact Or.inr rfl | (simp (decide := true) only [am_p, am_u_at, am_u_j, am_u_ne]; omega) | (simp (decide := true) only [am_p, and_true, true_and, true_or, or_true, am_u_at, am_u_j, am_u_ne]; omega) | (simp (decide := true) [am_p, am_u_at, am_u_j, am_u_ne]; omega)) ?_)
      | (show am_V _ _ _ _ _ _ _; simp only [Int.reduceToNat])
      | (refine am_bt rfl (by first | omega | (simp (decide := true) only [am_u_at, am_u_j, am_u_ne]; omega)) (by first | omega | (simp (decide := true) only [am_u_at, am_u_j, am_u_ne]; omega)) ?_)
      | (refine am_bf rfl (by first | omega | (simp (decide := true) only [am_u_at, am_u_j, am_u_ne]; omega)) (by first | omega | (simp (decide := true) only [am_u_at, am_u_j, am_u_ne]; omega)) ?_)
      | (refine am_br rfl (by first | omega | (simp (decide := true) only [am_u_at, am_u_j, am_u_ne]; omega)) (fun h => ?_) (fun h => ?_))
      | (refine am_cS (y' := Y_es_outside) rfl lk_es_72 ok_es_outside rfl rfl (c_outside _ _ _ _ _ (by first | omega | (simp (decide := true) only [am_u_at, am_u_j, am_u_ne]; omega)) (by first | omega | (simp (decide := true) only [am_u_at, am_u_j, am_u_ne]; omega)) (by first | omega | (simp (decide := true) only [am_u_at, am_u_j, am_u_ne]; omega))) ?_; rintro r I ⟨rfl, (⟨rfl, h⟩ | ⟨rfl, h⟩)⟩ <;> (try (exfalso; omega)))
      | (refine am_rt rfl (by first | exact True.intro | (refine And.intro ?_ ?_ <;> decide) | exact Or.inl rfl | exact Or.inr rfl | (show _ ∨ _; omega)) ?_))
    all_goals first
      | exact Or.inl ⟨by omega, rfl, rfl⟩
      | exact Or.inr (Or.inl ⟨by omega, rfl, rfl⟩)
