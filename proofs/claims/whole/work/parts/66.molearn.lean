def es_lA (Q : Nat → Nat → Int) (M N : Nat) (p : Int) (k : Nat) (x : Nat) : Int := if 13 * p ≤ (x : Int) ∧ (x : Int) ≤ 13 * p + 12 then es_la Q M N k ((x : Int) - 13 * p) else 0
def es_lB (Q : Nat → Nat → Int) (M N : Nat) (p : Int) (k : Nat) (x : Nat) : Int := if 13 * p ≤ (x : Int) ∧ (x : Int) ≤ 13 * p + 12 then es_lb Q M N k ((x : Int) - 13 * p) else 0
theorem es_lA_s (Q : Nat → Nat → Int) (M N : Nat) (p : Int) (k x : Nat) (hz : es_pz Q M N k ≤ 12) : es_lA Q M N p (k + 1) x = es_lA Q M N p k x + (if 0 ≤ es_pz Q M N k ∧ (x : Int) = 13 * p + es_pz Q M N k then 1 else 0) ∧ es_lB Q M N p (k + 1) x = es_lB Q M N p k x + (if 0 ≤ es_pz Q M N k ∧ (x : Int) = 13 * p + es_pz Q M N k then es_pn Q M N k else 0) := by
  have e1 : es_la Q M N (k + 1) ((x : Int) - 13 * p) = es_la Q M N k ((x : Int) - 13 * p) + (if es_pz Q M N k = (x : Int) - 13 * p then 1 else 0) := rfl
  have e2 : es_lb Q M N (k + 1) ((x : Int) - 13 * p) = es_lb Q M N k ((x : Int) - 13 * p) + (if es_pz Q M N k = (x : Int) - 13 * p then es_pn Q M N k else 0) := rfl
  unfold es_lA es_lB
  by_cases c : 13 * p ≤ (x : Int) ∧ (x : Int) ≤ 13 * p + 12
  · rw [if_pos c, if_pos c, if_pos c, if_pos c, e1, e2]
    by_cases c2 : es_pz Q M N k = (x : Int) - 13 * p
    · rw [if_pos c2, if_pos c2, if_pos (by omega), if_pos (by omega)]
      exact ⟨rfl, rfl⟩
    · rw [if_neg c2, if_neg c2, if_neg (by omega), if_neg (by omega)]
      exact ⟨rfl, rfl⟩
  · rw [if_neg c, if_neg c, if_neg c, if_neg c, if_neg (by omega), if_neg (by omega)]
    exact ⟨rfl, rfl⟩
theorem es_pz_r (Q : Nat → Nat → Int) (M N k : Nat) : -1 ≤ es_pz Q M N k ∧ es_pz Q M N k ≤ 12 := by
  by_cases c : 0 < es_pi Q M N k
  · rw [es_pz_p c]
    have := es_sz_r Q (es_pi Q M N k).toNat
    omega
  · rw [es_pz_n c]
    omega
theorem c_mo_learn (d : Nat) (p : Int) (I0 : am_I) (M N T : Nat) (hp : (-2147483648 ≤ p ∧ p < 2147483648)) (hn : es_nm I0) (hM : I0 44 3 = (M : Int)) (hN : I0 44 0 = (N : Int)) (hst : 0 ≤ I0 44 6 ∧ I0 44 6 ≤ 1) (hJ : I0 44 6 = 1 → T ≤ 96 ∧ es_jT (es_Qm I0) M N T ∧ I0 44 32 = (T : Int) ∧ ∀ k : Nat, k < T → es_ax (es_Qm I0) M N I0 k) : am_C (d + 1) Y_mo_learn [.inr (.inr 44), .inl p] I0 (fun r I' => (¬ (0 ≤ p ∧ p ≤ 5) ∧ r = some (.inl (-2)) ∧ I' = I0) ∨ (((0 ≤ p ∧ p ≤ 5) ∧ I0 44 6 = 0) ∧ r = some (.inl (-3)) ∧ I' = I0) ∨ (((0 ≤ p ∧ p ≤ 5) ∧ I0 44 6 = 1) ∧ r = some (.inl (es_lc (es_Qm I0) M N T)) ∧ am_fr I0 I' [52, 53] ∧ ∀ x : Nat, I' 52 x = I0 52 x + es_lA (es_Qm I0) M N p T x ∧ I' 53 x = I0 53 x + es_lB (es_Qm I0) M N p T x)) := by
  refine am_enter ok_mo_learn rfl ?_
  by_cases hp5 : 0 ≤ p ∧ p ≤ 5
  · by_cases h9 : I0 44 6 = 1
    · obtain ⟨hT, hjT, h7, hax⟩ := hJ h9
      have hM4 : M ≤ 24 := by have := hn.1; omega
      have hN4 : N ≤ 24 := by have := hn.2.1; omega
      have loop : ∀ (m k : Nat) (I : am_I), k ≤ T → T - k < m → am_fr I0 I [52, 53] → (∀ x : Nat, I 52 x = I0 52 x + es_lA (es_Qm I0) M N p k x ∧ I 53 x = I0 53 x + es_lB (es_Qm I0) M N p k x) → am_V (d + 1) Y_mo_learn (fun r I' => (¬ (0 ≤ p ∧ p ≤ 5) ∧ r = some (.inl (-2)) ∧ I' = I0) ∨ (((0 ≤ p ∧ p ≤ 5) ∧ I0 44 6 = 0) ∧ r = some (.inl (-3)) ∧ I' = I0) ∨ (((0 ≤ p ∧ p ≤ 5) ∧ I0 44 6 = 1) ∧ r = some (.inl (es_lc (es_Qm I0) M N T)) ∧ am_fr I0 I' [52, 53] ∧ ∀ x : Nat, I' 52 x = I0 52 x + es_lA (es_Qm I0) M N p T x ∧ I' 53 x = I0 53 x + es_lB (es_Qm I0) M N p T x)) 29 [(0, .inr (.inr 44)), (1, .inl p), (2, .inl (es_lc (es_Qm I0) M N k)), (3, .inl (k : Int))] [] I := by
        intro m
        induction m with
        | zero => intro k I h1 h2; omega
        | succ m ih =>
          intro k I h1 h2 hf hs
          have b7 : I 44 32 = (T : Int) := by rw [hf 44 rfl]; exact h7
          refine am_go 1 [] rfl trivial ?_
          by_cases g : k < T
          · obtain ⟨p1, p2, p3, p4, p5, p6⟩ := es_pf hM4 hN4 hjT g
            obtain ⟨x0, x1, x2, x3, x4⟩ := hax k g
            have ek : (k : Int).toNat = k := by omega
            have f60 : I 60 (k : Int).toNat = es_ja (es_Qm I0) M N (es_js (es_Qm I0) M N k) := by rw [hf 60 rfl, ek, x0]
            have f61 : I 61 (k : Int).toNat = es_pi (es_Qm I0) M N k := by rw [hf 61 rfl, ek, x1]; rfl
            have f62 : es_ja (es_Qm I0) M N (es_js (es_Qm I0) M N k) = 0 → I 62 (k : Int).toNat = ((es_js (es_Qm I0) M N k).2.1 : Int) := by
              intro z
              rw [hf 62 rfl, ek, x2]
              exact if_pos (Or.inl z)
            have f64 : I 64 (k : Int).toNat = (es_js (es_Qm I0) M N k).2.2.1 := by rw [hf 64 rfl, ek, x4]
            have hA : ∀ x : Nat, _ := fun x => es_lA_s (es_Qm I0) M N p k x (es_pz_r (es_Qm I0) M N k).2
            have e3 : es_lc (es_Qm I0) M N (k + 1) = es_lc (es_Qm I0) M N k + (if 0 ≤ es_pz (es_Qm I0) M N k then es_pn (es_Qm I0) M N k else 0) := rfl
            have ec : ((k + 1 : Nat) : Int) = (k : Int) + 1 := by omega
            have ihk := ih (k + 1)
            rw [ec, e3] at ihk
            clear ih
            by_cases gp : 0 < es_pi (es_Qm I0) M N k
            · have hz := es_pz_p gp
              have hzr := es_sz_r (es_Qm I0) (es_pi (es_Qm I0) M N k).toNat
              have p3' := p3 gp
              have q1 : I 47 (I 61 (k : Int).toNat).toNat = es_Qm I0 0 (es_pi (es_Qm I0) M N k).toNat := by
                rw [hf 47 rfl, f61, es_Qm0 I0 (by omega)]
              have q2 : I 47 (I 61 (k : Int).toNat - 1).toNat = es_Qm I0 0 ((es_pi (es_Qm I0) M N k).toNat - 1) := by
                rw [hf 47 rfl, f61, es_Qm0 I0 (by omega), show (es_pi (es_Qm I0) M N k - 1).toNat = (es_pi (es_Qm I0) M N k).toNat - 1 by omega]
              have q5 : es_ja (es_Qm I0) M N (es_js (es_Qm I0) M N k) = 0 → I 45 (I 62 (k : Int).toNat).toNat = es_Qm I0 2 (es_js (es_Qm I0) M N k).2.1 ∧ (0 ≤ I 45 (I 62 (k : Int).toNat).toNat ∧ I 45 (I 62 (k : Int).toNat).toNat ≤ 127) := by
                intro z
                have z2 := p4 z
                have z3 : ((es_js (es_Qm I0) M N k).2.1 : Int) < I0 44 0 := by omega
                rw [hf 45 rfl, f62 z, es_Qm2 I0 z3, show (((es_js (es_Qm I0) M N k).2.1 : Nat) : Int).toNat = (es_js (es_Qm I0) M N k).2.1 by omega]
                exact ⟨rfl, (hn.2.2.2 _ z3).1⟩
              have hzz : es_pz (es_Qm I0) M N k = min (max (I 47 (I 61 (k : Int).toNat).toNat - I 47 (I 61 (k : Int).toNat - 1).toNat) (-(I 47 (I 61 (k : Int).toNat).toNat - I 47 (I 61 (k : Int).toNat - 1).toNat))) 12 := by
                rw [hz, q1, q2]
                rfl
              have n3 := hn.2.2.1 (es_pi (es_Qm I0) M N k).toNat (by omega)
              have n4 := hn.2.2.1 ((es_pi (es_Qm I0) M N k).toNat - 1) (by omega)
              have q3 : 0 ≤ I 47 (I 61 (k : Int).toNat).toNat ∧ I 47 (I 61 (k : Int).toNat).toNat ≤ 127 := by rw [q1, es_Qm0 I0 (by omega)]; exact n3.1
              have q4 : 0 ≤ I 47 (I 61 (k : Int).toNat - 1).toNat ∧ I 47 (I 61 (k : Int).toNat - 1).toNat ≤ 127 := by rw [q2, es_Qm0 I0 (by omega)]; exact n4.1
              have pn1 : I 60 (k : Int).toNat = 1 → es_pn (es_Qm I0) M N k = 1 := fun z => es_pn_1 (by omega)
              have pn0 : es_ja (es_Qm I0) M N (es_js (es_Qm I0) M N k) = 0 → es_pn (es_Qm I0) M N k = if I 45 (I 62 (k : Int).toNat).toNat = I 47 (I 61 (k : Int).toNat).toNat + I 64 (k : Int).toNat then 0 else 1 := by
                intro z
                rw [es_pn_0 z, (q5 z).1, q1, f64, p3'.2, show (((es_js (es_Qm I0) M N k).1 : Nat) : Int).toNat = (es_js (es_Qm I0) M N k).1 by omega]
              have pn2 : ¬ I 60 (k : Int).toNat = 1 → I 45 (I 62 (k : Int).toNat).toNat = I 47 (I 61 (k : Int).toNat).toNat + I 64 (k : Int).toNat → es_pn (es_Qm I0) M N k = 0 := by
                intro z z2
                rw [pn0 (by omega), if_pos z2]
              have pn3 : ¬ I 60 (k : Int).toNat = 1 → ¬ I 45 (I 62 (k : Int).toNat).toNat = I 47 (I 61 (k : Int).toNat).toNat + I 64 (k : Int).toNat → es_pn (es_Qm I0) M N k = 1 := by
                intro z z2
                rw [pn0 (by omega), if_neg z2]
              have q6 : ¬ I 60 (k : Int).toNat = 1 → (0 ≤ I 45 (I 62 (k : Int).toNat).toNat ∧ I 45 (I 62 (k : Int).toNat).toNat ≤ 127) ∧ (0 ≤ I 62 (k : Int).toNat ∧ I 62 (k : Int).toNat < 24) := by
                intro z
                have z2 := f62 (by omega)
                have z3 := p4 (by omega)
                exact ⟨(q5 (by omega)).2, by omega⟩
              have hzr2 : 0 ≤ es_pz (es_Qm I0) M N k ∧ es_pz (es_Qm I0) M N k ≤ 12 := by rw [hz]; exact hzr
              rw [if_pos hzr2.1] at ihk
              clear n3 n4 q1 q2 hz hzr x0 x1 x2 x3 p3 p4 q5 pn0 f62 e3
              have fin : ∀ (a v : Int), a = 13 * p + es_pz (es_Qm I0) M N k → v = es_pn (es_Qm I0) M N k → am_V (d + 1) Y_mo_learn (fun r I' => (¬ (0 ≤ p ∧ p ≤ 5) ∧ r = some (.inl (-2)) ∧ I' = I0) ∨ (((0 ≤ p ∧ p ≤ 5) ∧ I0 44 6 = 0) ∧ r = some (.inl (-3)) ∧ I' = I0) ∨ (((0 ≤ p ∧ p ≤ 5) ∧ I0 44 6 = 1) ∧ r = some (.inl (es_lc (es_Qm I0) M N T)) ∧ am_fr I0 I' [52, 53] ∧ ∀ x : Nat, I' 52 x = I0 52 x + es_lA (es_Qm I0) M N p T x ∧ I' 53 x = I0 53 x + es_lB (es_Qm I0) M N p T x)) 29 [(0, .inr (.inr 44)), (1, .inl p), (2, .inl (es_lc (es_Qm I0) M N k + v)), (3, .inl ((k : Int) + 1))] [] (am_u (am_u I 52 a.toNat (I 52 a.toNat + 1)) 53 a.toNat (I 53 a.toNat + v)) := by
                intro a v ha hv
                rw [hv]
                refine ihk _ (by omega) (by omega) ((hf.u _ _ rfl).u _ _ rfl) ?_
                intro x
                have hs2 := hs x
                have hs3 := hs a.toNat
                have hA2 := hA x
                rw [am_u_ne (by decide), am_u_eq, am_u_eq, am_u_ne (by decide)]
                by_cases c : x = a.toNat
                · rw [if_pos (by omega), if_pos (by omega)] at hA2
                  rw [c, am_up_eq, am_up_eq, ← c]
                  omega
                · rw [if_neg (by omega), if_neg (by omega)] at hA2
                  rw [am_up_ne c, am_up_ne c]
                  omega
              clear ihk hA hs
              generalize es_pz (es_Qm I0) M N k = z at *
              generalize es_pn (es_Qm I0) M N k = pn at *
              repeat' (first
                | (refine am_gp 80 [29] rfl (by first | exact True.intro | (refine And.intro ?_ ?_ <;> decide) | exact Or.inl rfl | exact Or.inr rfl | (simp (decide := true) only [am_p, am_u_at, am_u_j, am_u_ne]; omega) | (simp (decide := true) only [am_p, and_true, true_and, true_or, or_true, am_u_at, am_u_j, am_u_ne]; omega) | (simp (decide := true) [am_p, am_u_at, am_u_j, am_u_ne]; omega)) ?_)
                | (show am_V _ _ _ _ _ _ _; simp only [Int.reduceToNat])
                | (refine am_bt rfl (by first | omega | (simp (decide := true) only [am_u_at, am_u_j, am_u_ne]; omega)) (by first | omega | (simp (decide := true) only [am_u_at, am_u_j, am_u_ne]; omega)) ?_)
                | (refine am_bf rfl (by first | omega | (simp (decide := true) only [am_u_at, am_u_j, am_u_ne]; omega)) (by first | omega | (simp (decide := true) only [am_u_at, am_u_j, am_u_ne]; omega)) ?_)
                | (refine am_br rfl (by first | omega | (simp (decide := true) only [am_u_at, am_u_j, am_u_ne]; omega)) (fun h => ?_) (fun h => ?_))
                | (refine am_rt rfl (by first | exact True.intro | (refine And.intro ?_ ?_ <;> decide) | exact Or.inl rfl | exact Or.inr rfl | (show _ ∨ _; omega)) ?_))
              all_goals (refine am_wk [4, 5, 6, 7, 8] ?_)
              all_goals (simp (decide := true) only [am_u_at, am_u_j, am_u_ne])
              all_goals (exact fin _ _ (by omega) (by omega))
            · have hz := es_pz_n gp
              rw [hz] at ihk
              rw [if_neg (by omega), Int.add_zero] at ihk
              clear x0 x1 x2 x3 x4 p3 p4 p5 f62
              repeat' (first
                | (refine am_gp 80 [29] rfl (by first | exact True.intro | (refine And.intro ?_ ?_ <;> decide) | exact Or.inl rfl | exact Or.inr rfl | (simp (decide := true) only [am_p, am_u_at, am_u_j, am_u_ne]; omega) | (simp (decide := true) only [am_p, and_true, true_and, true_or, or_true, am_u_at, am_u_j, am_u_ne]; omega) | (simp (decide := true) [am_p, am_u_at, am_u_j, am_u_ne]; omega)) ?_)
                | (show am_V _ _ _ _ _ _ _; simp only [Int.reduceToNat])
                | (refine am_bt rfl (by first | omega | (simp (decide := true) only [am_u_at, am_u_j, am_u_ne]; omega)) (by first | omega | (simp (decide := true) only [am_u_at, am_u_j, am_u_ne]; omega)) ?_)
                | (refine am_bf rfl (by first | omega | (simp (decide := true) only [am_u_at, am_u_j, am_u_ne]; omega)) (by first | omega | (simp (decide := true) only [am_u_at, am_u_j, am_u_ne]; omega)) ?_)
                | (refine am_br rfl (by first | omega | (simp (decide := true) only [am_u_at, am_u_j, am_u_ne]; omega)) (fun h => ?_) (fun h => ?_))
                | (refine am_rt rfl (by first | exact True.intro | (refine And.intro ?_ ?_ <;> decide) | exact Or.inl rfl | exact Or.inr rfl | (show _ ∨ _; omega)) ?_))
              refine am_wk [4] (ihk _ (by omega) (by omega) hf ?_)
              intro x
              have hs2 := hs x
              have hA2 := hA x
              rw [hz, if_neg (by omega), if_neg (by omega)] at hA2
              omega
          · have ek : k = T := by omega
            subst ek
            clear ih
            repeat' (first
              | (refine am_gp 80 [] rfl (by first | exact True.intro | (refine And.intro ?_ ?_ <;> decide) | exact Or.inl rfl | exact Or.inr rfl | (simp (decide := true) only [am_p, am_u_at, am_u_j, am_u_ne]; omega) | (simp (decide := true) only [am_p, and_true, true_and, true_or, or_true, am_u_at, am_u_j, am_u_ne]; omega) | (simp (decide := true) [am_p, am_u_at, am_u_j, am_u_ne]; omega)) ?_)
              | (show am_V _ _ _ _ _ _ _; simp only [Int.reduceToNat])
              | (refine am_bt rfl (by first | omega | (simp (decide := true) only [am_u_at, am_u_j, am_u_ne]; omega)) (by first | omega | (simp (decide := true) only [am_u_at, am_u_j, am_u_ne]; omega)) ?_)
              | (refine am_bf rfl (by first | omega | (simp (decide := true) only [am_u_at, am_u_j, am_u_ne]; omega)) (by first | omega | (simp (decide := true) only [am_u_at, am_u_j, am_u_ne]; omega)) ?_)
              | (refine am_br rfl (by first | omega | (simp (decide := true) only [am_u_at, am_u_j, am_u_ne]; omega)) (fun h => ?_) (fun h => ?_))
              | (refine am_rt rfl (by first | exact True.intro | (refine And.intro ?_ ?_ <;> decide) | exact Or.inl rfl | exact Or.inr rfl | (show _ ∨ _; omega)) ?_))
            exact Or.inr (Or.inr ⟨⟨hp5, h9⟩, rfl, hf, hs⟩)
      repeat' (first
        | (refine am_gp 80 [29] rfl (by first | exact True.intro | (refine And.intro ?_ ?_ <;> decide) | exact Or.inl rfl | exact Or.inr rfl | (simp (decide := true) only [am_p, am_u_at, am_u_j, am_u_ne]; omega) | (simp (decide := true) only [am_p, and_true, true_and, true_or, or_true, am_u_at, am_u_j, am_u_ne]; omega) | (simp (decide := true) [am_p, am_u_at, am_u_j, am_u_ne]; omega)) ?_)
        | (show am_V _ _ _ _ _ _ _; simp only [Int.reduceToNat])
        | (refine am_bt rfl (by first | omega | (simp (decide := true) only [am_u_at, am_u_j, am_u_ne]; omega)) (by first | omega | (simp (decide := true) only [am_u_at, am_u_j, am_u_ne]; omega)) ?_)
        | (refine am_bf rfl (by first | omega | (simp (decide := true) only [am_u_at, am_u_j, am_u_ne]; omega)) (by first | omega | (simp (decide := true) only [am_u_at, am_u_j, am_u_ne]; omega)) ?_)
        | (refine am_br rfl (by first | omega | (simp (decide := true) only [am_u_at, am_u_j, am_u_ne]; omega)) (fun h => ?_) (fun h => ?_))
        | (refine am_cS (y' := Y_mo_in) rfl lk_mo_114 ok_mo_in rfl rfl (c_mo_in _ _ _ _ _ (by first | omega | (simp (decide := true) only [am_u_at, am_u_j, am_u_ne]; omega)) (by first | omega | (simp (decide := true) only [am_u_at, am_u_j, am_u_ne]; omega)) (by first | omega | (simp (decide := true) only [am_u_at, am_u_j, am_u_ne]; omega))) ?_; rintro r I0 ⟨rfl, (⟨rfl, h⟩ | ⟨rfl, h⟩)⟩ <;> (try (exfalso; omega)))
        | (refine am_rt rfl (by first | exact True.intro | (refine And.intro ?_ ?_ <;> decide) | exact Or.inl rfl | exact Or.inr rfl | (show _ ∨ _; omega)) ?_))
      refine loop (T + 1) 0 I0 (by omega) (by omega) am_fr.rf (fun x => ?_)
      have z1 : es_lA (es_Qm I0) M N p 0 x = 0 := by
        unfold es_lA
        split
        · rfl
        · rfl
      have z2 : es_lB (es_Qm I0) M N p 0 x = 0 := by
        unfold es_lB
        split
        · rfl
        · rfl
      rw [z1, z2]
      omega
    · skip
      repeat' (first
        | (refine am_gp 80 [] rfl (by first | exact True.intro | (refine And.intro ?_ ?_ <;> decide) | exact Or.inl rfl | exact Or.inr rfl | (simp (decide := true) only [am_p, am_u_at, am_u_j, am_u_ne]; omega) | (simp (decide := true) only [am_p, and_true, true_and, true_or, or_true, am_u_at, am_u_j, am_u_ne]; omega) | (simp (decide := true) [am_p, am_u_at, am_u_j, am_u_ne]; omega)) ?_)
        | (show am_V _ _ _ _ _ _ _; simp only [Int.reduceToNat])
        | (refine am_bt rfl (by first | omega | (simp (decide := true) only [am_u_at, am_u_j, am_u_ne]; omega)) (by first | omega | (simp (decide := true) only [am_u_at, am_u_j, am_u_ne]; omega)) ?_)
        | (refine am_bf rfl (by first | omega | (simp (decide := true) only [am_u_at, am_u_j, am_u_ne]; omega)) (by first | omega | (simp (decide := true) only [am_u_at, am_u_j, am_u_ne]; omega)) ?_)
        | (refine am_br rfl (by first | omega | (simp (decide := true) only [am_u_at, am_u_j, am_u_ne]; omega)) (fun h => ?_) (fun h => ?_))
        | (refine am_cS (y' := Y_mo_in) rfl lk_mo_114 ok_mo_in rfl rfl (c_mo_in _ _ _ _ _ (by first | omega | (simp (decide := true) only [am_u_at, am_u_j, am_u_ne]; omega)) (by first | omega | (simp (decide := true) only [am_u_at, am_u_j, am_u_ne]; omega)) (by first | omega | (simp (decide := true) only [am_u_at, am_u_j, am_u_ne]; omega))) ?_; rintro r I0 ⟨rfl, (⟨rfl, h⟩ | ⟨rfl, h⟩)⟩ <;> (try (exfalso; omega)))
        | (refine am_rt rfl (by first | exact True.intro | (refine And.intro ?_ ?_ <;> decide) | exact Or.inl rfl | exact Or.inr rfl | (show _ ∨ _; omega)) ?_))
      exact Or.inr (Or.inl ⟨by omega, rfl, rfl⟩)
  · skip
    repeat' (first
      | (refine am_gp 80 [] rfl (by first | exact True.intro | (refine And.intro ?_ ?_ <;> decide) | exact Or.inl rfl | exact Or.inr rfl | (simp (decide := true) only [am_p, am_u_at, am_u_j, am_u_ne]; omega) | (simp (decide := true) only [am_p, and_true, true_and, true_or, or_true, am_u_at, am_u_j, am_u_ne]; omega) | (simp (decide := true) [am_p, am_u_at, am_u_j, am_u_ne]; omega)) ?_)
      | (show am_V _ _ _ _ _ _ _; simp only [Int.reduceToNat])
      | (refine am_bt rfl (by first | omega | (simp (decide := true) only [am_u_at, am_u_j, am_u_ne]; omega)) (by first | omega | (simp (decide := true) only [am_u_at, am_u_j, am_u_ne]; omega)) ?_)
      | (refine am_bf rfl (by first | omega | (simp (decide := true) only [am_u_at, am_u_j, am_u_ne]; omega)) (by first | omega | (simp (decide := true) only [am_u_at, am_u_j, am_u_ne]; omega)) ?_)
      | (refine am_br rfl (by first | omega | (simp (decide := true) only [am_u_at, am_u_j, am_u_ne]; omega)) (fun h => ?_) (fun h => ?_))
      | (refine am_cS (y' := Y_mo_in) rfl lk_mo_114 ok_mo_in rfl rfl (c_mo_in _ _ _ _ _ (by first | omega | (simp (decide := true) only [am_u_at, am_u_j, am_u_ne]; omega)) (by first | omega | (simp (decide := true) only [am_u_at, am_u_j, am_u_ne]; omega)) (by first | omega | (simp (decide := true) only [am_u_at, am_u_j, am_u_ne]; omega))) ?_; rintro r I0 ⟨rfl, (⟨rfl, h⟩ | ⟨rfl, h⟩)⟩ <;> (try (exfalso; omega)))
      | (refine am_rt rfl (by first | exact True.intro | (refine And.intro ?_ ?_ <;> decide) | exact Or.inl rfl | exact Or.inr rfl | (show _ ∨ _; omega)) ?_))
    exact Or.inl ⟨by omega, rfl, rfl⟩
