def es_bc (x : Int) : Int := (fun v => am_and v 63) ((fun v => v + am_ushr v 16) ((fun v => v + am_ushr v 8) ((fun v => am_and (v + am_ushr v 4) 252645135) ((fun v => am_and v 858993459 + am_and (am_ushr v 2) 858993459) (x - am_and (am_ushr x 1) 1431655765)))))
def es_bs (b : Int) : Nat → Int
  | 0 => 0
  | k + 1 => es_bs b k + am_and (am_shr b k) 1
def es_bck (n : Nat) : Bool := decide (es_bc (n : Int) = es_bs (n : Int) 12) && (decide (1 ≤ es_bs (n : Int) 12) == decide (1 ≤ n))
theorem es_bc_all : (List.range 4096).all es_bck = true := by decide +kernel
theorem es_bc_eq {b : Int} (h : 0 ≤ b ∧ b ≤ 4095) : es_bc b = es_bs b 12 ∧ (1 ≤ es_bs b 12 ↔ 1 ≤ b) := by
  have h1 := List.all_eq_true.1 es_bc_all b.toNat (List.mem_range.2 (by omega))
  unfold es_bck at h1
  rw [show ((b.toNat : Nat) : Int) = b by omega] at h1
  rw [Bool.and_eq_true, decide_eq_true_iff] at h1
  refine ⟨h1.1, ?_⟩
  have h2 := h1.2
  rw [beq_iff_eq, decide_eq_decide] at h2
  rw [h2]
  omega
theorem c_bitCount (d : Nat) (x : Int) (I : am_I) : am_C d Y_ig_bitCount [.inl x] I (fun r I' => I' = I ∧ r = some (.inl (es_bc x))) := by
  refine am_enter ok_ig_bitCount rfl ?_
  repeat' (first
    | (refine am_gp 80 [] rfl (by first | exact True.intro | (refine And.intro ?_ ?_ <;> decide) | exact Or.inl rfl | exact Or.inr rfl | (simp (decide := true) only [am_p, am_u_at, am_u_j, am_u_ne]; omega) | (simp (decide := true) only [am_p, and_true, true_and, true_or, or_true, am_u_at, am_u_j, am_u_ne]; omega) | (simp (decide := true) [am_p, am_u_at, am_u_j, am_u_ne]; omega)) ?_)
    | (show am_V _ _ _ _ _ _ _; simp only [Int.reduceToNat])
    | (refine am_bt rfl (by first | omega | (simp (decide := true) only [am_u_at, am_u_j, am_u_ne]; omega)) (by first | omega | (simp (decide := true) only [am_u_at, am_u_j, am_u_ne]; omega)) ?_)
    | (refine am_bf rfl (by first | omega | (simp (decide := true) only [am_u_at, am_u_j, am_u_ne]; omega)) (by first | omega | (simp (decide := true) only [am_u_at, am_u_j, am_u_ne]; omega)) ?_)
    | (refine am_br rfl (by first | omega | (simp (decide := true) only [am_u_at, am_u_j, am_u_ne]; omega)) (fun h => ?_) (fun h => ?_))
    | (refine am_rt rfl (by first | exact True.intro | (refine And.intro ?_ ?_ <;> decide) | exact Or.inl rfl | exact Or.inr rfl) ?_))
  exact ⟨rfl, rfl⟩
theorem c_es_mask (d : Nat) (b : Int) (I : am_I) (hb : (-2147483648 ≤ b ∧ b < 2147483648)) (hn : 0 ≤ I 17 2 ∧ I 17 2 ≤ 6) : am_C (d + 1) Y_es_mask [.inr (.inr 0), .inl b] I (fun r I' => (¬ ((1 ≤ b ∧ b ≤ 4095) ∧ es_bs b 12 ≤ 3) ∧ r = some (.inl (-2)) ∧ I' = I) ∨ ((((1 ≤ b ∧ b ≤ 4095) ∧ es_bs b 12 ≤ 3) ∧ I 17 2 = 6) ∧ r = some (.inl (-4)) ∧ I' = I) ∨ ((((1 ≤ b ∧ b ≤ 4095) ∧ es_bs b 12 ≤ 3) ∧ I 17 2 < 6) ∧ r = some (.inl (I 17 2 + 1)) ∧ I' = am_u (am_u (am_u I 18 (I 17 2).toNat b) 17 2 (I 17 2 + 1)) 17 4 0)) := by
  refine am_enter ok_es_mask rfl ?_
  have h1 : 0 ≤ b ∧ b ≤ 4095 → es_bc b = es_bs b 12 ∧ (1 ≤ es_bs b 12 ↔ 1 ≤ b) := es_bc_eq
  have h2 : -2147483648 ≤ es_bc b ∧ es_bc b < 2147483648 := am_and_rng _ _
  repeat' (first
    | (refine am_gp 80 [] rfl (by first | exact True.intro | (refine And.intro ?_ ?_ <;> decide) | exact Or.inl rfl | exact Or.inr rfl | (simp (decide := true) only [am_p, am_u_at, am_u_j, am_u_ne]; omega) | (simp (decide := true) only [am_p, and_true, true_and, true_or, or_true, am_u_at, am_u_j, am_u_ne]; omega) | (simp (decide := true) [am_p, am_u_at, am_u_j, am_u_ne]; omega)) ?_)
    | (show am_V _ _ _ _ _ _ _; simp only [Int.reduceToNat])
    | (refine am_bt rfl (by first | omega | (simp (decide := true) only [am_u_at, am_u_j, am_u_ne]; omega)) (by first | omega | (simp (decide := true) only [am_u_at, am_u_j, am_u_ne]; omega)) ?_)
    | (refine am_bf rfl (by first | omega | (simp (decide := true) only [am_u_at, am_u_j, am_u_ne]; omega)) (by first | omega | (simp (decide := true) only [am_u_at, am_u_j, am_u_ne]; omega)) ?_)
    | (refine am_br rfl (by first | omega | (simp (decide := true) only [am_u_at, am_u_j, am_u_ne]; omega)) (fun h => ?_) (fun h => ?_))
    | (refine am_cS (y' := Y_es_outside) rfl lk_es_72 ok_es_outside rfl rfl (c_outside _ _ _ _ _ (by first | omega | (simp (decide := true) only [am_u_at, am_u_j, am_u_ne]; omega)) (by first | omega | (simp (decide := true) only [am_u_at, am_u_j, am_u_ne]; omega)) (by first | omega | (simp (decide := true) only [am_u_at, am_u_j, am_u_ne]; omega))) ?_; rintro r I ⟨rfl, (⟨rfl, h⟩ | ⟨rfl, h⟩)⟩ <;> (try (exfalso; omega)))
    | (refine am_cS (y' := Y_ig_bitCount) rfl lk_es_156 ok_ig_bitCount rfl rfl (c_bitCount _ _ _) ?_; rintro r I ⟨rfl, rfl⟩)
    | (refine am_rt rfl (by first | exact True.intro | (refine And.intro ?_ ?_ <;> decide) | exact Or.inl rfl | exact Or.inr rfl) ?_))
  all_goals try simp (decide := true) only [am_u_at, am_u_j, am_u_ne]
  all_goals first
    | (refine Or.inl ⟨by omega, ?_⟩; first | trivial | exact rfl | exact ⟨rfl, rfl⟩ | (refine ⟨?_, rfl⟩; congr 2; omega))
    | (refine Or.inr (Or.inl ⟨by omega, ?_⟩); first | trivial | exact rfl | exact ⟨rfl, rfl⟩ | (refine ⟨?_, rfl⟩; congr 2; omega))
    | (refine Or.inr (Or.inr (⟨by omega, ?_⟩)); first | trivial | exact rfl | exact ⟨rfl, rfl⟩ | (refine ⟨?_, rfl⟩; congr 2; omega))
theorem es_bs_rng (b : Int) : ∀ k : Nat, 0 ≤ es_bs b k ∧ es_bs b k ≤ k
  | 0 => by show (0 : Int) ≤ 0 ∧ (0 : Int) ≤ ((0 : Nat) : Int); omega
  | k + 1 => by
    have h1 := es_bs_rng b k
    have h2 := am_and_1 (am_shr b k)
    show 0 ≤ es_bs b k + am_and (am_shr b k) 1 ∧ es_bs b k + am_and (am_shr b k) 1 ≤ ((k + 1 : Nat) : Int)
    omega
theorem c_mo_mask (d : Nat) (b : Int) (I : am_I) (hb : (-2147483648 ≤ b ∧ b < 2147483648)) (hn : 0 ≤ I 44 20 ∧ I 44 20 ≤ 6) : am_C (d + 1) Y_mo_mask [.inr (.inr 44), .inl b] I (fun r I' => (¬ ((1 ≤ b ∧ b ≤ 4095) ∧ es_bs b 12 ≤ 3) ∧ r = some (.inl (-2)) ∧ I' = I) ∨ ((((1 ≤ b ∧ b ≤ 4095) ∧ es_bs b 12 ≤ 3) ∧ I 44 20 = 6) ∧ r = some (.inl (-4)) ∧ I' = I) ∨ ((((1 ≤ b ∧ b ≤ 4095) ∧ es_bs b 12 ≤ 3) ∧ I 44 20 < 6) ∧ r = some (.inl (I 44 20 + 1)) ∧ I' = am_u (am_u I 50 (I 44 20).toNat b) 44 20 (I 44 20 + 1))) := by
  refine am_enter ok_mo_mask rfl ?_
  have loop : ∀ (m k : Nat), k ≤ 12 → 12 - k < m → am_V (d + 1) Y_mo_mask (fun r I' => (¬ ((1 ≤ b ∧ b ≤ 4095) ∧ es_bs b 12 ≤ 3) ∧ r = some (.inl (-2)) ∧ I' = I) ∨ ((((1 ≤ b ∧ b ≤ 4095) ∧ es_bs b 12 ≤ 3) ∧ I 44 20 = 6) ∧ r = some (.inl (-4)) ∧ I' = I) ∨ ((((1 ≤ b ∧ b ≤ 4095) ∧ es_bs b 12 ≤ 3) ∧ I 44 20 < 6) ∧ r = some (.inl (I 44 20 + 1)) ∧ I' = am_u (am_u I 50 (I 44 20).toNat b) 44 20 (I 44 20 + 1))) 4 [(0, .inr (.inr 44)), (1, .inl b), (2, .inl (es_bs b k)), (3, .inl k)] [] I := by
    intro m
    induction m with
    | zero => intro k h1 h2; omega
    | succ m ih =>
      intro k h1 h2
      have hr := es_bs_rng b k
      refine am_go 1 [] rfl trivial ?_
      repeat' (first
        | (refine am_gp 80 [4, 24] rfl (by first | exact True.intro | (refine And.intro ?_ ?_ <;> decide) | exact Or.inl rfl | exact Or.inr rfl | (simp (decide := true) only [am_p, am_u_at, am_u_j, am_u_ne]; omega) | (simp (decide := true) only [am_p, and_true, true_and, true_or, or_true, am_u_at, am_u_j, am_u_ne]; omega) | (simp (decide := true) [am_p, am_u_at, am_u_j, am_u_ne]; omega)) ?_)
        | (show am_V _ _ _ _ _ _ _; simp only [Int.reduceToNat])
        | (refine am_bt rfl (by first | omega | (simp (decide := true) only [am_u_at, am_u_j, am_u_ne]; omega)) (by first | omega | (simp (decide := true) only [am_u_at, am_u_j, am_u_ne]; omega)) ?_)
        | (refine am_bf rfl (by first | omega | (simp (decide := true) only [am_u_at, am_u_j, am_u_ne]; omega)) (by first | omega | (simp (decide := true) only [am_u_at, am_u_j, am_u_ne]; omega)) ?_)
        | (refine am_br rfl (by first | omega | (simp (decide := true) only [am_u_at, am_u_j, am_u_ne]; omega)) (fun h => ?_) (fun h => ?_))
        | (refine am_rt rfl (by first | exact True.intro | (refine And.intro ?_ ?_ <;> decide) | exact Or.inl rfl | exact Or.inr rfl) ?_))
      · have ek : k = 12 := by omega
        subst ek
        repeat' (first
          | (refine am_gp 80 [] rfl (by first | exact True.intro | (refine And.intro ?_ ?_ <;> decide) | exact Or.inl rfl | exact Or.inr rfl | (simp (decide := true) only [am_p, am_u_at, am_u_j, am_u_ne]; omega) | (simp (decide := true) only [am_p, and_true, true_and, true_or, or_true, am_u_at, am_u_j, am_u_ne]; omega) | (simp (decide := true) [am_p, am_u_at, am_u_j, am_u_ne]; omega)) ?_)
          | (show am_V _ _ _ _ _ _ _; simp only [Int.reduceToNat])
          | (refine am_bt rfl (by first | omega | (simp (decide := true) only [am_u_at, am_u_j, am_u_ne]; omega)) (by first | omega | (simp (decide := true) only [am_u_at, am_u_j, am_u_ne]; omega)) ?_)
          | (refine am_bf rfl (by first | omega | (simp (decide := true) only [am_u_at, am_u_j, am_u_ne]; omega)) (by first | omega | (simp (decide := true) only [am_u_at, am_u_j, am_u_ne]; omega)) ?_)
          | (refine am_br rfl (by first | omega | (simp (decide := true) only [am_u_at, am_u_j, am_u_ne]; omega)) (fun h => ?_) (fun h => ?_))
          | (refine am_cS (y' := Y_mo_in) rfl lk_mo_114 ok_mo_in rfl rfl (c_mo_in _ _ _ _ _ (by first | omega | (simp (decide := true) only [am_u_at, am_u_j, am_u_ne]; omega)) (by first | omega | (simp (decide := true) only [am_u_at, am_u_j, am_u_ne]; omega)) (by first | omega | (simp (decide := true) only [am_u_at, am_u_j, am_u_ne]; omega))) ?_; rintro r I ⟨rfl, (⟨rfl, h⟩ | ⟨rfl, h⟩)⟩ <;> (try (exfalso; omega)))
          | (refine am_rt rfl (by first | exact True.intro | (refine And.intro ?_ ?_ <;> decide) | exact Or.inl rfl | exact Or.inr rfl) ?_))
        all_goals try simp (decide := true) only [am_u_at, am_u_j, am_u_ne]
        all_goals first
          | (refine Or.inl ⟨by omega, ?_⟩; first | trivial | exact rfl | exact ⟨rfl, rfl⟩ | (refine ⟨?_, rfl⟩; congr 2; omega))
          | (refine Or.inr (Or.inl ⟨by omega, ?_⟩); first | trivial | exact rfl | exact ⟨rfl, rfl⟩ | (refine ⟨?_, rfl⟩; congr 2; omega))
          | (refine Or.inr (Or.inr (⟨by omega, ?_⟩)); first | trivial | exact rfl | exact ⟨rfl, rfl⟩ | (refine ⟨?_, rfl⟩; congr 2; omega))
      · exact ih (k + 1) (by omega) (by omega)
  repeat' (first
    | (refine am_gp 80 [4] rfl (by first | exact True.intro | (refine And.intro ?_ ?_ <;> decide) | exact Or.inl rfl | exact Or.inr rfl | (simp (decide := true) only [am_p, am_u_at, am_u_j, am_u_ne]; omega) | (simp (decide := true) only [am_p, and_true, true_and, true_or, or_true, am_u_at, am_u_j, am_u_ne]; omega) | (simp (decide := true) [am_p, am_u_at, am_u_j, am_u_ne]; omega)) ?_)
    | (show am_V _ _ _ _ _ _ _; simp only [Int.reduceToNat])
    | (refine am_bt rfl (by first | omega | (simp (decide := true) only [am_u_at, am_u_j, am_u_ne]; omega)) (by first | omega | (simp (decide := true) only [am_u_at, am_u_j, am_u_ne]; omega)) ?_)
    | (refine am_bf rfl (by first | omega | (simp (decide := true) only [am_u_at, am_u_j, am_u_ne]; omega)) (by first | omega | (simp (decide := true) only [am_u_at, am_u_j, am_u_ne]; omega)) ?_)
    | (refine am_br rfl (by first | omega | (simp (decide := true) only [am_u_at, am_u_j, am_u_ne]; omega)) (fun h => ?_) (fun h => ?_))
    | (refine am_rt rfl (by first | exact True.intro | (refine And.intro ?_ ?_ <;> decide) | exact Or.inl rfl | exact Or.inr rfl) ?_))
  exact loop 14 0 (by omega) (by omega)
theorem c_es_table (d : Nat) (p s w : Int) (I : am_I) (hp : (-2147483648 ≤ p ∧ p < 2147483648)) (hs : (-2147483648 ≤ s ∧ s < 2147483648)) (hw : (-2147483648 ≤ w ∧ w < 2147483648)) (hP : es_hP I) : am_C (d + 1) Y_es_table [.inr (.inr 0), .inl p, .inl s, .inl w] I (fun r I' => (¬ ((0 ≤ p ∧ p ≤ 5) ∧ (0 ≤ s ∧ s ≤ 12) ∧ (0 ≤ w ∧ w ≤ 2)) ∧ r = some (.inl (-2)) ∧ I' = I) ∨ (((0 ≤ p ∧ p ≤ 5) ∧ (0 ≤ s ∧ s ≤ 12) ∧ w = 0) ∧ r = some (.inl (I (31 + p.toNat) s.toNat)) ∧ I' = I) ∨ (((0 ≤ p ∧ p ≤ 5) ∧ (0 ≤ s ∧ s ≤ 12) ∧ w = 1) ∧ r = some (.inl (I (38 + p.toNat) s.toNat)) ∧ I' = I) ∨ (((0 ≤ p ∧ p ≤ 5) ∧ (0 ≤ s ∧ s ≤ 12) ∧ w = 2) ∧ r = some (.inl (es_wt (I (31 + p.toNat) s.toNat) (I (38 + p.toNat) s.toNat))) ∧ I' = I)) := by
  refine am_enter ok_es_table rfl ?_
  by_cases hp5 : 0 ≤ p ∧ p ≤ 5
  · have h6 : p = 0 ∨ p = 1 ∨ p = 2 ∨ p = 3 ∨ p = 4 ∨ p = 5 := by omega
    rcases h6 with rfl | rfl | rfl | rfl | rfl | rfl
    · skip
      repeat' (first
        | (refine am_gp 80 [] rfl (by first | exact True.intro | (refine And.intro ?_ ?_ <;> decide) | exact Or.inl rfl | exact Or.inr rfl | (simp (decide := true) only [am_p, am_u_at, am_u_j, am_u_ne]; omega) | (simp (decide := true) only [am_p, and_true, true_and, true_or, or_true, am_u_at, am_u_j, am_u_ne]; omega) | (simp (decide := true) [am_p, am_u_at, am_u_j, am_u_ne]; omega)) ?_)
        | (show am_V _ _ _ _ _ _ _; simp only [Int.reduceToNat])
        | (refine am_bt rfl (by first | omega | (simp (decide := true) only [am_u_at, am_u_j, am_u_ne]; omega)) (by first | omega | (simp (decide := true) only [am_u_at, am_u_j, am_u_ne]; omega)) ?_)
        | (refine am_bf rfl (by first | omega | (simp (decide := true) only [am_u_at, am_u_j, am_u_ne]; omega)) (by first | omega | (simp (decide := true) only [am_u_at, am_u_j, am_u_ne]; omega)) ?_)
        | (refine am_br rfl (by first | omega | (simp (decide := true) only [am_u_at, am_u_j, am_u_ne]; omega)) (fun h => ?_) (fun h => ?_))
        | (refine am_cS (y' := Y_es_outside) rfl lk_es_72 ok_es_outside rfl rfl (c_outside _ _ _ _ _ (by first | omega | (simp (decide := true) only [am_u_at, am_u_j, am_u_ne]; omega)) (by first | omega | (simp (decide := true) only [am_u_at, am_u_j, am_u_ne]; omega)) (by first | omega | (simp (decide := true) only [am_u_at, am_u_j, am_u_ne]; omega))) ?_; rintro r I ⟨rfl, (⟨rfl, h⟩ | ⟨rfl, h⟩)⟩ <;> (try (exfalso; omega)))
        | (refine am_cV (y' := Y_pu_weight) rfl lk_es_213 ok_pu_weight rfl rfl rfl (c_pu_weight _ _ _ _ (by first | omega | (simp (decide := true) only [am_u_at, am_u_j, am_u_ne]; omega)) (by first | omega | (simp (decide := true) only [am_u_at, am_u_j, am_u_ne]; omega)) (hP _ _ (by first | omega | (simp (decide := true) only [am_u_at, am_u_j, am_u_ne]; omega)) (by first | omega | (simp (decide := true) only [am_u_at, am_u_j, am_u_ne]; omega))).1 (hP _ _ (by first | omega | (simp (decide := true) only [am_u_at, am_u_j, am_u_ne]; omega)) (by first | omega | (simp (decide := true) only [am_u_at, am_u_j, am_u_ne]; omega))).2) ?_; rintro r I ⟨rfl, rfl⟩)
        | (refine am_rt rfl (by first | exact True.intro | (refine And.intro ?_ ?_ <;> decide) | exact Or.inl rfl | exact Or.inr rfl) ?_))
      all_goals first
        | exact Or.inl ⟨by omega, rfl, rfl⟩
        | exact Or.inr (Or.inl ⟨by omega, rfl, rfl⟩)
        | exact Or.inr (Or.inr (Or.inl ⟨by omega, rfl, rfl⟩))
        | exact Or.inr (Or.inr (Or.inr ⟨by omega, rfl, rfl⟩))
    · skip
      repeat' (first
        | (refine am_gp 80 [] rfl (by first | exact True.intro | (refine And.intro ?_ ?_ <;> decide) | exact Or.inl rfl | exact Or.inr rfl | (simp (decide := true) only [am_p, am_u_at, am_u_j, am_u_ne]; omega) | (simp (decide := true) only [am_p, and_true, true_and, true_or, or_true, am_u_at, am_u_j, am_u_ne]; omega) | (simp (decide := true) [am_p, am_u_at, am_u_j, am_u_ne]; omega)) ?_)
        | (show am_V _ _ _ _ _ _ _; simp only [Int.reduceToNat])
        | (refine am_bt rfl (by first | omega | (simp (decide := true) only [am_u_at, am_u_j, am_u_ne]; omega)) (by first | omega | (simp (decide := true) only [am_u_at, am_u_j, am_u_ne]; omega)) ?_)
        | (refine am_bf rfl (by first | omega | (simp (decide := true) only [am_u_at, am_u_j, am_u_ne]; omega)) (by first | omega | (simp (decide := true) only [am_u_at, am_u_j, am_u_ne]; omega)) ?_)
        | (refine am_br rfl (by first | omega | (simp (decide := true) only [am_u_at, am_u_j, am_u_ne]; omega)) (fun h => ?_) (fun h => ?_))
        | (refine am_cS (y' := Y_es_outside) rfl lk_es_72 ok_es_outside rfl rfl (c_outside _ _ _ _ _ (by first | omega | (simp (decide := true) only [am_u_at, am_u_j, am_u_ne]; omega)) (by first | omega | (simp (decide := true) only [am_u_at, am_u_j, am_u_ne]; omega)) (by first | omega | (simp (decide := true) only [am_u_at, am_u_j, am_u_ne]; omega))) ?_; rintro r I ⟨rfl, (⟨rfl, h⟩ | ⟨rfl, h⟩)⟩ <;> (try (exfalso; omega)))
        | (refine am_cV (y' := Y_pu_weight) rfl lk_es_213 ok_pu_weight rfl rfl rfl (c_pu_weight _ _ _ _ (by first | omega | (simp (decide := true) only [am_u_at, am_u_j, am_u_ne]; omega)) (by first | omega | (simp (decide := true) only [am_u_at, am_u_j, am_u_ne]; omega)) (hP _ _ (by first | omega | (simp (decide := true) only [am_u_at, am_u_j, am_u_ne]; omega)) (by first | omega | (simp (decide := true) only [am_u_at, am_u_j, am_u_ne]; omega))).1 (hP _ _ (by first | omega | (simp (decide := true) only [am_u_at, am_u_j, am_u_ne]; omega)) (by first | omega | (simp (decide := true) only [am_u_at, am_u_j, am_u_ne]; omega))).2) ?_; rintro r I ⟨rfl, rfl⟩)
        | (refine am_rt rfl (by first | exact True.intro | (refine And.intro ?_ ?_ <;> decide) | exact Or.inl rfl | exact Or.inr rfl) ?_))
      all_goals first
        | exact Or.inl ⟨by omega, rfl, rfl⟩
        | exact Or.inr (Or.inl ⟨by omega, rfl, rfl⟩)
        | exact Or.inr (Or.inr (Or.inl ⟨by omega, rfl, rfl⟩))
        | exact Or.inr (Or.inr (Or.inr ⟨by omega, rfl, rfl⟩))
    · skip
      repeat' (first
        | (refine am_gp 80 [] rfl (by first | exact True.intro | (refine And.intro ?_ ?_ <;> decide) | exact Or.inl rfl | exact Or.inr rfl | (simp (decide := true) only [am_p, am_u_at, am_u_j, am_u_ne]; omega) | (simp (decide := true) only [am_p, and_true, true_and, true_or, or_true, am_u_at, am_u_j, am_u_ne]; omega) | (simp (decide := true) [am_p, am_u_at, am_u_j, am_u_ne]; omega)) ?_)
        | (show am_V _ _ _ _ _ _ _; simp only [Int.reduceToNat])
        | (refine am_bt rfl (by first | omega | (simp (decide := true) only [am_u_at, am_u_j, am_u_ne]; omega)) (by first | omega | (simp (decide := true) only [am_u_at, am_u_j, am_u_ne]; omega)) ?_)
        | (refine am_bf rfl (by first | omega | (simp (decide := true) only [am_u_at, am_u_j, am_u_ne]; omega)) (by first | omega | (simp (decide := true) only [am_u_at, am_u_j, am_u_ne]; omega)) ?_)
        | (refine am_br rfl (by first | omega | (simp (decide := true) only [am_u_at, am_u_j, am_u_ne]; omega)) (fun h => ?_) (fun h => ?_))
        | (refine am_cS (y' := Y_es_outside) rfl lk_es_72 ok_es_outside rfl rfl (c_outside _ _ _ _ _ (by first | omega | (simp (decide := true) only [am_u_at, am_u_j, am_u_ne]; omega)) (by first | omega | (simp (decide := true) only [am_u_at, am_u_j, am_u_ne]; omega)) (by first | omega | (simp (decide := true) only [am_u_at, am_u_j, am_u_ne]; omega))) ?_; rintro r I ⟨rfl, (⟨rfl, h⟩ | ⟨rfl, h⟩)⟩ <;> (try (exfalso; omega)))
        | (refine am_cV (y' := Y_pu_weight) rfl lk_es_213 ok_pu_weight rfl rfl rfl (c_pu_weight _ _ _ _ (by first | omega | (simp (decide := true) only [am_u_at, am_u_j, am_u_ne]; omega)) (by first | omega | (simp (decide := true) only [am_u_at, am_u_j, am_u_ne]; omega)) (hP _ _ (by first | omega | (simp (decide := true) only [am_u_at, am_u_j, am_u_ne]; omega)) (by first | omega | (simp (decide := true) only [am_u_at, am_u_j, am_u_ne]; omega))).1 (hP _ _ (by first | omega | (simp (decide := true) only [am_u_at, am_u_j, am_u_ne]; omega)) (by first | omega | (simp (decide := true) only [am_u_at, am_u_j, am_u_ne]; omega))).2) ?_; rintro r I ⟨rfl, rfl⟩)
        | (refine am_rt rfl (by first | exact True.intro | (refine And.intro ?_ ?_ <;> decide) | exact Or.inl rfl | exact Or.inr rfl) ?_))
      all_goals first
        | exact Or.inl ⟨by omega, rfl, rfl⟩
        | exact Or.inr (Or.inl ⟨by omega, rfl, rfl⟩)
        | exact Or.inr (Or.inr (Or.inl ⟨by omega, rfl, rfl⟩))
        | exact Or.inr (Or.inr (Or.inr ⟨by omega, rfl, rfl⟩))
    · skip
      repeat' (first
        | (refine am_gp 80 [] rfl (by first | exact True.intro | (refine And.intro ?_ ?_ <;> decide) | exact Or.inl rfl | exact Or.inr rfl | (simp (decide := true) only [am_p, am_u_at, am_u_j, am_u_ne]; omega) | (simp (decide := true) only [am_p, and_true, true_and, true_or, or_true, am_u_at, am_u_j, am_u_ne]; omega) | (simp (decide := true) [am_p, am_u_at, am_u_j, am_u_ne]; omega)) ?_)
        | (show am_V _ _ _ _ _ _ _; simp only [Int.reduceToNat])
        | (refine am_bt rfl (by first | omega | (simp (decide := true) only [am_u_at, am_u_j, am_u_ne]; omega)) (by first | omega | (simp (decide := true) only [am_u_at, am_u_j, am_u_ne]; omega)) ?_)
        | (refine am_bf rfl (by first | omega | (simp (decide := true) only [am_u_at, am_u_j, am_u_ne]; omega)) (by first | omega | (simp (decide := true) only [am_u_at, am_u_j, am_u_ne]; omega)) ?_)
        | (refine am_br rfl (by first | omega | (simp (decide := true) only [am_u_at, am_u_j, am_u_ne]; omega)) (fun h => ?_) (fun h => ?_))
        | (refine am_cS (y' := Y_es_outside) rfl lk_es_72 ok_es_outside rfl rfl (c_outside _ _ _ _ _ (by first | omega | (simp (decide := true) only [am_u_at, am_u_j, am_u_ne]; omega)) (by first | omega | (simp (decide := true) only [am_u_at, am_u_j, am_u_ne]; omega)) (by first | omega | (simp (decide := true) only [am_u_at, am_u_j, am_u_ne]; omega))) ?_; rintro r I ⟨rfl, (⟨rfl, h⟩ | ⟨rfl, h⟩)⟩ <;> (try (exfalso; omega)))
        | (refine am_cV (y' := Y_pu_weight) rfl lk_es_213 ok_pu_weight rfl rfl rfl (c_pu_weight _ _ _ _ (by first | omega | (simp (decide := true) only [am_u_at, am_u_j, am_u_ne]; omega)) (by first | omega | (simp (decide := true) only [am_u_at, am_u_j, am_u_ne]; omega)) (hP _ _ (by first | omega | (simp (decide := true) only [am_u_at, am_u_j, am_u_ne]; omega)) (by first | omega | (simp (decide := true) only [am_u_at, am_u_j, am_u_ne]; omega))).1 (hP _ _ (by first | omega | (simp (decide := true) only [am_u_at, am_u_j, am_u_ne]; omega)) (by first | omega | (simp (decide := true) only [am_u_at, am_u_j, am_u_ne]; omega))).2) ?_; rintro r I ⟨rfl, rfl⟩)
        | (refine am_rt rfl (by first | exact True.intro | (refine And.intro ?_ ?_ <;> decide) | exact Or.inl rfl | exact Or.inr rfl) ?_))
      all_goals first
        | exact Or.inl ⟨by omega, rfl, rfl⟩
        | exact Or.inr (Or.inl ⟨by omega, rfl, rfl⟩)
        | exact Or.inr (Or.inr (Or.inl ⟨by omega, rfl, rfl⟩))
        | exact Or.inr (Or.inr (Or.inr ⟨by omega, rfl, rfl⟩))
    · skip
      repeat' (first
        | (refine am_gp 80 [] rfl (by first | exact True.intro | (refine And.intro ?_ ?_ <;> decide) | exact Or.inl rfl | exact Or.inr rfl | (simp (decide := true) only [am_p, am_u_at, am_u_j, am_u_ne]; omega) | (simp (decide := true) only [am_p, and_true, true_and, true_or, or_true, am_u_at, am_u_j, am_u_ne]; omega) | (simp (decide := true) [am_p, am_u_at, am_u_j, am_u_ne]; omega)) ?_)
        | (show am_V _ _ _ _ _ _ _; simp only [Int.reduceToNat])
        | (refine am_bt rfl (by first | omega | (simp (decide := true) only [am_u_at, am_u_j, am_u_ne]; omega)) (by first | omega | (simp (decide := true) only [am_u_at, am_u_j, am_u_ne]; omega)) ?_)
        | (refine am_bf rfl (by first | omega | (simp (decide := true) only [am_u_at, am_u_j, am_u_ne]; omega)) (by first | omega | (simp (decide := true) only [am_u_at, am_u_j, am_u_ne]; omega)) ?_)
        | (refine am_br rfl (by first | omega | (simp (decide := true) only [am_u_at, am_u_j, am_u_ne]; omega)) (fun h => ?_) (fun h => ?_))
        | (refine am_cS (y' := Y_es_outside) rfl lk_es_72 ok_es_outside rfl rfl (c_outside _ _ _ _ _ (by first | omega | (simp (decide := true) only [am_u_at, am_u_j, am_u_ne]; omega)) (by first | omega | (simp (decide := true) only [am_u_at, am_u_j, am_u_ne]; omega)) (by first | omega | (simp (decide := true) only [am_u_at, am_u_j, am_u_ne]; omega))) ?_; rintro r I ⟨rfl, (⟨rfl, h⟩ | ⟨rfl, h⟩)⟩ <;> (try (exfalso; omega)))
        | (refine am_cV (y' := Y_pu_weight) rfl lk_es_213 ok_pu_weight rfl rfl rfl (c_pu_weight _ _ _ _ (by first | omega | (simp (decide := true) only [am_u_at, am_u_j, am_u_ne]; omega)) (by first | omega | (simp (decide := true) only [am_u_at, am_u_j, am_u_ne]; omega)) (hP _ _ (by first | omega | (simp (decide := true) only [am_u_at, am_u_j, am_u_ne]; omega)) (by first | omega | (simp (decide := true) only [am_u_at, am_u_j, am_u_ne]; omega))).1 (hP _ _ (by first | omega | (simp (decide := true) only [am_u_at, am_u_j, am_u_ne]; omega)) (by first | omega | (simp (decide := true) only [am_u_at, am_u_j, am_u_ne]; omega))).2) ?_; rintro r I ⟨rfl, rfl⟩)
        | (refine am_rt rfl (by first | exact True.intro | (refine And.intro ?_ ?_ <;> decide) | exact Or.inl rfl | exact Or.inr rfl) ?_))
      all_goals first
        | exact Or.inl ⟨by omega, rfl, rfl⟩
        | exact Or.inr (Or.inl ⟨by omega, rfl, rfl⟩)
        | exact Or.inr (Or.inr (Or.inl ⟨by omega, rfl, rfl⟩))
        | exact Or.inr (Or.inr (Or.inr ⟨by omega, rfl, rfl⟩))
    · skip
      repeat' (first
        | (refine am_gp 80 [] rfl (by first | exact True.intro | (refine And.intro ?_ ?_ <;> decide) | exact Or.inl rfl | exact Or.inr rfl | (simp (decide := true) only [am_p, am_u_at, am_u_j, am_u_ne]; omega) | (simp (decide := true) only [am_p, and_true, true_and, true_or, or_true, am_u_at, am_u_j, am_u_ne]; omega) | (simp (decide := true) [am_p, am_u_at, am_u_j, am_u_ne]; omega)) ?_)
        | (show am_V _ _ _ _ _ _ _; simp only [Int.reduceToNat])
        | (refine am_bt rfl (by first | omega | (simp (decide := true) only [am_u_at, am_u_j, am_u_ne]; omega)) (by first | omega | (simp (decide := true) only [am_u_at, am_u_j, am_u_ne]; omega)) ?_)
        | (refine am_bf rfl (by first | omega | (simp (decide := true) only [am_u_at, am_u_j, am_u_ne]; omega)) (by first | omega | (simp (decide := true) only [am_u_at, am_u_j, am_u_ne]; omega)) ?_)
        | (refine am_br rfl (by first | omega | (simp (decide := true) only [am_u_at, am_u_j, am_u_ne]; omega)) (fun h => ?_) (fun h => ?_))
        | (refine am_cS (y' := Y_es_outside) rfl lk_es_72 ok_es_outside rfl rfl (c_outside _ _ _ _ _ (by first | omega | (simp (decide := true) only [am_u_at, am_u_j, am_u_ne]; omega)) (by first | omega | (simp (decide := true) only [am_u_at, am_u_j, am_u_ne]; omega)) (by first | omega | (simp (decide := true) only [am_u_at, am_u_j, am_u_ne]; omega))) ?_; rintro r I ⟨rfl, (⟨rfl, h⟩ | ⟨rfl, h⟩)⟩ <;> (try (exfalso; omega)))
        | (refine am_cV (y' := Y_pu_weight) rfl lk_es_213 ok_pu_weight rfl rfl rfl (c_pu_weight _ _ _ _ (by first | omega | (simp (decide := true) only [am_u_at, am_u_j, am_u_ne]; omega)) (by first | omega | (simp (decide := true) only [am_u_at, am_u_j, am_u_ne]; omega)) (hP _ _ (by first | omega | (simp (decide := true) only [am_u_at, am_u_j, am_u_ne]; omega)) (by first | omega | (simp (decide := true) only [am_u_at, am_u_j, am_u_ne]; omega))).1 (hP _ _ (by first | omega | (simp (decide := true) only [am_u_at, am_u_j, am_u_ne]; omega)) (by first | omega | (simp (decide := true) only [am_u_at, am_u_j, am_u_ne]; omega))).2) ?_; rintro r I ⟨rfl, rfl⟩)
        | (refine am_rt rfl (by first | exact True.intro | (refine And.intro ?_ ?_ <;> decide) | exact Or.inl rfl | exact Or.inr rfl) ?_))
      all_goals first
        | exact Or.inl ⟨by omega, rfl, rfl⟩
        | exact Or.inr (Or.inl ⟨by omega, rfl, rfl⟩)
        | exact Or.inr (Or.inr (Or.inl ⟨by omega, rfl, rfl⟩))
        | exact Or.inr (Or.inr (Or.inr ⟨by omega, rfl, rfl⟩))
  · skip
    repeat' (first
      | (refine am_gp 80 [] rfl (by first | exact True.intro | (refine And.intro ?_ ?_ <;> decide) | exact Or.inl rfl | exact Or.inr rfl | (simp (decide := true) only [am_p, am_u_at, am_u_j, am_u_ne]; omega) | (simp (decide := true) only [am_p, and_true, true_and, true_or, or_true, am_u_at, am_u_j, am_u_ne]; omega) | (simp (decide := true) [am_p, am_u_at, am_u_j, am_u_ne]; omega)) ?_)
      | (show am_V _ _ _ _ _ _ _; simp only [Int.reduceToNat])
      | (refine am_bt rfl (by first | omega | (simp (decide := true) only [am_u_at, am_u_j, am_u_ne]; omega)) (by first | omega | (simp (decide := true) only [am_u_at, am_u_j, am_u_ne]; omega)) ?_)
      | (refine am_bf rfl (by first | omega | (simp (decide := true) only [am_u_at, am_u_j, am_u_ne]; omega)) (by first | omega | (simp (decide := true) only [am_u_at, am_u_j, am_u_ne]; omega)) ?_)
      | (refine am_br rfl (by first | omega | (simp (decide := true) only [am_u_at, am_u_j, am_u_ne]; omega)) (fun h => ?_) (fun h => ?_))
      | (refine am_cS (y' := Y_es_outside) rfl lk_es_72 ok_es_outside rfl rfl (c_outside _ _ _ _ _ (by first | omega | (simp (decide := true) only [am_u_at, am_u_j, am_u_ne]; omega)) (by first | omega | (simp (decide := true) only [am_u_at, am_u_j, am_u_ne]; omega)) (by first | omega | (simp (decide := true) only [am_u_at, am_u_j, am_u_ne]; omega))) ?_; rintro r I ⟨rfl, (⟨rfl, h⟩ | ⟨rfl, h⟩)⟩ <;> (try (exfalso; omega)))
      | (refine am_rt rfl (by first | exact True.intro | (refine And.intro ?_ ?_ <;> decide) | exact Or.inl rfl | exact Or.inr rfl) ?_))
    exact Or.inl ⟨by omega, rfl, rfl⟩
theorem c_mo_table (d : Nat) (p s w : Int) (I : am_I) (hp : (-2147483648 ≤ p ∧ p < 2147483648)) (hs : (-2147483648 ≤ s ∧ s < 2147483648)) (hw : (-2147483648 ≤ w ∧ w < 2147483648)) (hA : es_hA (I 52) (I 53)) : am_C (d + 1) Y_mo_table [.inr (.inr 44), .inl p, .inl s, .inl w] I (fun r I' => (¬ ((0 ≤ p ∧ p ≤ 5) ∧ (0 ≤ s ∧ s ≤ 12) ∧ (0 ≤ w ∧ w ≤ 2)) ∧ r = some (.inl (-2)) ∧ I' = I) ∨ (((0 ≤ p ∧ p ≤ 5) ∧ (0 ≤ s ∧ s ≤ 12) ∧ w = 0) ∧ r = some (.inl (I 52 (13 * p + s).toNat)) ∧ I' = I) ∨ (((0 ≤ p ∧ p ≤ 5) ∧ (0 ≤ s ∧ s ≤ 12) ∧ w = 1) ∧ r = some (.inl (I 53 (13 * p + s).toNat)) ∧ I' = I) ∨ (((0 ≤ p ∧ p ≤ 5) ∧ (0 ≤ s ∧ s ≤ 12) ∧ w = 2) ∧ r = some (.inl (es_wt (I 52 (13 * p + s).toNat) (I 53 (13 * p + s).toNat))) ∧ I' = I)) := by
  refine am_enter ok_mo_table rfl ?_
  have h7 : (0 ≤ p ∧ p ≤ 5) → (0 ≤ s ∧ s ≤ 12) → (0 ≤ I 52 (13 * p + s).toNat ∧ I 52 (13 * p + s).toNat ≤ 20000) ∧ (0 ≤ I 53 (13 * p + s).toNat ∧ I 53 (13 * p + s).toNat ≤ 20000) := fun h1 h2 => hA _ (by omega)
  repeat' (first
    | (refine am_gp 80 [] rfl (by first | exact True.intro | (refine And.intro ?_ ?_ <;> decide) | exact Or.inl rfl | exact Or.inr rfl | (simp (decide := true) only [am_p, am_u_at, am_u_j, am_u_ne]; omega) | (simp (decide := true) only [am_p, and_true, true_and, true_or, or_true, am_u_at, am_u_j, am_u_ne]; omega) | (simp (decide := true) [am_p, am_u_at, am_u_j, am_u_ne]; omega)) ?_)
    | (show am_V _ _ _ _ _ _ _; simp only [Int.reduceToNat])
    | (refine am_bt rfl (by first | omega | (simp (decide := true) only [am_u_at, am_u_j, am_u_ne]; omega)) (by first | omega | (simp (decide := true) only [am_u_at, am_u_j, am_u_ne]; omega)) ?_)
    | (refine am_bf rfl (by first | omega | (simp (decide := true) only [am_u_at, am_u_j, am_u_ne]; omega)) (by first | omega | (simp (decide := true) only [am_u_at, am_u_j, am_u_ne]; omega)) ?_)
    | (refine am_br rfl (by first | omega | (simp (decide := true) only [am_u_at, am_u_j, am_u_ne]; omega)) (fun h => ?_) (fun h => ?_))
    | (refine am_cS (y' := Y_mo_in) rfl lk_mo_114 ok_mo_in rfl rfl (c_mo_in _ _ _ _ _ (by first | omega | (simp (decide := true) only [am_u_at, am_u_j, am_u_ne]; omega)) (by first | omega | (simp (decide := true) only [am_u_at, am_u_j, am_u_ne]; omega)) (by first | omega | (simp (decide := true) only [am_u_at, am_u_j, am_u_ne]; omega))) ?_; rintro r I ⟨rfl, (⟨rfl, h⟩ | ⟨rfl, h⟩)⟩ <;> (try (exfalso; omega)))
    | (refine am_cV (y' := Y_mo_weight) rfl lk_mo_250 ok_mo_weight rfl rfl rfl (c_mo_weight _ _ _ _ (by first | omega | (simp (decide := true) only [am_u_at, am_u_j, am_u_ne]; omega)) (by first | omega | (simp (decide := true) only [am_u_at, am_u_j, am_u_ne]; omega)) (by first | omega | (simp (decide := true) only [am_u_at, am_u_j, am_u_ne]; omega)) (by first | omega | (simp (decide := true) only [am_u_at, am_u_j, am_u_ne]; omega))) ?_; rintro r I ⟨rfl, rfl⟩)
    | (refine am_rt rfl (by first | exact True.intro | (refine And.intro ?_ ?_ <;> decide) | exact Or.inl rfl | exact Or.inr rfl) ?_))
  all_goals try simp (decide := true) only [am_u_at, am_u_j, am_u_ne]
  all_goals first
    | (refine Or.inl ⟨by omega, ?_⟩; first | trivial | exact rfl | exact ⟨rfl, rfl⟩ | (refine ⟨?_, rfl⟩; congr 2; omega))
    | (refine Or.inr (Or.inl ⟨by omega, ?_⟩); first | trivial | exact rfl | exact ⟨rfl, rfl⟩ | (refine ⟨?_, rfl⟩; congr 2; omega))
    | (refine Or.inr (Or.inr (Or.inl ⟨by omega, ?_⟩)); first | trivial | exact rfl | exact ⟨rfl, rfl⟩ | (refine ⟨?_, rfl⟩; congr 2; omega))
    | (refine Or.inr (Or.inr (Or.inr (⟨by omega, ?_⟩))); first | trivial | exact rfl | exact ⟨rfl, rfl⟩ | (refine ⟨?_, rfl⟩; congr 2; omega))
