theorem c_es_act2 (d : Nat) (i w : Int) (I : am_I) (hi : (-2147483648 ≤ i ∧ i < 2147483648)) (hw : (-2147483648 ≤ w ∧ w < 2147483648)) (hn : I 23 9 = 1 → 0 ≤ I 23 7 ∧ I 23 7 ≤ 96) (hj : I 23 9 = 0 ∨ I 23 9 = 1) : am_C (d + 1) Y_es_act [.inr (.inr 0), .inl i, .inl w] I (fun r I' => (¬ (0 ≤ w ∧ w ≤ 3) ∧ r = some (.inl (-2)) ∧ I' = I) ∨ (((0 ≤ w ∧ w ≤ 3) ∧ I 23 9 = 0) ∧ r = some (.inl (-3)) ∧ I' = I) ∨ (((0 ≤ w ∧ w ≤ 3) ∧ I 23 9 = 1 ∧ ¬ (0 ≤ i ∧ i < I 23 7)) ∧ r = some (.inl (-2)) ∧ I' = I) ∨ ((w = 0 ∧ I 23 9 = 1 ∧ (0 ≤ i ∧ i < I 23 7)) ∧ r = some (.inl (I 25 i.toNat)) ∧ I' = I) ∨ ((w = 1 ∧ I 23 9 = 1 ∧ (0 ≤ i ∧ i < I 23 7)) ∧ r = some (.inl (I 26 i.toNat)) ∧ I' = I) ∨ ((w = 2 ∧ I 23 9 = 1 ∧ (0 ≤ i ∧ i < I 23 7)) ∧ r = some (.inl (I 27 i.toNat)) ∧ I' = I) ∨ ((w = 3 ∧ I 23 9 = 1 ∧ (0 ≤ i ∧ i < I 23 7)) ∧ r = some (.inl (I 28 i.toNat)) ∧ I' = I)) := by
  refine am_enter ok_es_act rfl ?_
  repeat' (first
    | (refine am_gp 80 [] rfl (by first | exact True.intro | (refine And.intro ?_ ?_ <;> decide) | exact Or.inl rfl | exact Or.inr rfl | (simp (decide := true) only [am_p, am_u_at, am_u_j, am_u_ne]; omega) | (simp (decide := true) only [am_p, and_true, true_and, true_or, or_true, am_u_at, am_u_j, am_u_ne]; omega) | (simp (decide := true) [am_p, am_u_at, am_u_j, am_u_ne]; omega)) ?_)
    | (show am_V _ _ _ _ _ _ _; simp only [Int.reduceToNat])
    | (refine am_bt rfl (by first | omega | (simp (decide := true) only [am_u_at, am_u_j, am_u_ne]; omega)) (by first | omega | (simp (decide := true) only [am_u_at, am_u_j, am_u_ne]; omega)) ?_)
    | (refine am_bf rfl (by first | omega | (simp (decide := true) only [am_u_at, am_u_j, am_u_ne]; omega)) (by first | omega | (simp (decide := true) only [am_u_at, am_u_j, am_u_ne]; omega)) ?_)
    | (refine am_br rfl (by first | omega | (simp (decide := true) only [am_u_at, am_u_j, am_u_ne]; omega)) (fun h => ?_) (fun h => ?_))
    | (refine am_sw2 [72, 82, 92] 102 rfl rfl rfl rfl (by first | omega | (simp (decide := true) only [am_u_at, am_u_j, am_u_ne]; omega)) ?_ (fun h => ?_))
    | (unfold am_swc; refine ⟨fun h => ?_, ?_⟩)
    | (unfold am_swc; exact trivial)
    | (refine am_cS (y' := Y_es_outside) rfl lk_es_72 ok_es_outside rfl rfl (c_outside _ _ _ _ _ (by first | omega | (simp (decide := true) only [am_u_at, am_u_j, am_u_ne]; omega)) (by first | omega | (simp (decide := true) only [am_u_at, am_u_j, am_u_ne]; omega)) (by first | omega | (simp (decide := true) only [am_u_at, am_u_j, am_u_ne]; omega))) ?_; rintro r I ⟨rfl, (⟨rfl, h⟩ | ⟨rfl, h⟩)⟩ <;> (try (exfalso; omega)))
    | (refine am_rt rfl (by first | exact True.intro | (refine And.intro ?_ ?_ <;> decide) | exact Or.inl rfl | exact Or.inr rfl | (show _ ∨ _; omega)) ?_))
  all_goals try simp (decide := true) only [am_u_at, am_u_j, am_u_ne]
  all_goals first
    | (refine Or.inl ⟨by omega, ?_⟩; first | trivial | exact rfl | exact ⟨rfl, rfl⟩ | (refine ⟨?_, rfl⟩; congr 2; omega))
    | (refine Or.inr (Or.inl ⟨by omega, ?_⟩); first | trivial | exact rfl | exact ⟨rfl, rfl⟩ | (refine ⟨?_, rfl⟩; congr 2; omega))
    | (refine Or.inr (Or.inr (Or.inl ⟨by omega, ?_⟩)); first | trivial | exact rfl | exact ⟨rfl, rfl⟩ | (refine ⟨?_, rfl⟩; congr 2; omega))
    | (refine Or.inr (Or.inr (Or.inr (Or.inl ⟨by omega, ?_⟩))); first | trivial | exact rfl | exact ⟨rfl, rfl⟩ | (refine ⟨?_, rfl⟩; congr 2; omega))
    | (refine Or.inr (Or.inr (Or.inr (Or.inr (Or.inl ⟨by omega, ?_⟩)))); first | trivial | exact rfl | exact ⟨rfl, rfl⟩ | (refine ⟨?_, rfl⟩; congr 2; omega))
    | (refine Or.inr (Or.inr (Or.inr (Or.inr (Or.inr (Or.inl ⟨by omega, ?_⟩))))); first | trivial | exact rfl | exact ⟨rfl, rfl⟩ | (refine ⟨?_, rfl⟩; congr 2; omega))
    | (refine Or.inr (Or.inr (Or.inr (Or.inr (Or.inr (Or.inr (⟨by omega, ?_⟩)))))); first | trivial | exact rfl | exact ⟨rfl, rfl⟩ | (refine ⟨?_, rfl⟩; congr 2; omega))
theorem q_mask (n : Nat) (b : Int) (I : am_I) (hb : (-2147483648 ≤ b ∧ b < 2147483648)) (h : es_rel n I) : es_qf n 9 Y_es_mask Y_mo_mask [.inr (.inr 0), .inl b] [.inr (.inr 44), .inl b] I := by
  obtain ⟨hrow, hmea, hrul, hmet, hhar, hpup, hjud, h9, h12, h16, h22⟩ := id h
  obtain ⟨⟨c1, c2, c3, c4, c5, c6⟩, ⟨a1, a2⟩, b1, b2⟩ := id hhar
  refine am_C_mono (c_es_mask 8 b I hb c1) ?_
  intro r1 I1 hp
  have hmo : I1 44 = I 44 → _ := fun z => c_mo_mask 8 b I1 hb (by rw [z]; omega)
  rcases hp with ⟨c, e1, e2⟩ | ⟨c, e1, e2⟩ | ⟨c, e1, e2⟩
  all_goals
    have k44 : I1 44 = I 44 := by rw [e2] <;> rfl
    refine ⟨_, e1, am_C_mono (hmo k44) ?_⟩
    intro r2 I2 hq
    rw [k44, a1] at hq
    rcases hq with ⟨c', e3, e4⟩ | ⟨c', e3, e4⟩ | ⟨c', e3, e4⟩
  · rw [e4, e2]; exact ⟨e3, es_rel_s h⟩
  · exact absurd c'.1 c
  · exact absurd c'.1 c
  · exact absurd c.1 c'
  · rw [e4, e2]; exact ⟨e3, es_rel_s h⟩
  · exfalso
    have z1 := c.2
    have z2 := c'.2
    omega
  · exact absurd c.1 c'
  · exfalso
    have z1 := c.2
    have z2 := c'.2
    omega
  · have fx : es_fx I I2 [18, 50] [(17, 2), (17, 4), (44, 20)] := by
      rw [e4, e2]
      exact (((((es_fx.rf (C := [18, 50]) (F := [(17, 2), (17, 4), (44, 20)])).u (Or.inl rfl)).u (Or.inr rfl)).u (Or.inr rfl)).u (Or.inl rfl)).u (Or.inr rfl)
    refine ⟨e3, ⟨rl_row_k fx rfl hrow, rl_mea_k fx rfl hmea, rl_rul_k fx rfl hrul, rl_met_k fx rfl hmet, ?_, rl_pup_k fx rfl hpup, rl_jud_k fx rfl hjud, es_i9_k fx rfl h9, es_i12_k fx rfl h12, es_i16_k fx rfl h16, Or.inl (by rw [e4, e2]; rfl)⟩⟩
    have v2 : I2 17 2 = I 17 2 + 1 := by rw [e4, e2]; rfl
    have v3 : I2 17 3 = I 17 3 := by rw [e4, e2]; rfl
    have v18 : I2 18 = am_up (I 18) (I 17 2).toNat b := by rw [e4, e2]; rfl
    have v19 : I2 19 = I 19 := by rw [e4, e2]; rfl
    have v50 : I2 50 = am_up (I 50) (I 17 2).toNat b := by rw [e4, e2]; rfl
    have v51 : I2 51 = I 51 := by rw [e4, e2]; rfl
    have m20 : I2 44 20 = I 17 2 + 1 := by rw [e4]; rfl
    have m23 : I2 44 23 = I 44 23 := by rw [e4, e2]; rfl
    have z2 := c.2
    unfold rl_har es_hc
    rw [v2, v3, v18, v19, v50, v51, m20, m23]
    refine ⟨⟨by omega, c2, c3, c4, c5, fun j hj => ?_⟩, ⟨rfl, a2⟩, fun j hj => ?_, b2⟩
    · by_cases g : j = (I 17 2).toNat
      · rw [g, am_up_eq]; exact c.1
      · rw [am_up_ne g]; exact c6 j (by omega)
    · by_cases g : j = (I 17 2).toNat
      · rw [g, am_up_eq, am_up_eq]
      · rw [am_up_ne g, am_up_ne g]; exact b1 j hj
theorem q_clear (n : Nat) (I : am_I) (h : es_rel n I) : es_qf n 9 Y_es_clear Y_mo_clear [.inr (.inr 0)] [.inr (.inr 44)] I := by
  obtain ⟨hrow, hmea, hrul, hmet, hhar, hpup, hjud, h9, h12, h16, h22⟩ := id h
  obtain ⟨⟨c1, c2, c3, c4, c5, c6⟩, ⟨a1, a2⟩, b1, b2⟩ := id hhar
  refine am_C_mono (c_es_clear 9 I) ?_
  intro r1 I1 hp
  obtain ⟨-, e1, e2⟩ := hp
  have f44 : I1 44 20 = I 17 2 := by rw [e2]; exact a1
  refine ⟨_, e1, am_C_mono (c_mo_clear 9 I1) ?_⟩
  intro r2 I2 hq
  obtain ⟨-, e3, e4⟩ := hq
  rw [f44] at e3
  have fx : es_fx I I2 [] [(17, 2), (17, 4), (44, 20)] := by
    rw [e4, e2]
    exact (((es_fx.rf (C := []) (F := [(17, 2), (17, 4), (44, 20)])).u (Or.inr rfl)).u (Or.inr rfl)).u (Or.inr rfl)
  refine ⟨e3, ⟨rl_row_k fx rfl hrow, rl_mea_k fx rfl hmea, rl_rul_k fx rfl hrul, rl_met_k fx rfl hmet, ?_, rl_pup_k fx rfl hpup, rl_jud_k fx rfl hjud, es_i9_k fx rfl h9, es_i12_k fx rfl h12, es_i16_k fx rfl h16, Or.inl (by rw [e4, e2]; rfl)⟩⟩
  have v2 : I2 17 2 = 0 := by rw [e4, e2]; rfl
  have v3 : I2 17 3 = I 17 3 := by rw [e4, e2]; rfl
  have v18 : I2 18 = I 18 := by rw [e4, e2]; rfl
  have v19 : I2 19 = I 19 := by rw [e4, e2]; rfl
  have v50 : I2 50 = I 50 := by rw [e4, e2]; rfl
  have v51 : I2 51 = I 51 := by rw [e4, e2]; rfl
  have m20 : I2 44 20 = 0 := by rw [e4]; rfl
  have m23 : I2 44 23 = I 44 23 := by rw [e4, e2]; rfl
  unfold rl_har es_hc
  rw [v2, v3, v18, v19, v50, v51, m20, m23]
  exact ⟨⟨by omega, c2, c3, c4, c5, fun j hj => by omega⟩, ⟨rfl, a2⟩, b1, b2⟩
theorem q_voice (n : Nat) (w v : Int) (I : am_I) (hw : (-2147483648 ≤ w ∧ w < 2147483648)) (hv : (-2147483648 ≤ v ∧ v < 2147483648)) (h : es_rel n I) : es_qf n 9 Y_es_voice Y_mo_voice [.inr (.inr 0), .inl w, .inl v] [.inr (.inr 44), .inl w, .inl v] I := by
  obtain ⟨hrow, hmea, hrul, hmet, hhar, hpup, hjud, h9, h12, h16, h22⟩ := id h
  obtain ⟨⟨c1, c2, c3, c4, c5, c6⟩, ⟨a1, a2⟩, b1, b2⟩ := id hhar
  refine am_C_mono (c_es_voice 8 w v I hw hv) ?_
  intro r1 I1 hp
  have hmo := c_mo_voice 8 w v I1 hw hv
  rcases hp with ⟨c, e1, e2⟩ | ⟨c, e1, e2⟩ | ⟨c, e1, e2⟩
  all_goals
    refine ⟨_, e1, am_C_mono hmo ?_⟩
    intro r2 I2 hq
    rcases hq with ⟨c', e3, e4⟩ | ⟨c', e3, e4⟩ | ⟨c', e3, e4⟩
  · rw [e4, e2]; exact ⟨e3, es_rel_s h⟩
  · exfalso; omega
  · exfalso; omega
  · exfalso; omega
  · have fx : es_fx I I2 [] [(17, 3), (17, 4), (44, 23)] := by
      rw [e4, e2]
      exact (((es_fx.rf (C := []) (F := [(17, 3), (17, 4), (44, 23)])).u (Or.inr rfl)).u (Or.inr rfl)).u (Or.inr rfl)
    have e5 : I1 44 23 = I 17 3 := by rw [e2]; exact a2
    refine ⟨e3.trans (by rw [e5]), ⟨rl_row_k fx rfl hrow, rl_mea_k fx rfl hmea, rl_rul_k fx rfl hrul, rl_met_k fx rfl hmet, ?_, rl_pup_k fx rfl hpup, rl_jud_k fx rfl hjud, es_i9_k fx rfl h9, es_i12_k fx rfl h12, es_i16_k fx rfl h16, Or.inl (by rw [e4, e2]; rfl)⟩⟩
    have v2 : I2 17 2 = I 17 2 := by rw [e4, e2]; rfl
    have v3 : I2 17 3 = v := by rw [e4, e2]; rfl
    have v18 : I2 18 = I 18 := by rw [e4, e2]; rfl
    have v19 : I2 19 = I 19 := by rw [e4, e2]; rfl
    have v50 : I2 50 = I 50 := by rw [e4, e2]; rfl
    have v51 : I2 51 = I 51 := by rw [e4, e2]; rfl
    have m20 : I2 44 20 = I 44 20 := by rw [e4, e2]; rfl
    have m23 : I2 44 23 = v := by rw [e4]; rfl
    unfold rl_har es_hc
    rw [v2, v3, v18, v19, v50, v51, m20, m23]
    exact ⟨⟨c1, c2, c3, c4, by omega, c6⟩, ⟨a1, rfl⟩, b1, b2⟩
  · exfalso; omega
  · exfalso; omega
  · exfalso; omega
  · have e5 : I1 51 w.toNat = I 19 w.toNat := by rw [e2]; exact b2 w.toNat (by omega)
    rw [e5] at e3
    have hw3 : w = 0 ∨ w = 1 ∨ w = 2 := by omega
    rcases hw3 with rfl | rfl | rfl
    · have fx : es_fx I I2 [19, 51] [(17, 4)] := by
        rw [e4, e2]
        exact (((es_fx.rf (C := [19, 51]) (F := [(17, 4)])).u (Or.inl rfl)).u (Or.inr rfl)).u (Or.inl rfl)
      refine ⟨e3, ⟨rl_row_k fx rfl hrow, rl_mea_k fx rfl hmea, rl_rul_k fx rfl hrul, rl_met_k fx rfl hmet, ?_, rl_pup_k fx rfl hpup, rl_jud_k fx rfl hjud, es_i9_k fx rfl h9, es_i12_k fx rfl h12, es_i16_k fx rfl h16, Or.inl (by rw [e4, e2]; rfl)⟩⟩
      have v2 : I2 17 2 = I 17 2 := by rw [e4, e2]; rfl
      have v3 : I2 17 3 = I 17 3 := by rw [e4, e2]; rfl
      have v18 : I2 18 = I 18 := by rw [e4, e2]; rfl
      have v19 : I2 19 = am_up (I 19) 0 v := by rw [e4, e2]; rfl
      have v50 : I2 50 = I 50 := by rw [e4, e2]; rfl
      have v51 : I2 51 = am_up (I 51) 0 v := by rw [e4, e2]; rfl
      have m44 : I2 44 = I 44 := by rw [e4, e2]; rfl
      unfold rl_har es_hc
      rw [v2, v3, v18, v19, v50, v51, m44]
      refine ⟨⟨c1, ?_, ?_, ?_, c5, c6⟩, ⟨a1, a2⟩, b1, fun j hj => ?_⟩
      · rw [am_up_eq]; omega
      · rw [am_up_ne (by decide)]; exact c3
      · rw [am_up_ne (by decide)]; exact c4
      · by_cases g : j = 0
        · rw [g, am_up_eq, am_up_eq]
        · rw [am_up_ne g, am_up_ne g]; exact b2 j hj
    · have fx : es_fx I I2 [19, 51] [(17, 4)] := by
        rw [e4, e2]
        exact (((es_fx.rf (C := [19, 51]) (F := [(17, 4)])).u (Or.inl rfl)).u (Or.inr rfl)).u (Or.inl rfl)
      refine ⟨e3, ⟨rl_row_k fx rfl hrow, rl_mea_k fx rfl hmea, rl_rul_k fx rfl hrul, rl_met_k fx rfl hmet, ?_, rl_pup_k fx rfl hpup, rl_jud_k fx rfl hjud, es_i9_k fx rfl h9, es_i12_k fx rfl h12, es_i16_k fx rfl h16, Or.inl (by rw [e4, e2]; rfl)⟩⟩
      have v2 : I2 17 2 = I 17 2 := by rw [e4, e2]; rfl
      have v3 : I2 17 3 = I 17 3 := by rw [e4, e2]; rfl
      have v18 : I2 18 = I 18 := by rw [e4, e2]; rfl
      have v19 : I2 19 = am_up (I 19) 1 v := by rw [e4, e2]; rfl
      have v50 : I2 50 = I 50 := by rw [e4, e2]; rfl
      have v51 : I2 51 = am_up (I 51) 1 v := by rw [e4, e2]; rfl
      have m44 : I2 44 = I 44 := by rw [e4, e2]; rfl
      unfold rl_har es_hc
      rw [v2, v3, v18, v19, v50, v51, m44]
      refine ⟨⟨c1, ?_, ?_, ?_, c5, c6⟩, ⟨a1, a2⟩, b1, fun j hj => ?_⟩
      · rw [am_up_ne (by decide)]; exact c2
      · rw [am_up_eq]; omega
      · rw [am_up_ne (by decide)]; exact c4
      · by_cases g : j = 1
        · rw [g, am_up_eq, am_up_eq]
        · rw [am_up_ne g, am_up_ne g]; exact b2 j hj
    · have fx : es_fx I I2 [19, 51] [(17, 4)] := by
        rw [e4, e2]
        exact (((es_fx.rf (C := [19, 51]) (F := [(17, 4)])).u (Or.inl rfl)).u (Or.inr rfl)).u (Or.inl rfl)
      refine ⟨e3, ⟨rl_row_k fx rfl hrow, rl_mea_k fx rfl hmea, rl_rul_k fx rfl hrul, rl_met_k fx rfl hmet, ?_, rl_pup_k fx rfl hpup, rl_jud_k fx rfl hjud, es_i9_k fx rfl h9, es_i12_k fx rfl h12, es_i16_k fx rfl h16, Or.inl (by rw [e4, e2]; rfl)⟩⟩
      have v2 : I2 17 2 = I 17 2 := by rw [e4, e2]; rfl
      have v3 : I2 17 3 = I 17 3 := by rw [e4, e2]; rfl
      have v18 : I2 18 = I 18 := by rw [e4, e2]; rfl
      have v19 : I2 19 = am_up (I 19) 2 v := by rw [e4, e2]; rfl
      have v50 : I2 50 = I 50 := by rw [e4, e2]; rfl
      have v51 : I2 51 = am_up (I 51) 2 v := by rw [e4, e2]; rfl
      have m44 : I2 44 = I 44 := by rw [e4, e2]; rfl
      unfold rl_har es_hc
      rw [v2, v3, v18, v19, v50, v51, m44]
      refine ⟨⟨c1, ?_, ?_, ?_, c5, c6⟩, ⟨a1, a2⟩, b1, fun j hj => ?_⟩
      · rw [am_up_ne (by decide)]; exact c2
      · rw [am_up_ne (by decide)]; exact c3
      · rw [am_up_eq]; omega
      · by_cases g : j = 2
        · rw [g, am_up_eq, am_up_eq]
        · rw [am_up_ne g, am_up_ne g]; exact b2 j hj
theorem q_chords (n : Nat) (I : am_I) (h : es_rel n I) : es_qg n 9 Y_es_chords Y_mo_chords [.inr (.inr 0)] [.inr (.inr 44)] I := by
  obtain ⟨hrow, hmea, hrul, hmet, hhar, hpup, hjud, h9, h12, h16, h22⟩ := id h
  obtain ⟨hc, ⟨a1, a2⟩, b1, b2⟩ := id hhar
  refine am_C_mono (c_es_chords 3 I hc h22) ?_
  intro r1 I1 hp
  obtain ⟨e1, f1, m17, i22⟩ := hp
  have k44 : I1 44 = I 44 := f1 44 rfl
  have k50 : I1 50 = I 50 := f1 50 rfl
  have k51 : I1 51 = I 51 := f1 51 rfl
  refine ⟨_, e1, am_C_mono (c_mo_chords 6 I1 (es_hm_c k44 k50 k51 (rl_hm hhar))) ?_⟩
  intro r2 I2 hq
  obtain ⟨e3, f2, -⟩ := hq
  rw [k44, a1, a2, es_Lm_c k50 k51, rl_Lm hhar] at e3
  have f1' : es_fx I I1 [20, 21, 22] [(17, 4)] := (es_fx.fr (C := [17, 20, 21, 22]) f1).cut (fun k hk => by rw [m17, es_up1 hk rfl])
  have fx : es_fx I I2 ([20, 21, 22] ++ [56, 57, 58]) ([(17, 4)] ++ []) := f1'.tr (es_fx.fr f2)
  have fy : es_fx I1 I2 [56, 57, 58] [] := es_fx.fr f2
  exact ⟨e3, ⟨rl_row_k fx rfl hrow, rl_mea_k fx rfl hmea, rl_rul_k fx rfl hrul, rl_met_k fx rfl hmet, rl_har_k fx rfl hhar, rl_pup_k fx rfl hpup, rl_jud_k fx rfl hjud, es_i9_k fx rfl h9, es_i12_k fx rfl h12, es_i16_k fx rfl h16, es_i22_k fy rfl i22⟩⟩
theorem q_chord (n : Nat) (k i v : Int) (I : am_I) (hk : -9223372036854775808 ≤ k ∧ k < 9223372036854775808) (hi : (-2147483648 ≤ i ∧ i < 2147483648)) (hv : (-2147483648 ≤ v ∧ v < 2147483648)) (h : es_rel n I) : es_qf n 9 Y_es_chord Y_mo_chord [.inr (.inr 0), .inr (.inl k), .inl i, .inl v] [.inr (.inr 44), .inr (.inl k), .inl i, .inl v] I := by
  obtain ⟨hrow, hmea, hrul, hmet, hhar, hpup, hjud, h9, h12, h16, h22⟩ := id h
  obtain ⟨hc, ⟨a1, a2⟩, b1, b2⟩ := id hhar
  refine am_C_mono (c_es_chord 3 k i v I hk hi hv hc h22) ?_
  intro r1 I1 hp
  have hmo : I1 44 = I 44 → I1 50 = I 50 → I1 51 = I 51 → _ := fun z1 z2 z3 => c_mo_chord 5 k i v I1 hk hi hv (es_hm_c z1 z2 z3 (rl_hm hhar))
  rcases hp with ⟨c, e1, e2⟩ | ⟨c, e1, f1, m17, i22⟩ | ⟨c, e1, f1, m17, i22⟩
  · have k44 : I1 44 = I 44 := by rw [e2]
    have k50 : I1 50 = I 50 := by rw [e2]
    have k51 : I1 51 = I 51 := by rw [e2]
    refine ⟨_, e1, am_C_mono (hmo k44 k50 k51) ?_⟩
    intro r2 I2 hq
    rw [k44, a1, a2, es_Lm_c k50 k51, rl_Lm hhar] at hq
    rcases hq with ⟨c', e3, e4⟩ | ⟨c', e3, f2⟩ | ⟨c', e3, f2⟩
    · rw [e4, e2]; exact ⟨e3, es_rel_s h⟩
    · exact absurd c'.1 c
    · exact absurd c'.1 c
  all_goals
    have k44 : I1 44 = I 44 := f1 44 rfl
    have k50 : I1 50 = I 50 := f1 50 rfl
    have k51 : I1 51 = I 51 := f1 51 rfl
    refine ⟨_, e1, am_C_mono (hmo k44 k50 k51) ?_⟩
    intro r2 I2 hq
    rw [k44, a1, a2, es_Lm_c k50 k51, rl_Lm hhar] at hq
    have f1' : es_fx I I1 [20, 21, 22] [(17, 4)] := (es_fx.fr (C := [17, 20, 21, 22]) f1).cut (fun k hk => by rw [m17, es_up1 hk rfl])
    rcases hq with ⟨c', e3, e4⟩ | ⟨c', e3, f2⟩ | ⟨c', e3, f2⟩
  · exact absurd c.1 c'
  · have fx : es_fx I I2 ([20, 21, 22] ++ [56, 57, 58]) ([(17, 4)] ++ []) := f1'.tr (es_fx.fr f2)
    have fy : es_fx I1 I2 [56, 57, 58] [] := es_fx.fr f2
    exact ⟨e3, ⟨rl_row_k fx rfl hrow, rl_mea_k fx rfl hmea, rl_rul_k fx rfl hrul, rl_met_k fx rfl hmet, rl_har_k fx rfl hhar, rl_pup_k fx rfl hpup, rl_jud_k fx rfl hjud, es_i9_k fx rfl h9, es_i12_k fx rfl h12, es_i16_k fx rfl h16, es_i22_k fy rfl i22⟩⟩
  · exfalso
    have z1 := c.2
    have z2 := c'.2
    omega
  · exact absurd c.1 c'
  · exfalso
    have z1 := c.2
    have z2 := c'.2
    omega
  · have fx : es_fx I I2 ([20, 21, 22] ++ [56, 57, 58]) ([(17, 4)] ++ []) := f1'.tr (es_fx.fr f2)
    have fy : es_fx I1 I2 [56, 57, 58] [] := es_fx.fr f2
    exact ⟨e3, ⟨rl_row_k fx rfl hrow, rl_mea_k fx rfl hmea, rl_rul_k fx rfl hrul, rl_met_k fx rfl hmet, rl_har_k fx rfl hhar, rl_pup_k fx rfl hpup, rl_jud_k fx rfl hjud, es_i9_k fx rfl h9, es_i12_k fx rfl h12, es_i16_k fx rfl h16, es_i22_k fy rfl i22⟩⟩
theorem q_meant (n : Nat) (I : am_I) (h : es_rel n I) : es_qf n 9 Y_es_meant Y_mo_meant [.inr (.inr 0)] [.inr (.inr 44)] I := by
  obtain ⟨hrow, hmea, hrul, hmet, hhar, hpup, hjud, h9, h12, h16, h22⟩ := id h
  obtain ⟨w1, w2, w3⟩ := id hrow
  refine am_C_mono (c_es_meant 7 I w1) ?_
  intro r1 I1 hp
  obtain ⟨e1, f1, sn, s0, sv⟩ := hp
  have k44 : I1 44 = I 44 := f1 44 rfl
  have k45 : I1 45 = I 45 := f1 45 rfl
  have k46 : I1 46 = I 46 := f1 46 rfl
  refine ⟨_, e1, am_C_mono (c_mo_meant 9 I1 (by rw [k44]; omega)) ?_⟩
  intro r2 I2 hq
  rw [k44, k45, k46, w2] at hq
  obtain ⟨e3, f2, m44, mv⟩ := hq
  have fy : es_fx I1 I2 [47, 48] [(44, 3), (44, 6)] := (es_fx.fr (C := [44, 47, 48]) f2).cut (fun k hk => by rw [m44, es_up1 hk rfl, es_up1 hk rfl, k44])
  have fx : es_fx I I2 ([4, 5, 6, 23] ++ [47, 48]) ([] ++ [(44, 3), (44, 6)]) := (es_fx.fr f1).tr fy
  refine ⟨e3, ⟨rl_row_k fx rfl hrow, ?_, rl_rul_k fx rfl hrul, rl_met_k fx rfl hmet, rl_har_k fx rfl hhar, rl_pup_k fx rfl hpup, ?_, es_i9_k fx rfl h9, es_i12_k fx rfl h12, es_i16_k fx rfl h16, es_i22_k fx rfl h22⟩⟩
  · have v1 : I2 4 2 = I 1 2 := by rw [fy 4 2 rfl rfl, sn]
    have v2 : I2 44 3 = I 1 2 := by rw [m44]; rfl
    have v3 : I2 5 = I1 5 := f2 5 rfl
    have v4 : I2 6 = I1 6 := f2 6 rfl
    unfold rl_mea
    rw [v1, v2, v3, v4]
    refine ⟨w1, rfl, fun j hj => ?_⟩
    have h1 := sv j hj
    have h2 := mv j hj
    have h3 := w3 j hj
    rw [h1.1, h1.2, h2.1, h2.2]
    exact h3
  · refine rl_jud_0 (by rw [fy 23 9 rfl rfl]; exact s0) (by rw [m44]; rfl) ?_
    rw [fx 44 32 rfl rfl]
    exact hjud.2.2.1
theorem q_judge (n : Nat) (I : am_I) (h : es_rel n I) : es_qf n 9 Y_es_judge Y_mo_judge [.inr (.inr 0)] [.inr (.inr 44)] I := by
  obtain ⟨hrow, hmea, hrul, hmet, hhar, hpup, hjud, h9, h12, h16, h22⟩ := id h
  obtain ⟨w1, w2, w3⟩ := id hrow
  obtain ⟨u1, u2, u3⟩ := id hmea
  have hM : I 4 2 = (((I 4 2).toNat : Nat) : Int) := by omega
  have hN : I 1 2 = (((I 1 2).toNat : Nat) : Int) := by omega
  have hQ := rl_Qm hrow hmea
  refine am_C_mono (c_es_judge 2 I (I 4 2).toNat (I 1 2).toNat (rl_nc hrow hmea) hM hN hjud.1) ?_
  intro r1 I1 hp
  have hmo : I1 44 = I 44 → I1 45 = I 45 → I1 46 = I 46 → I1 47 = I 47 → I1 48 = I 48 → _ := fun z1 z2 z3 z4 z5 => c_mo_judge 6 I1 (I 4 2).toNat (I 1 2).toNat (by unfold es_nm; rw [z1, z2, z3, z4, z5]; exact rl_nm hrow hmea) (by rw [z1, u2]; exact hM) (by rw [z1, w2]; exact hN)
  have hQ1 : I1 44 = I 44 → I1 45 = I 45 → I1 46 = I 46 → I1 47 = I 47 → I1 48 = I 48 → es_Qm I1 = es_Qc I := fun z1 z2 z3 z4 z5 => by
    rw [← hQ]
    unfold es_Qm
    rw [z1, z2, z3, z4, z5]
  rcases hp with ⟨c, e1, e2⟩ | ⟨c, e1, f1, T, hT, hjT, m23, hax⟩
  · obtain ⟨T, t1, t2, t3, t4, t5, t6, t7⟩ := hjud.2.2.2 c
    rw [t5] at e1
    refine ⟨_, e1, ?_⟩
    rw [e2] at hmo hQ1 ⊢
    refine am_C_mono (hmo rfl rfl rfl rfl rfl) ?_
    intro r2 I2 hq
    rw [hQ1 rfl rfl rfl rfl rfl] at hq
    obtain ⟨e3, f2, T2, g1, g2, g3, g4⟩ := hq
    have eT : T2 = T := es_jT_u g2 t2
    rw [eT] at g3 g4
    have fx : es_fx I I2 [59, 60, 61, 62, 63, 64] [(44, 32), (44, 6)] := (es_fx.fr (C := [44, 59, 60, 61, 62, 63, 64]) f2).cut (fun k hk => by rw [g3, es_up1 hk rfl, es_up1 hk rfl])
    refine ⟨e3, ⟨rl_row_k fx rfl hrow, rl_mea_k fx rfl hmea, rl_rul_k fx rfl hrul, rl_met_k fx rfl hmet, rl_har_k fx rfl hhar, rl_pup_k fx rfl hpup, ?_, es_i9_k fx rfl h9, es_i12_k fx rfl h12, es_i16_k fx rfl h16, es_i22_k fx rfl h22⟩⟩
    have v32 : I2 44 32 = (T : Int) := by rw [g3]; rfl
    have v6 : I2 44 6 = 1 := by rw [g3]; rfl
    have v23 : I2 23 = I 23 := f2 23 rfl
    have v1 : I2 1 = I 1 := f2 1 rfl
    have v4 : I2 4 = I 4 := f2 4 rfl
    have vQ : es_Qc I2 = es_Qc I := by
      unfold es_Qc
      rw [v1, v4, f2 2 rfl, f2 3 rfl, f2 5 rfl, f2 6 rfl]
    refine ⟨by rw [v23]; omega, by rw [v6, v23, c], by omega, fun _ => ⟨T, ?_⟩⟩
    unfold rl_jd
    rw [vQ, v1, v4, v23, v32]
    refine ⟨t1, t2, t3, rfl, t5, fun k hk => ?_, g4⟩
    have h6 := t6 k hk
    unfold es_axc at h6 ⊢
    rw [f2 25 rfl, f2 26 rfl, f2 27 rfl, f2 28 rfl]
    exact h6
  · have k44 : I1 44 = I 44 := f1 44 rfl
    have k45 : I1 45 = I 45 := f1 45 rfl
    have k46 : I1 46 = I 46 := f1 46 rfl
    have k47 : I1 47 = I 47 := f1 47 rfl
    have k48 : I1 48 = I 48 := f1 48 rfl
    refine ⟨_, e1, am_C_mono (hmo k44 k45 k46 k47 k48) ?_⟩
    intro r2 I2 hq
    rw [hQ1 k44 k45 k46 k47 k48] at hq
    obtain ⟨e3, f2, T2, g1, g2, g3, g4⟩ := hq
    have eT : T2 = T := es_jT_u g2 hjT
    rw [eT] at g3 g4
    have fy : es_fx I1 I2 [59, 60, 61, 62, 63, 64] [(44, 32), (44, 6)] := (es_fx.fr (C := [44, 59, 60, 61, 62, 63, 64]) f2).cut (fun k hk => by rw [g3, es_up1 hk rfl, es_up1 hk rfl])
    have fx : es_fx I I2 ([23, 24, 25, 26, 27, 28] ++ [59, 60, 61, 62, 63, 64]) ([] ++ [(44, 32), (44, 6)]) := (es_fx.fr f1).tr fy
    refine ⟨e3, ⟨rl_row_k fx rfl hrow, rl_mea_k fx rfl hmea, rl_rul_k fx rfl hrul, rl_met_k fx rfl hmet, rl_har_k fx rfl hhar, rl_pup_k fx rfl hpup, ?_, es_i9_k fx rfl h9, es_i12_k fx rfl h12, es_i16_k fx rfl h16, es_i22_k fx rfl h22⟩⟩
    have v32 : I2 44 32 = (T : Int) := by rw [g3]; rfl
    have v6 : I2 44 6 = 1 := by rw [g3]; rfl
    have v23 : I2 23 = I1 23 := f2 23 rfl
    have v7 : I1 23 7 = (T : Int) := by rw [m23]; rfl
    have v8 : I1 23 8 = es_k0 (es_Qc I) (I 4 2).toNat (I 1 2).toNat (I 4 2).toNat (I 1 2).toNat 0 := by rw [m23]; rfl
    have v9 : I1 23 9 = 1 := by rw [m23]; rfl
    have v1 : I2 1 = I 1 := (f2 1 rfl).trans (f1 1 rfl)
    have v4 : I2 4 = I 4 := (f2 4 rfl).trans (f1 4 rfl)
    have vQ : es_Qc I2 = es_Qc I := by
      unfold es_Qc
      rw [v1, v4, f2 2 rfl, f2 3 rfl, f2 5 rfl, f2 6 rfl, f1 2 rfl, f1 3 rfl, f1 5 rfl, f1 6 rfl]
    refine ⟨by rw [v23, v9]; omega, by rw [v6, v23, v9], by omega, fun _ => ⟨T, ?_⟩⟩
    unfold rl_jd
    rw [vQ, v1, v4, v23, v32]
    refine ⟨hT, hjT, v7, rfl, v8, fun k hk => ?_, g4⟩
    have h6 := hax k hk
    unfold es_axc at h6 ⊢
    rw [f2 25 rfl, f2 26 rfl, f2 27 rfl, f2 28 rfl]
    exact h6
theorem q_act (n : Nat) (i w : Int) (I : am_I) (hi : (-2147483648 ≤ i ∧ i < 2147483648)) (hw : (-2147483648 ≤ w ∧ w < 2147483648)) (h : es_rel n I) : es_qf n 9 Y_es_act Y_mo_act [.inr (.inr 0), .inl i, .inl w] [.inr (.inr 44), .inl i, .inl w] I := by
  obtain ⟨hrow, hmea, hrul, hmet, hhar, hpup, hjud, h9, h12, h16, h22⟩ := id h
  obtain ⟨j1, j2, j3, j4⟩ := id hjud
  have d7 : I 23 9 = 1 → I 44 32 = I 23 7 ∧ (0 ≤ I 23 7 ∧ I 23 7 ≤ 96) := by
    intro z
    obtain ⟨T, t1, t2, t3, t4, t5⟩ := j4 z
    omega
  have dv : I 23 9 = 1 → 0 ≤ i → i < I 23 7 → I 60 i.toNat = I 25 i.toNat ∧ I 61 i.toNat = I 26 i.toNat ∧ I 62 i.toNat = I 27 i.toNat ∧ I 63 i.toNat = I 28 i.toNat := by
    intro z z1 z2
    obtain ⟨T, t1, t2, t3, t4, t5, t6, t7⟩ := j4 z
    obtain ⟨x0, x1, x2, x3⟩ := t6 i.toNat (by omega)
    obtain ⟨y0, y1, y2, y3, y4⟩ := t7 i.toNat (by omega)
    exact ⟨y0.trans x0.symm, y1.trans x1.symm, y2.trans x2.symm, y3.trans x3.symm⟩
  refine am_C_mono (c_es_act2 8 i w I hi hw (fun z => (d7 z).2) (by omega)) ?_
  intro r1 I1 hp
  have hmo := c_mo_act 8 i w I hi hw j3 (by omega)
  rcases hp with ⟨c, e1, e2⟩ | ⟨c, e1, e2⟩ | ⟨c, e1, e2⟩ | ⟨c, e1, e2⟩ | ⟨c, e1, e2⟩ | ⟨c, e1, e2⟩ | ⟨c, e1, e2⟩
  all_goals
    rw [e1, e2]
    refine ⟨_, rfl, am_C_mono hmo ?_⟩
    intro r2 I2 hq
    rcases hq with ⟨c', e3, e4⟩ | ⟨c', e3, e4⟩ | ⟨c', e3, e4⟩ | ⟨c', e3, e4⟩ | ⟨c', e3, e4⟩ | ⟨c', e3, e4⟩ | ⟨c', e3, e4⟩
    all_goals first
      | (exfalso; omega)
      | (rw [e3, e4]; exact ⟨rfl, es_rel_s h⟩)
      | (rw [e3, e4, (dv (by omega) (by omega) (by omega)).1]; exact ⟨rfl, es_rel_s h⟩)
      | (rw [e3, e4, (dv (by omega) (by omega) (by omega)).2.1]; exact ⟨rfl, es_rel_s h⟩)
      | (rw [e3, e4, (dv (by omega) (by omega) (by omega)).2.2.1]; exact ⟨rfl, es_rel_s h⟩)
      | (rw [e3, e4, (dv (by omega) (by omega) (by omega)).2.2.2]; exact ⟨rfl, es_rel_s h⟩)
