theorem q_learn (n : Nat) (p : Int) (I : am_I) (hp : (-2147483648 ≤ p ∧ p < 2147483648)) (h : es_rel n I) : es_qf n 9 Y_es_learn Y_mo_learn [.inr (.inr 0), .inl p] [.inr (.inr 44), .inl p] I := by
  obtain ⟨hrow, hmea, hrul, hmet, hhar, hpup, hjud, h9, h12, h16, h22⟩ := id h
  obtain ⟨w1, w2, w3⟩ := id hrow
  obtain ⟨u1, u2, u3⟩ := id hmea
  obtain ⟨j1, j2, j3, j4⟩ := id hjud
  have hM : I 4 2 = (((I 4 2).toNat : Nat) : Int) := by omega
  have hN : I 1 2 = (((I 1 2).toNat : Nat) : Int) := by omega
  have hQ := rl_Qm hrow hmea
  by_cases g : I 23 9 = 1
  · obtain ⟨T, t1, t2, t3, t4, t5, t6, t7⟩ := j4 g
    refine am_C_mono (c_es_learn 7 p I (I 4 2).toNat (I 1 2).toNat T hp (rl_nc hrow hmea) hM hN j1 (fun _ => ⟨t1, t2, t3, t6⟩)) ?_
    intro r1 I1 hpo
    have hmo : (∀ a : Nat, 44 ≤ a → I1 a = I a) → _ := fun z => c_mo_learn 8 p I1 (I 4 2).toNat (I 1 2).toNat T hp (by unfold es_nm; rw [z 44 (by omega), z 45 (by omega), z 46 (by omega), z 47 (by omega), z 48 (by omega)]; exact rl_nm hrow hmea) (by rw [z 44 (by omega), u2]; exact hM) (by rw [z 44 (by omega), w2]; exact hN) (by rw [z 44 (by omega)]; omega) (fun _ => by
      have eQ : es_Qm I1 = es_Qc I := by
        rw [← hQ]
        unfold es_Qm
        rw [z 44 (by omega), z 45 (by omega), z 46 (by omega), z 47 (by omega), z 48 (by omega)]
      rw [eQ, z 44 (by omega)]
      refine ⟨t1, t2, t4, fun k hk => ?_⟩
      have h6 := t7 k hk
      unfold es_ax at h6 ⊢
      rw [z 60 (by omega), z 61 (by omega), z 62 (by omega), z 63 (by omega), z 64 (by omega)]
      exact h6)
    have eQ1 : (∀ a : Nat, 44 ≤ a → I1 a = I a) → es_Qm I1 = es_Qc I := fun z => by
      rw [← hQ]
      unfold es_Qm
      rw [z 44 (by omega), z 45 (by omega), z 46 (by omega), z 47 (by omega), z 48 (by omega)]
    rcases hpo with ⟨c, e1, e2⟩ | ⟨c, e1, e2⟩ | ⟨c, e1, f1, sv⟩
    · have z : ∀ a : Nat, 44 ≤ a → I1 a = I a := fun a _ => by rw [e2]
      refine ⟨_, e1, am_C_mono (hmo z) ?_⟩
      intro r2 I2 hq
      rcases hq with ⟨c', e3, e4⟩ | ⟨c', e3, e4⟩ | ⟨c', e3, f2⟩
      · rw [e4, e2]; exact ⟨e3, es_rel_s h⟩
      · exact absurd c'.1 c
      · exact absurd c'.1 c
    · exfalso
      have := c.2
      omega
    · have z : ∀ a : Nat, 44 ≤ a → I1 a = I a := fun a ha => f1 a (am_nm (by
        simp only [List.mem_cons, List.not_mem_nil, or_false]
        omega))
      refine ⟨_, e1, am_C_mono (hmo z) ?_⟩
      intro r2 I2 hq
      rw [eQ1 z, z 44 (by omega), z 52 (by omega), z 53 (by omega)] at hq
      rcases hq with ⟨c', e3, e4⟩ | ⟨c', e3, e4⟩ | ⟨c', e3, f2, mv⟩
      · exact absurd c.1 c'
      · exfalso
        have := c'.2
        omega
      · have hp5 := c.1
        have h6 : p = 0 ∨ p = 1 ∨ p = 2 ∨ p = 3 ∨ p = 4 ∨ p = 5 := by omega
        have fx : es_fx I I2 ([31 + p.toNat, 38 + p.toNat] ++ [52, 53]) ([] ++ []) := (es_fx.fr f1).tr (es_fx.fr f2)
        refine ⟨e3, ⟨rl_row_k fx (by rcases h6 with rfl | rfl | rfl | rfl | rfl | rfl <;> rfl) hrow, rl_mea_k fx (by rcases h6 with rfl | rfl | rfl | rfl | rfl | rfl <;> rfl) hmea, rl_rul_k fx (by rcases h6 with rfl | rfl | rfl | rfl | rfl | rfl <;> rfl) hrul, rl_met_k fx (by rcases h6 with rfl | rfl | rfl | rfl | rfl | rfl <;> rfl) hmet, rl_har_k fx (by rcases h6 with rfl | rfl | rfl | rfl | rfl | rfl <;> rfl) hhar, ?_, rl_jud_k fx (by rcases h6 with rfl | rfl | rfl | rfl | rfl | rfl <;> rfl) hjud, es_i9_k fx (by rcases h6 with rfl | rfl | rfl | rfl | rfl | rfl <;> rfl) h9, es_i12_k fx (by rcases h6 with rfl | rfl | rfl | rfl | rfl | rfl <;> rfl) h12, es_i16_k fx (by rcases h6 with rfl | rfl | rfl | rfl | rfl | rfl <;> rfl) h16, es_i22_k fx (by rcases h6 with rfl | rfl | rfl | rfl | rfl | rfl <;> rfl) h22⟩⟩
        intro q j hq6 hj
        have k1 : I2 (31 + q) = I1 (31 + q) := f2 (31 + q) (am_nm (by
          simp only [List.mem_cons, List.not_mem_nil, or_false]
          omega))
        have k2 : I2 (38 + q) = I1 (38 + q) := f2 (38 + q) (am_nm (by
          simp only [List.mem_cons, List.not_mem_nil, or_false]
          omega))
        have h1 := hpup q j hq6 hj
        have h2 := mv (13 * q + j)
        have hM4 : (I 4 2).toNat ≤ 24 := by omega
        rw [k1, k2, h2.1, h2.2]
        by_cases gq : q = p.toNat
        · have h3 := sv j (by omega)
          rw [← gq] at h3
          rw [h3.1, h3.2]
          have eA : es_lA (es_Qc I) (I 4 2).toNat (I 1 2).toNat p T (13 * q + j) = es_la (es_Qc I) (I 4 2).toNat (I 1 2).toNat T j := by
            unfold es_lA
            rw [if_pos (by omega), show ((13 * q + j : Nat) : Int) - 13 * p = (j : Int) by omega]
          have eB : es_lB (es_Qc I) (I 4 2).toNat (I 1 2).toNat p T (13 * q + j) = es_lb (es_Qc I) (I 4 2).toNat (I 1 2).toNat T j := by
            unfold es_lB
            rw [if_pos (by omega), show ((13 * q + j : Nat) : Int) - 13 * p = (j : Int) by omega]
          rw [eA, eB]
          have h4 := es_la_T t2 hM4 (j : Int) (by omega)
          obtain ⟨⟨x1, x2⟩, x3, x4⟩ := h1
          refine ⟨⟨by rw [x1], by rw [x2]⟩, ?_, ?_⟩ <;> omega
        · have eA : es_lA (es_Qc I) (I 4 2).toNat (I 1 2).toNat p T (13 * q + j) = 0 := by
            unfold es_lA
            rw [if_neg (by omega)]
          have eB : es_lB (es_Qc I) (I 4 2).toNat (I 1 2).toNat p T (13 * q + j) = 0 := by
            unfold es_lB
            rw [if_neg (by omega)]
          have k3 : I1 (31 + q) = I (31 + q) := f1 (31 + q) (am_nm (by
            simp only [List.mem_cons, List.not_mem_nil, or_false]
            omega))
          have k4 : I1 (38 + q) = I (38 + q) := f1 (38 + q) (am_nm (by
            simp only [List.mem_cons, List.not_mem_nil, or_false]
            omega))
          rw [eA, eB, k3, k4]
          obtain ⟨⟨x1, x2⟩, x3, x4⟩ := h1
          refine ⟨⟨by rw [x1, Int.add_zero], by rw [x2, Int.add_zero]⟩, ?_, ?_⟩ <;> omega
  · refine am_C_mono (c_es_learn 7 p I (I 4 2).toNat (I 1 2).toNat 0 hp (rl_nc hrow hmea) hM hN j1 (fun z => absurd z g)) ?_
    intro r1 I1 hpo
    have hmo := c_mo_learn 8 p I (I 4 2).toNat (I 1 2).toNat 0 hp (rl_nm hrow hmea) (by rw [u2]; exact hM) (by rw [w2]; exact hN) (by omega) (fun z => absurd z (by omega))
    rcases hpo with ⟨c, e1, e2⟩ | ⟨c, e1, e2⟩ | ⟨c, e1, f1, sv⟩
    · rw [e1, e2]
      refine ⟨_, rfl, am_C_mono hmo ?_⟩
      intro r2 I2 hq
      rcases hq with ⟨c', e3, e4⟩ | ⟨c', e3, e4⟩ | ⟨c', e3, f2, mv⟩
      · rw [e4]; exact ⟨e3, es_rel_s h⟩
      · exact absurd c'.1 c
      · exact absurd c'.1 c
    · rw [e1, e2]
      refine ⟨_, rfl, am_C_mono hmo ?_⟩
      intro r2 I2 hq
      rcases hq with ⟨c', e3, e4⟩ | ⟨c', e3, e4⟩ | ⟨c', e3, f2, mv⟩
      · exact absurd c.1 c'
      · rw [e4]; exact ⟨e3, es_rel_s h⟩
      · exfalso
        have := c'.2
        omega
    · exact absurd c.2 g
theorem q_some_met {I I1 I2 : am_I} {l on : Int} (hl : 1 ≤ l ∧ l ≤ 96) (hon : on = 0 ∨ on = 1) (hmet : rl_met I) (e4 : I2 = am_u (am_u I1 44 19 (I 44 19 + (on - I 49 l.toNat))) 49 l.toNat on) (k44 : I1 44 = I 44) (k49 : I1 49 = I 49) (h2 : I1 14 2 = I 14 2) (h3 : I1 14 3 = I 14 3) (hsrt : es_srt I1) (h1 : I1 14 1 = I 14 1 + (on - I 49 l.toNat)) (hhs : ∀ x : Int, 1 ≤ x → x ≤ 96 → (es_hs I1 x ↔ ((x = l ∧ on = 1) ∨ (x ≠ l ∧ es_hs I x)))) : rl_met I2 := by
  obtain ⟨⟨a1, a2, a3⟩, ⟨b1, b2, b3⟩, c1, c2⟩ := hmet
  have v14 : I2 14 = I1 14 := by rw [e4]; rfl
  have v15 : I2 15 = I1 15 := by rw [e4]; rfl
  have v49 : I2 49 = am_up (I 49) l.toNat on := by rw [e4, ← k49]; rfl
  have m16 : I2 44 16 = I 44 16 := by rw [e4, ← k44]; rfl
  have m17 : I2 44 17 = I 44 17 := by rw [e4, ← k44]; rfl
  have m19 : I2 44 19 = I 44 19 + (on - I 49 l.toNat) := by rw [e4]; rfl
  have hs2 : ∀ x : Int, es_hs I2 x ↔ es_hs I1 x := by
    intro x
    unfold es_hs
    rw [v14, v15]
  refine ⟨⟨by rw [v14, h2]; exact a1, by rw [v14, h3]; exact a2, es_srt_k v15 (by rw [v14]) hsrt⟩, ⟨by rw [m16, v14, h2]; exact b1, by rw [m17, v14, h3]; exact b2, by rw [m19, v14, h1, b3]⟩, ?_, ?_⟩
  · intro j
    rw [v49]
    by_cases g : j = l.toNat
    · rw [g, am_up_eq]; omega
    · rw [am_up_ne g]; exact c1 j
  · intro x x1 x2
    rw [hs2 x, hhs x x1 x2, v49]
    by_cases g : x = l
    · rw [g, am_up_eq]
      exact ⟨fun z => by rcases z with z | z; exact z.2; exact absurd rfl z.1, fun z => Or.inl ⟨rfl, z⟩⟩
    · rw [am_up_ne (by omega)]
      exact ⟨fun z => by rcases z with z | z; exact absurd z.1 g; exact (c2 x x1 x2).1 z.2, fun z => Or.inr ⟨g, (c2 x x1 x2).2 z⟩⟩
theorem q_some (n : Nat) (l on : Int) (I : am_I) (hl : (-2147483648 ≤ l ∧ l < 2147483648)) (hon : on = 0 ∨ on = 1) (h : es_rel n I) : es_qf n 9 Y_es_some Y_mo_some [.inr (.inr 0), .inl l, .inl on] [.inr (.inr 44), .inl l, .inl on] I := by
  obtain ⟨hrow, hmea, hrul, hmet, hhar, hpup, hjud, h9, h12, h16, h22⟩ := id h
  obtain ⟨⟨a1, a2, a3⟩, ⟨b1, b2, b3⟩, c1, c2⟩ := id hmet
  have hb := c1 l.toNat
  have hh : (1 ≤ l ∧ l ≤ 96) → (es_hs I l ↔ I 49 l.toNat = 1) := fun z => c2 l z.1 z.2
  refine am_C_mono (c_es_some 8 l on I hl hon a3) ?_
  intro r1 I1 hp
  have hmo : I1 44 = I 44 → I1 49 = I 49 → _ := fun z1 z2 => c_mo_some 8 l on I1 hl hon (es_b49_c z2 c1) (by rw [z1, b3]; exact a3.1)
  rcases hp with ⟨c, e1, e2⟩ | ⟨c, o, hs, e1, e2⟩ | ⟨c, o, hs, f, e1, e2⟩ | ⟨c, o, hs, f, e1, f1, m14, srt, shs⟩ | ⟨c, o, hs, e1, f1, m14, srt, shs⟩ | ⟨c, o, hs, e1, e2⟩
  · rw [e1, e2]
    rw [e2] at hmo
    refine ⟨_, rfl, am_C_mono (hmo rfl rfl) ?_⟩
    intro r2 I2 hq
    rcases hq with ⟨c', e3, e4⟩ | ⟨c', e3, e4⟩ | ⟨c', e3, e4⟩
    · rw [e4]; exact ⟨e3, es_rel_s h⟩
    · exact absurd c'.1 c
    · exact absurd c'.1 c
  · have v := (hh c).1 hs
    rw [e1, e2]
    rw [e2] at hmo
    refine ⟨_, rfl, am_C_mono (hmo rfl rfl) ?_⟩
    intro r2 I2 hq
    rcases hq with ⟨c', e3, e4⟩ | ⟨c', e3, e4⟩ | ⟨c', e3, e4⟩
    · exact absurd c c'
    · exfalso
      have := c'.2.2.1
      omega
    · have fx : es_fx I I2 [49] [(44, 19)] := by
        rw [e4]
        exact ((es_fx.rf (C := [49]) (F := [(44, 19)])).u (Or.inr rfl)).u (Or.inl rfl)
      refine ⟨e3.trans (by rw [v]), ⟨rl_row_k fx rfl hrow, rl_mea_k fx rfl hmea, rl_rul_k fx rfl hrul, q_some_met c hon hmet e4 rfl rfl rfl rfl a3 (by omega) (fun x x1 x2 => ?_), rl_har_k fx rfl hhar, rl_pup_k fx rfl hpup, rl_jud_k fx rfl hjud, es_i9_k fx rfl h9, es_i12_k fx rfl h12, es_i16_k fx rfl h16, es_i22_k fx rfl h22⟩⟩
      exact ⟨fun z => by by_cases g : x = l; exact Or.inl ⟨g, o⟩; exact Or.inr ⟨g, z⟩, fun z => by rcases z with z | z; rw [z.1]; exact hs; exact z.2⟩
  · have v : I 49 l.toNat = 0 := by
      have : ¬ I 49 l.toNat = 1 := fun z => hs ((hh c).2 z)
      omega
    rw [e1, e2]
    rw [e2] at hmo
    refine ⟨_, rfl, am_C_mono (hmo rfl rfl) ?_⟩
    intro r2 I2 hq
    rcases hq with ⟨c', e3, e4⟩ | ⟨c', e3, e4⟩ | ⟨c', e3, e4⟩
    · exact absurd c c'
    · rw [e4]; exact ⟨e3, es_rel_s h⟩
    · exact absurd ⟨o, v, by omega⟩ c'.2
  · have v : I 49 l.toNat = 0 := by
      have : ¬ I 49 l.toNat = 1 := fun z => hs ((hh c).2 z)
      omega
    have k44 : I1 44 = I 44 := f1 44 rfl
    have k49 : I1 49 = I 49 := f1 49 rfl
    refine ⟨_, e1, am_C_mono (hmo k44 k49) ?_⟩
    intro r2 I2 hq
    rw [k44, k49] at hq
    rcases hq with ⟨c', e3, e4⟩ | ⟨c', e3, e4⟩ | ⟨c', e3, e4⟩
    · exact absurd c c'
    · exfalso
      have := c'.2.2.2
      omega
    · have f1' : es_fx I I1 [15] [(14, 1), (14, 4)] := (es_fx.fr (C := [14, 15]) f1).cut (fun k hk => by rw [m14, es_up1 hk rfl, es_up1 hk rfl])
      have fy : es_fx I1 I2 [49] [(44, 19)] := by
        rw [e4]
        exact ((es_fx.rf (C := [49]) (F := [(44, 19)])).u (Or.inr rfl)).u (Or.inl rfl)
      have fx : es_fx I I2 ([15] ++ [49]) ([(14, 1), (14, 4)] ++ [(44, 19)]) := f1'.tr fy
      refine ⟨e3.trans (by rw [v]), ⟨rl_row_k fx rfl hrow, rl_mea_k fx rfl hmea, rl_rul_k fx rfl hrul, q_some_met c hon hmet e4 k44 k49 (by rw [m14]; rfl) (by rw [m14]; rfl) srt (by rw [m14, v, o]; rfl) (fun x x1 x2 => ?_), rl_har_k fx rfl hhar, rl_pup_k fx rfl hpup, rl_jud_k fx rfl hjud, es_i9_k fx rfl h9, es_i12_k fx rfl h12, es_i16_0 fx rfl (by rw [fy 14 4 rfl rfl, m14]; rfl) h16, es_i22_k fx rfl h22⟩⟩
      rw [shs x]
      exact ⟨fun z => by by_cases g : x = l; exact Or.inl ⟨g, o⟩; rcases z with z | z; exact Or.inr ⟨g, z⟩; exact absurd z g, fun z => by rcases z with z | z; exact Or.inr z.1; exact Or.inl z.2⟩
  · have v := (hh c).1 hs
    have k44 : I1 44 = I 44 := f1 44 rfl
    have k49 : I1 49 = I 49 := f1 49 rfl
    refine ⟨_, e1, am_C_mono (hmo k44 k49) ?_⟩
    intro r2 I2 hq
    rw [k44, k49] at hq
    rcases hq with ⟨c', e3, e4⟩ | ⟨c', e3, e4⟩ | ⟨c', e3, e4⟩
    · exact absurd c c'
    · exfalso
      have := c'.2.1
      omega
    · have f1' : es_fx I I1 [15] [(14, 1), (14, 4)] := (es_fx.fr (C := [14, 15]) f1).cut (fun k hk => by rw [m14, es_up1 hk rfl, es_up1 hk rfl])
      have fy : es_fx I1 I2 [49] [(44, 19)] := by
        rw [e4]
        exact ((es_fx.rf (C := [49]) (F := [(44, 19)])).u (Or.inr rfl)).u (Or.inl rfl)
      have fx : es_fx I I2 ([15] ++ [49]) ([(14, 1), (14, 4)] ++ [(44, 19)]) := f1'.tr fy
      refine ⟨e3.trans (by rw [v]), ⟨rl_row_k fx rfl hrow, rl_mea_k fx rfl hmea, rl_rul_k fx rfl hrul, q_some_met c hon hmet e4 k44 k49 (by rw [m14]; rfl) (by rw [m14]; rfl) srt (by rw [m14, v, o]; rfl) (fun x x1 x2 => ?_), rl_har_k fx rfl hhar, rl_pup_k fx rfl hpup, rl_jud_k fx rfl hjud, es_i9_k fx rfl h9, es_i12_k fx rfl h12, es_i16_0 fx rfl (by rw [fy 14 4 rfl rfl, m14]; rfl) h16, es_i22_k fx rfl h22⟩⟩
      rw [shs x]
      exact ⟨fun z => Or.inr ⟨z.2, z.1⟩, fun z => by rcases z with z | z; (exfalso; omega); exact ⟨z.2, z.1⟩⟩
  · have v : I 49 l.toNat = 0 := by
      have : ¬ I 49 l.toNat = 1 := fun z => hs ((hh c).2 z)
      omega
    rw [e1, e2]
    rw [e2] at hmo
    refine ⟨_, rfl, am_C_mono (hmo rfl rfl) ?_⟩
    intro r2 I2 hq
    rcases hq with ⟨c', e3, e4⟩ | ⟨c', e3, e4⟩ | ⟨c', e3, e4⟩
    · exact absurd c c'
    · exfalso
      have := c'.2.1
      omega
    · have fx : es_fx I I2 [49] [(44, 19)] := by
        rw [e4]
        exact ((es_fx.rf (C := [49]) (F := [(44, 19)])).u (Or.inr rfl)).u (Or.inl rfl)
      refine ⟨e3.trans (by rw [v]), ⟨rl_row_k fx rfl hrow, rl_mea_k fx rfl hmea, rl_rul_k fx rfl hrul, q_some_met c hon hmet e4 rfl rfl rfl rfl a3 (by omega) (fun x x1 x2 => ?_), rl_har_k fx rfl hhar, rl_pup_k fx rfl hpup, rl_jud_k fx rfl hjud, es_i9_k fx rfl h9, es_i12_k fx rfl h12, es_i16_k fx rfl h16, es_i22_k fx rfl h22⟩⟩
      exact ⟨fun z => by by_cases g : x = l; (rw [g] at z; exact absurd z hs); exact Or.inr ⟨g, z⟩, fun z => by rcases z with z | z; (exfalso; omega); exact z.2⟩
