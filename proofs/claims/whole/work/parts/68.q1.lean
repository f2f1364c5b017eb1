theorem rl_rm {I : am_I} (h : rl_rul I) : es_rm (I 44) := by
  obtain ⟨h1, ⟨a1, a2, a3, a4, a5⟩, b⟩ := h
  unfold es_rm
  rw [a1, a2, a3, a4, a5]
  exact h1
theorem rl_cut {I : am_I} (h : rl_rul I) : es_cut (I 44) = es_Rc I := by
  obtain ⟨h1, ⟨a1, a2, a3, a4, a5⟩, b1, b2, b3, b4⟩ := h
  unfold es_cut es_Rc
  rw [a1, a2, a3, a4, a5, b1, b2, b3, b4]
theorem rl_tot {I : am_I} (h : rl_rul I) : es_tot (I 44) = es_tot (es_Rc I) := by
  rw [← rl_cut h]
  rfl
theorem rl_rmc {I : am_I} (h : rl_rul I) : es_rm (es_Rc I) := by
  rw [← rl_cut h]
  exact rl_rm h
theorem rl_jud_0 {I : am_I} (h9 : I 23 9 = 0) (h6 : I 44 6 = 0) (h32 : 0 ≤ I 44 32 ∧ I 44 32 ≤ 96) : rl_jud I := by
  refine ⟨by omega, by omega, h32, fun z => ?_⟩
  omega
theorem rl_Sm {I : am_I} (h : rl_met I) : es_Sm I = es_Sc I := by
  obtain ⟨h1, h2, h3, h4⟩ := h
  funext l
  unfold es_Sm es_Sc
  refine propext ⟨fun z => ⟨z.1, ?_⟩, fun z => ⟨z.1, ?_⟩⟩
  · have h5 := h3 l.toNat
    have h6 := z.2
    exact (h4 l z.1.1 z.1.2).2 (by omega)
  · have h6 := (h4 l z.1.1 z.1.2).1 z.2
    omega
theorem rl_hm {I : am_I} (h : rl_har I) : es_hm I := by
  obtain ⟨⟨c1, c2, c3, c4, c5, c6⟩, ⟨a1, a2⟩, b1, b2⟩ := h
  unfold es_hm
  rw [a1, a2, b2 0 (by omega), b2 1 (by omega), b2 2 (by omega)]
  refine ⟨c1, c2, c3, c4, c5, fun j hj => ?_⟩
  rw [b1 j (by omega)]
  exact c6 j hj
theorem rl_Lm {I : am_I} (h : rl_har I) : es_Lm I = es_Lc I := by
  obtain ⟨c, a, b1, b2⟩ := h
  funext i
  unfold es_Lm es_Lc
  by_cases g : i < 6
  · rw [if_pos g, if_pos g, b1 i g, b2 0 (by omega), b2 1 (by omega), b2 2 (by omega)]
  · rw [if_neg g, if_neg g]
theorem rl_hP {n : Nat} {I : am_I} (hn : n ≤ 800) (h : rl_pup n I) : es_hP I := by
  intro p j hp hj
  have h1 := (h p j hp hj).2
  omega
theorem rl_hA {n : Nat} {I : am_I} (hn : n ≤ 800) (h : rl_pup n I) : es_hA (I 52) (I 53) := by
  intro j hj
  have h1 := h (j / 13) (j % 13) (by omega) (by omega)
  rw [show 13 * (j / 13) + j % 13 = j by omega] at h1
  omega
theorem rl_nc {I : am_I} (h1 : rl_row I) (h2 : rl_mea I) : es_nc I := ⟨h2.1, h1.1, fun j hj => (h2.2.2 j hj).2, fun j hj => (h1.2.2 j hj).2⟩
theorem rl_nm {I : am_I} (h1 : rl_row I) (h2 : rl_mea I) : es_nm I := by
  obtain ⟨a1, a2, a3⟩ := h1
  obtain ⟨b1, b2, b3⟩ := h2
  unfold es_nm
  rw [a2, b2]
  refine ⟨b1, a1, fun j hj => ?_, fun j hj => ?_⟩
  · have h5 := b3 j hj
    rw [h5.1.1, h5.1.2]
    exact h5.2
  · have h5 := a3 j hj
    rw [h5.1.1, h5.1.2]
    exact h5.2
theorem rl_Qm {I : am_I} (h1 : rl_row I) (h2 : rl_mea I) : es_Qm I = es_Qc I := by
  obtain ⟨a1, a2, a3⟩ := h1
  obtain ⟨b1, b2, b3⟩ := h2
  funext x j
  unfold es_Qm es_Qc
  rw [a2, b2]
  rcases x with _ | _ | _ | x
  · show (if j < (I 4 2).toNat then I 47 j else 0) = (if j < (I 4 2).toNat then I 5 j else 0)
    by_cases g : j < (I 4 2).toNat
    · rw [if_pos g, if_pos g, (b3 j (by omega)).1.1]
    · rw [if_neg g, if_neg g]
  · show (if j < (I 4 2).toNat then I 48 j else 0) = (if j < (I 4 2).toNat then I 6 j else 0)
    by_cases g : j < (I 4 2).toNat
    · rw [if_pos g, if_pos g, (b3 j (by omega)).1.2]
    · rw [if_neg g, if_neg g]
  · show (if j < (I 1 2).toNat then I 45 j else 0) = (if j < (I 1 2).toNat then I 2 j else 0)
    by_cases g : j < (I 1 2).toNat
    · rw [if_pos g, if_pos g, (a3 j (by omega)).1.1]
    · rw [if_neg g, if_neg g]
  · show (if j < (I 1 2).toNat then I 46 j else 0) = (if j < (I 1 2).toNat then I 3 j else 0)
    by_cases g : j < (I 1 2).toNat
    · rw [if_pos g, if_pos g, (a3 j (by omega)).1.2]
    · rw [if_neg g, if_neg g]
theorem rl_ws {n : Nat} {I : am_I} (h : rl_pup n I) {p : Int} (hp : 0 ≤ p ∧ p ≤ 5) : es_ws (es_pw (I 52) (I 53) p) = es_ws (es_pwc I p) := by
  funext s v
  unfold es_ws
  by_cases g : v < 0 ∨ 13 ≤ max s (-s)
  · rw [if_pos g, if_pos g]
  · rw [if_neg g, if_neg g]
    congr 1
    unfold es_pw es_pwc
    have h1 := (h p.toNat (max s (-s)).toNat (by omega) (by omega)).1
    rw [show (13 * p + ((max s (-s)).toNat : Int)).toNat = 13 * p.toNat + (max s (-s)).toNat by omega, h1.1, h1.2]
theorem q_note (n : Nat) (x z : Int) (I : am_I) (hx : (-2147483648 ≤ x ∧ x < 2147483648)) (hz : (-2147483648 ≤ z ∧ z < 2147483648)) (h : es_rel n I) : es_qf n 9 Y_es_note Y_mo_note [.inr (.inr 0), .inl x, .inl z] [.inr (.inr 44), .inl x, .inl z] I := by
  obtain ⟨hrow, hmea, hrul, hmet, hhar, hpup, hjud, h9, h12, h16, h22⟩ := id h
  obtain ⟨w1, w2, w3⟩ := id hrow
  refine am_C_mono (c_es_note 8 x z I hx hz w1) ?_
  intro r1 I1 hp
  rcases hp with ⟨c, e1, e2⟩ | ⟨c, e1, e2⟩ | ⟨c, e1, e2⟩
  · rw [e1, e2]
    refine ⟨_, rfl, am_C_mono (c_mo_note 8 x z I hx hz (by omega)) ?_⟩
    intro r2 I2 hq
    rcases hq with ⟨c', e3, e4⟩ | ⟨c', e3, e4⟩ | ⟨c', e3, e4⟩
    · rw [e3, e4]; exact ⟨rfl, es_rel_s h⟩
    · exfalso; omega
    · exfalso; omega
  · rw [e1, e2]
    refine ⟨_, rfl, am_C_mono (c_mo_note 8 x z I hx hz (by omega)) ?_⟩
    intro r2 I2 hq
    rcases hq with ⟨c', e3, e4⟩ | ⟨c', e3, e4⟩ | ⟨c', e3, e4⟩
    · exfalso; omega
    · rw [e3, e4]; exact ⟨rfl, es_rel_s h⟩
    · exfalso; omega
  · have f44 : I1 44 0 = I 1 2 := by rw [e2]; exact w2
    refine ⟨_, e1, am_C_mono (c_mo_note 8 x z I1 hx hz (by omega)) ?_⟩
    intro r2 I2 hq
    rcases hq with ⟨c', e3, e4⟩ | ⟨c', e3, e4⟩ | ⟨c', e3, e4⟩
    · exfalso; omega
    · exfalso; omega
    · rw [f44] at e3 e4
      have fx : es_fx I I2 [2, 3, 45, 46] [(1, 2), (23, 9), (44, 0), (44, 6)] := by
        rw [e4, e2]
        exact ((((((((es_fx.rf (C := [2, 3, 45, 46]) (F := [(1, 2), (23, 9), (44, 0), (44, 6)])).u (Or.inl rfl)).u (Or.inl rfl)).u (Or.inr rfl)).u (Or.inr rfl)).u (Or.inl rfl)).u (Or.inl rfl)).u (Or.inr rfl)).u (Or.inr rfl)
      refine ⟨e3, ⟨?_, rl_mea_k fx rfl hmea, rl_rul_k fx rfl hrul, rl_met_k fx rfl hmet, rl_har_k fx rfl hhar, rl_pup_k fx rfl hpup, ?_, es_i9_k fx rfl h9, es_i12_k fx rfl h12, es_i16_k fx rfl h16, es_i22_k fx rfl h22⟩⟩
      · have v1 : I2 1 2 = I 1 2 + 1 := by rw [e4, e2]; rfl
        have v2 : I2 44 0 = I 1 2 + 1 := by rw [e4]; rfl
        have v3 : I2 2 = am_up (I 2) (I 1 2).toNat x := by rw [e4, e2]; rfl
        have v4 : I2 3 = am_up (I 3) (I 1 2).toNat z := by rw [e4, e2]; rfl
        have v5 : I2 45 = am_up (I 45) (I 1 2).toNat x := by rw [e4, e2]; rfl
        have v6 : I2 46 = am_up (I 46) (I 1 2).toNat z := by rw [e4, e2]; rfl
        unfold rl_row
        rw [v1, v2, v3, v4, v5, v6]
        refine ⟨by omega, rfl, fun j hj => ?_⟩
        by_cases g : j = (I 1 2).toNat
        · rw [g, am_up_eq, am_up_eq, am_up_eq, am_up_eq]
          exact ⟨⟨rfl, rfl⟩, by omega, by omega⟩
        · rw [am_up_ne g, am_up_ne g, am_up_ne g, am_up_ne g]
          exact w3 j (by omega)
      · refine rl_jud_0 (by rw [e4, e2]; rfl) (by rw [e4]; rfl) ?_
        have v : I2 44 32 = I 44 32 := by rw [e4, e2]; rfl
        rw [v]
        exact hjud.2.2.1
theorem q_drop (n : Nat) (I : am_I) (h : es_rel n I) : es_qf n 9 Y_es_drop Y_mo_drop [.inr (.inr 0)] [.inr (.inr 44)] I := by
  obtain ⟨hrow, hmea, hrul, hmet, hhar, hpup, hjud, h9, h12, h16, h22⟩ := id h
  obtain ⟨w1, w2, w3⟩ := id hrow
  refine am_C_mono (c_es_drop 8 I) ?_
  intro r1 I1 hp
  obtain ⟨-, e1, e2⟩ := hp
  have f44 : I1 44 0 = I 1 2 := by rw [e2]; exact w2
  refine ⟨_, e1, am_C_mono (c_mo_drop 9 I1) ?_⟩
  intro r2 I2 hq
  obtain ⟨-, e3, e4⟩ := hq
  rw [f44] at e3
  have fx : es_fx I I2 [] [(1, 2), (23, 9), (44, 0), (44, 6)] := by
    rw [e4, e2]
    exact ((((es_fx.rf (C := []) (F := [(1, 2), (23, 9), (44, 0), (44, 6)])).u (Or.inr rfl)).u (Or.inr rfl)).u (Or.inr rfl)).u (Or.inr rfl)
  refine ⟨e3, ⟨?_, rl_mea_k fx rfl hmea, rl_rul_k fx rfl hrul, rl_met_k fx rfl hmet, rl_har_k fx rfl hhar, rl_pup_k fx rfl hpup, ?_, es_i9_k fx rfl h9, es_i12_k fx rfl h12, es_i16_k fx rfl h16, es_i22_k fx rfl h22⟩⟩
  · have v1 : I2 1 2 = 0 := by rw [e4, e2]; rfl
    have v2 : I2 44 0 = 0 := by rw [e4]; rfl
    unfold rl_row
    rw [v1, v2]
    exact ⟨by omega, rfl, fun j hj => by omega⟩
  · refine rl_jud_0 (by rw [e4, e2]; rfl) (by rw [e4]; rfl) ?_
    have v : I2 44 32 = I 44 32 := by rw [e4, e2]; rfl
    rw [v]
    exact hjud.2.2.1
theorem q_at (n : Nat) (i w : Int) (I : am_I) (hi : (-2147483648 ≤ i ∧ i < 2147483648)) (hw : (-2147483648 ≤ w ∧ w < 2147483648)) (h : es_rel n I) : es_qf n 9 Y_es_at Y_mo_at [.inr (.inr 0), .inl i, .inl w] [.inr (.inr 44), .inl i, .inl w] I := by
  obtain ⟨hrow, hmea, hrul, hmet, hhar, hpup, hjud, h9, h12, h16, h22⟩ := id h
  obtain ⟨w1, w2, w3⟩ := id hrow
  refine am_C_mono (c_es_at 8 i w I hi hw w1) ?_
  intro r1 I1 hp
  have hm := c_mo_at 8 i w I hi hw (by omega)
  rcases hp with ⟨c, e1, e2⟩ | ⟨c, e1, e2⟩ | ⟨c, e1, e2⟩
  all_goals
    rw [e1, e2]
    refine ⟨_, rfl, am_C_mono hm ?_⟩
    intro r2 I2 hq
    rcases hq with ⟨c', e3, e4⟩ | ⟨c', e3, e4⟩ | ⟨c', e3, e4⟩
    all_goals first
      | (exfalso; omega)
      | (rw [e3, e4]; exact ⟨rfl, es_rel_s h⟩)
      | (rw [e3, e4, (w3 i.toNat (by omega)).1.1]; exact ⟨rfl, es_rel_s h⟩)
      | (rw [e3, e4, (w3 i.toNat (by omega)).1.2]; exact ⟨rfl, es_rel_s h⟩)
theorem q_range (n : Nat) (l u m : Int) (I : am_I) (hl : (-2147483648 ≤ l ∧ l < 2147483648)) (hu : (-2147483648 ≤ u ∧ u < 2147483648)) (hm : (-2147483648 ≤ m ∧ m < 2147483648)) (h : es_rel n I) : es_qf n 9 Y_es_range Y_mo_range [.inr (.inr 0), .inl l, .inl u, .inl m] [.inr (.inr 44), .inl l, .inl u, .inl m] I := by
  obtain ⟨hrow, hmea, hrul, hmet, hhar, hpup, hjud, h9, h12, h16, h22⟩ := id h
  refine am_C_mono (c_es_range 8 l u m I hl hu hm) ?_
  intro r1 I1 hp
  have hmo := c_mo_range 8 l u m I1 hl hu hm
  rcases hp with ⟨c, e1, e2⟩ | ⟨c, e1, e2⟩
  all_goals
    refine ⟨_, e1, am_C_mono hmo ?_⟩
    intro r2 I2 hq
    rcases hq with ⟨c', e3, e4⟩ | ⟨c', e3, e4⟩
  · rw [e3, e4, e2]; exact ⟨rfl, es_rel_s h⟩
  · exact absurd c' c
  · exact absurd c c'
  · have fx : es_fx I I2 [] [(7, 1), (7, 2), (7, 3), (9, 2), (44, 7), (44, 8), (44, 9)] := by
      rw [e4, e2]
      exact (((((((es_fx.rf (C := []) (F := [(7, 1), (7, 2), (7, 3), (9, 2), (44, 7), (44, 8), (44, 9)])).u (Or.inr rfl)).u (Or.inr rfl)).u (Or.inr rfl)).u (Or.inr rfl)).u (Or.inr rfl)).u (Or.inr rfl)).u (Or.inr rfl)
    refine ⟨e3, ⟨rl_row_k fx rfl hrow, rl_mea_k fx rfl hmea, ?_, rl_met_k fx rfl hmet, rl_har_k fx rfl hhar, rl_pup_k fx rfl hpup, rl_jud_k fx rfl hjud, es_i9_0 fx rfl (by rw [e4, e2]; rfl) h9, es_i12_k fx rfl h12, es_i16_k fx rfl h16, es_i22_k fx rfl h22⟩⟩
    obtain ⟨⟨a1, a2, a3, a4⟩, ⟨b1, b2, b3, b4, b5⟩, c1, c2, c3, c4⟩ := hrul
    have v1 : I2 7 1 = l := by rw [e4, e2]; rfl
    have v2 : I2 7 2 = u := by rw [e4, e2]; rfl
    have v3 : I2 7 3 = m := by rw [e4, e2]; rfl
    have v4 : I2 7 4 = I 7 4 := by rw [e4, e2]; rfl
    have v5 : I2 7 5 = I 7 5 := by rw [e4, e2]; rfl
    have v8 : I2 8 = I 8 := by rw [e4, e2]; rfl
    have m7 : I2 44 7 = l := by rw [e4]; rfl
    have m8 : I2 44 8 = u := by rw [e4]; rfl
    have m9 : I2 44 9 = m := by rw [e4]; rfl
    have m10 : I2 44 10 = I 44 10 := by rw [e4, e2]; rfl
    have m11 : I2 44 11 = I 44 11 := by rw [e4, e2]; rfl
    have m12 : I2 44 12 = I 44 12 := by rw [e4, e2]; rfl
    have m13 : I2 44 13 = I 44 13 := by rw [e4, e2]; rfl
    have m14 : I2 44 14 = I 44 14 := by rw [e4, e2]; rfl
    have m15 : I2 44 15 = I 44 15 := by rw [e4, e2]; rfl
    unfold rl_rul es_rb
    rw [v1, v2, v3, v4, v5, v8, m7, m8, m9, m10, m11, m12, m13, m14, m15]
    exact ⟨⟨by omega, by omega, a3, a4⟩, ⟨rfl, rfl, rfl, b4, b5⟩, c1, c2, c3, c4⟩
theorem q_bits (n : Nat) (w v : Int) (I : am_I) (hw : (-2147483648 ≤ w ∧ w < 2147483648)) (hv : (-2147483648 ≤ v ∧ v < 2147483648)) (h : es_rel n I) : es_qf n 9 Y_es_bits Y_mo_bits [.inr (.inr 0), .inl w, .inl v] [.inr (.inr 44), .inl w, .inl v] I := by
  obtain ⟨hrow, hmea, hrul, hmet, hhar, hpup, hjud, h9, h12, h16, h22⟩ := id h
  refine am_C_mono (c_es_bits 8 w v I hw hv) ?_
  intro r1 I1 hp
  have hmo := c_mo_bits 8 w v I1 hw hv
  rcases hp with ⟨c, e1, e2⟩ | ⟨c, e1, e2⟩
  all_goals
    refine ⟨_, e1, am_C_mono hmo ?_⟩
    intro r2 I2 hq
    rcases hq with ⟨c', e3, e4⟩ | ⟨c', e3, e4⟩ | ⟨c', e3, e4⟩ | ⟨c', e3, e4⟩ | ⟨c', e3, e4⟩
  · rw [e3, e4, e2]; exact ⟨rfl, es_rel_s h⟩
  · exfalso; omega
  · exfalso; omega
  · exfalso; omega
  · exfalso; omega
  · exact absurd c c'
  · obtain ⟨cw, cv⟩ := c'
    subst cw
    have fx : es_fx I I2 [8] [(9, 2), (44, 10)] := by
      rw [e4, e2]
      exact (((es_fx.rf (C := [8]) (F := [(9, 2), (44, 10)])).u (Or.inl rfl)).u (Or.inr rfl)).u (Or.inr rfl)
    have m8 : I2 8 = am_up (I 8) 0 v := by rw [e4, e2]; rfl
    have e5 : I1 44 10 = I 8 0 := by rw [e2]; exact hrul.2.2.1
    refine ⟨e3.trans (by rw [e5]; rfl), ⟨rl_row_k fx rfl hrow, rl_mea_k fx rfl hmea, ?_, rl_met_k fx rfl hmet, rl_har_k fx rfl hhar, rl_pup_k fx rfl hpup, rl_jud_k fx rfl hjud, es_i9_0 fx rfl (by rw [e4, e2]; rfl) h9, es_i12_k fx rfl h12, es_i16_k fx rfl h16, es_i22_k fx rfl h22⟩⟩
    obtain ⟨a, ⟨b1, b2, b3, b4, b5⟩, c1, c2, c3, c4⟩ := hrul
    have v7 : I2 7 = I 7 := by rw [e4, e2]; rfl
    have m107 : I2 44 7 = I 44 7 := by rw [e4, e2]; rfl
    have m108 : I2 44 8 = I 44 8 := by rw [e4, e2]; rfl
    have m109 : I2 44 9 = I 44 9 := by rw [e4, e2]; rfl
    have m110 : I2 44 10 = v := by rw [e4]; rfl
    have m111 : I2 44 11 = I 44 11 := by rw [e4, e2]; rfl
    have m112 : I2 44 12 = I 44 12 := by rw [e4, e2]; rfl
    have m113 : I2 44 13 = I 44 13 := by rw [e4, e2]; rfl
    have m114 : I2 44 14 = I 44 14 := by rw [e4, e2]; rfl
    have m115 : I2 44 15 = I 44 15 := by rw [e4, e2]; rfl
    unfold rl_rul es_rb
    rw [v7, m8, m107, m108, m109, m110, m111, m112, m113, m114, m115]
    refine ⟨a, ⟨b1, b2, b3, b4, b5⟩, ?_, ?_, ?_, ?_⟩
    · rw [am_up_eq]
    · rw [am_up_ne (by decide)]; exact c2
    · rw [am_up_ne (by decide)]; exact c3
    · rw [am_up_ne (by decide)]; exact c4
  · obtain ⟨cw, cv⟩ := c'
    subst cw
    have fx : es_fx I I2 [8] [(9, 2), (44, 11)] := by
      rw [e4, e2]
      exact (((es_fx.rf (C := [8]) (F := [(9, 2), (44, 11)])).u (Or.inl rfl)).u (Or.inr rfl)).u (Or.inr rfl)
    have m8 : I2 8 = am_up (I 8) 1 v := by rw [e4, e2]; rfl
    have e5 : I1 44 11 = I 8 1 := by rw [e2]; exact hrul.2.2.2.1
    refine ⟨e3.trans (by rw [e5]; rfl), ⟨rl_row_k fx rfl hrow, rl_mea_k fx rfl hmea, ?_, rl_met_k fx rfl hmet, rl_har_k fx rfl hhar, rl_pup_k fx rfl hpup, rl_jud_k fx rfl hjud, es_i9_0 fx rfl (by rw [e4, e2]; rfl) h9, es_i12_k fx rfl h12, es_i16_k fx rfl h16, es_i22_k fx rfl h22⟩⟩
    obtain ⟨a, ⟨b1, b2, b3, b4, b5⟩, c1, c2, c3, c4⟩ := hrul
    have v7 : I2 7 = I 7 := by rw [e4, e2]; rfl
    have m107 : I2 44 7 = I 44 7 := by rw [e4, e2]; rfl
    have m108 : I2 44 8 = I 44 8 := by rw [e4, e2]; rfl
    have m109 : I2 44 9 = I 44 9 := by rw [e4, e2]; rfl
    have m110 : I2 44 10 = I 44 10 := by rw [e4, e2]; rfl
    have m111 : I2 44 11 = v := by rw [e4]; rfl
    have m112 : I2 44 12 = I 44 12 := by rw [e4, e2]; rfl
    have m113 : I2 44 13 = I 44 13 := by rw [e4, e2]; rfl
    have m114 : I2 44 14 = I 44 14 := by rw [e4, e2]; rfl
    have m115 : I2 44 15 = I 44 15 := by rw [e4, e2]; rfl
    unfold rl_rul es_rb
    rw [v7, m8, m107, m108, m109, m110, m111, m112, m113, m114, m115]
    refine ⟨a, ⟨b1, b2, b3, b4, b5⟩, ?_, ?_, ?_, ?_⟩
    · rw [am_up_ne (by decide)]; exact c1
    · rw [am_up_eq]
    · rw [am_up_ne (by decide)]; exact c3
    · rw [am_up_ne (by decide)]; exact c4
  · obtain ⟨cw, cv⟩ := c'
    subst cw
    have fx : es_fx I I2 [8] [(9, 2), (44, 12)] := by
      rw [e4, e2]
      exact (((es_fx.rf (C := [8]) (F := [(9, 2), (44, 12)])).u (Or.inl rfl)).u (Or.inr rfl)).u (Or.inr rfl)
    have m8 : I2 8 = am_up (I 8) 2 v := by rw [e4, e2]; rfl
    have e5 : I1 44 12 = I 8 2 := by rw [e2]; exact hrul.2.2.2.2.1
    refine ⟨e3.trans (by rw [e5]; rfl), ⟨rl_row_k fx rfl hrow, rl_mea_k fx rfl hmea, ?_, rl_met_k fx rfl hmet, rl_har_k fx rfl hhar, rl_pup_k fx rfl hpup, rl_jud_k fx rfl hjud, es_i9_0 fx rfl (by rw [e4, e2]; rfl) h9, es_i12_k fx rfl h12, es_i16_k fx rfl h16, es_i22_k fx rfl h22⟩⟩
    obtain ⟨a, ⟨b1, b2, b3, b4, b5⟩, c1, c2, c3, c4⟩ := hrul
    have v7 : I2 7 = I 7 := by rw [e4, e2]; rfl
    have m107 : I2 44 7 = I 44 7 := by rw [e4, e2]; rfl
    have m108 : I2 44 8 = I 44 8 := by rw [e4, e2]; rfl
    have m109 : I2 44 9 = I 44 9 := by rw [e4, e2]; rfl
    have m110 : I2 44 10 = I 44 10 := by rw [e4, e2]; rfl
    have m111 : I2 44 11 = I 44 11 := by rw [e4, e2]; rfl
    have m112 : I2 44 12 = v := by rw [e4]; rfl
    have m113 : I2 44 13 = I 44 13 := by rw [e4, e2]; rfl
    have m114 : I2 44 14 = I 44 14 := by rw [e4, e2]; rfl
    have m115 : I2 44 15 = I 44 15 := by rw [e4, e2]; rfl
    unfold rl_rul es_rb
    rw [v7, m8, m107, m108, m109, m110, m111, m112, m113, m114, m115]
    refine ⟨a, ⟨b1, b2, b3, b4, b5⟩, ?_, ?_, ?_, ?_⟩
    · rw [am_up_ne (by decide)]; exact c1
    · rw [am_up_ne (by decide)]; exact c2
    · rw [am_up_eq]
    · rw [am_up_ne (by decide)]; exact c4
  · obtain ⟨cw, cv⟩ := c'
    subst cw
    have fx : es_fx I I2 [8] [(9, 2), (44, 13)] := by
      rw [e4, e2]
      exact (((es_fx.rf (C := [8]) (F := [(9, 2), (44, 13)])).u (Or.inl rfl)).u (Or.inr rfl)).u (Or.inr rfl)
    have m8 : I2 8 = am_up (I 8) 3 v := by rw [e4, e2]; rfl
    have e5 : I1 44 13 = I 8 3 := by rw [e2]; exact hrul.2.2.2.2.2
    refine ⟨e3.trans (by rw [e5]; rfl), ⟨rl_row_k fx rfl hrow, rl_mea_k fx rfl hmea, ?_, rl_met_k fx rfl hmet, rl_har_k fx rfl hhar, rl_pup_k fx rfl hpup, rl_jud_k fx rfl hjud, es_i9_0 fx rfl (by rw [e4, e2]; rfl) h9, es_i12_k fx rfl h12, es_i16_k fx rfl h16, es_i22_k fx rfl h22⟩⟩
    obtain ⟨a, ⟨b1, b2, b3, b4, b5⟩, c1, c2, c3, c4⟩ := hrul
    have v7 : I2 7 = I 7 := by rw [e4, e2]; rfl
    have m107 : I2 44 7 = I 44 7 := by rw [e4, e2]; rfl
    have m108 : I2 44 8 = I 44 8 := by rw [e4, e2]; rfl
    have m109 : I2 44 9 = I 44 9 := by rw [e4, e2]; rfl
    have m110 : I2 44 10 = I 44 10 := by rw [e4, e2]; rfl
    have m111 : I2 44 11 = I 44 11 := by rw [e4, e2]; rfl
    have m112 : I2 44 12 = I 44 12 := by rw [e4, e2]; rfl
    have m113 : I2 44 13 = v := by rw [e4]; rfl
    have m114 : I2 44 14 = I 44 14 := by rw [e4, e2]; rfl
    have m115 : I2 44 15 = I 44 15 := by rw [e4, e2]; rfl
    unfold rl_rul es_rb
    rw [v7, m8, m107, m108, m109, m110, m111, m112, m113, m114, m115]
    refine ⟨a, ⟨b1, b2, b3, b4, b5⟩, ?_, ?_, ?_, ?_⟩
    · rw [am_up_ne (by decide)]; exact c1
    · rw [am_up_ne (by decide)]; exact c2
    · rw [am_up_ne (by decide)]; exact c3
    · rw [am_up_eq]
theorem q_bound (n : Nat) (w v : Int) (I : am_I) (hw : (-2147483648 ≤ w ∧ w < 2147483648)) (hv : (-2147483648 ≤ v ∧ v < 2147483648)) (h : es_rel n I) : es_qf n 9 Y_es_bound Y_mo_bound [.inr (.inr 0), .inl w, .inl v] [.inr (.inr 44), .inl w, .inl v] I := by
  obtain ⟨hrow, hmea, hrul, hmet, hhar, hpup, hjud, h9, h12, h16, h22⟩ := id h
  refine am_C_mono (c_es_bound 8 w v I hw hv) ?_
  intro r1 I1 hp
  have hmo := c_mo_bound 8 w v I1 hw hv
  rcases hp with ⟨c, e1, e2⟩ | ⟨c, e1, e2⟩ | ⟨c, e1, e2⟩
  all_goals
    refine ⟨_, e1, am_C_mono hmo ?_⟩
    intro r2 I2 hq
    rcases hq with ⟨c', e3, e4⟩ | ⟨c', e3, e4⟩ | ⟨c', e3, e4⟩
  · rw [e3, e4, e2]; exact ⟨rfl, es_rel_s h⟩
  · exfalso; omega
  · exfalso; omega
  · exfalso; omega
  · have fx : es_fx I I2 [] [(7, 4), (9, 2), (44, 14)] := by
      rw [e4, e2]
      exact (((es_fx.rf (C := []) (F := [(7, 4), (9, 2), (44, 14)])).u (Or.inr rfl)).u (Or.inr rfl)).u (Or.inr rfl)
    have e5 : I1 44 14 = I 7 4 := by rw [e2]; exact hrul.2.1.2.2.2.1
    refine ⟨e3.trans (by rw [e5]), ⟨rl_row_k fx rfl hrow, rl_mea_k fx rfl hmea, ?_, rl_met_k fx rfl hmet, rl_har_k fx rfl hhar, rl_pup_k fx rfl hpup, rl_jud_k fx rfl hjud, es_i9_0 fx rfl (by rw [e4, e2]; rfl) h9, es_i12_k fx rfl h12, es_i16_k fx rfl h16, es_i22_k fx rfl h22⟩⟩
    obtain ⟨⟨a1, a2, a3, a4⟩, ⟨b1, b2, b3, b4, b5⟩, c1, c2, c3, c4⟩ := hrul
    have v8 : I2 8 = I 8 := by rw [e4, e2]; rfl
    have v201 : I2 7 1 = I 7 1 := by rw [e4, e2]; rfl
    have v202 : I2 7 2 = I 7 2 := by rw [e4, e2]; rfl
    have v203 : I2 7 3 = I 7 3 := by rw [e4, e2]; rfl
    have v204 : I2 7 4 = v := by rw [e4, e2]; rfl
    have v205 : I2 7 5 = I 7 5 := by rw [e4, e2]; rfl
    have m107 : I2 44 7 = I 44 7 := by rw [e4, e2]; rfl
    have m108 : I2 44 8 = I 44 8 := by rw [e4, e2]; rfl
    have m109 : I2 44 9 = I 44 9 := by rw [e4, e2]; rfl
    have m110 : I2 44 10 = I 44 10 := by rw [e4, e2]; rfl
    have m111 : I2 44 11 = I 44 11 := by rw [e4, e2]; rfl
    have m112 : I2 44 12 = I 44 12 := by rw [e4, e2]; rfl
    have m113 : I2 44 13 = I 44 13 := by rw [e4, e2]; rfl
    have m114 : I2 44 14 = v := by rw [e4]; rfl
    have m115 : I2 44 15 = I 44 15 := by rw [e4, e2]; rfl
    unfold rl_rul es_rb
    rw [v8, v201, v202, v203, v204, v205, m107, m108, m109, m110, m111, m112, m113, m114, m115]
    exact ⟨⟨a1, a2, by omega, by omega⟩, ⟨b1, b2, b3, rfl, b5⟩, c1, c2, c3, c4⟩
  · exfalso; omega
  · exfalso; omega
  · exfalso; omega
  · have fx : es_fx I I2 [] [(7, 5), (9, 2), (44, 15)] := by
      rw [e4, e2]
      exact (((es_fx.rf (C := []) (F := [(7, 5), (9, 2), (44, 15)])).u (Or.inr rfl)).u (Or.inr rfl)).u (Or.inr rfl)
    have e5 : I1 44 15 = I 7 5 := by rw [e2]; exact hrul.2.1.2.2.2.2
    refine ⟨e3.trans (by rw [e5]), ⟨rl_row_k fx rfl hrow, rl_mea_k fx rfl hmea, ?_, rl_met_k fx rfl hmet, rl_har_k fx rfl hhar, rl_pup_k fx rfl hpup, rl_jud_k fx rfl hjud, es_i9_0 fx rfl (by rw [e4, e2]; rfl) h9, es_i12_k fx rfl h12, es_i16_k fx rfl h16, es_i22_k fx rfl h22⟩⟩
    obtain ⟨⟨a1, a2, a3, a4⟩, ⟨b1, b2, b3, b4, b5⟩, c1, c2, c3, c4⟩ := hrul
    have v8 : I2 8 = I 8 := by rw [e4, e2]; rfl
    have v201 : I2 7 1 = I 7 1 := by rw [e4, e2]; rfl
    have v202 : I2 7 2 = I 7 2 := by rw [e4, e2]; rfl
    have v203 : I2 7 3 = I 7 3 := by rw [e4, e2]; rfl
    have v204 : I2 7 4 = I 7 4 := by rw [e4, e2]; rfl
    have v205 : I2 7 5 = v := by rw [e4, e2]; rfl
    have m107 : I2 44 7 = I 44 7 := by rw [e4, e2]; rfl
    have m108 : I2 44 8 = I 44 8 := by rw [e4, e2]; rfl
    have m109 : I2 44 9 = I 44 9 := by rw [e4, e2]; rfl
    have m110 : I2 44 10 = I 44 10 := by rw [e4, e2]; rfl
    have m111 : I2 44 11 = I 44 11 := by rw [e4, e2]; rfl
    have m112 : I2 44 12 = I 44 12 := by rw [e4, e2]; rfl
    have m113 : I2 44 13 = I 44 13 := by rw [e4, e2]; rfl
    have m114 : I2 44 14 = I 44 14 := by rw [e4, e2]; rfl
    have m115 : I2 44 15 = v := by rw [e4]; rfl
    unfold rl_rul es_rb
    rw [v8, v201, v202, v203, v204, v205, m107, m108, m109, m110, m111, m112, m113, m114, m115]
    exact ⟨⟨a1, a2, by omega, by omega⟩, ⟨b1, b2, b3, b4, rfl⟩, c1, c2, c3, c4⟩
theorem q_bars (n : Nat) (a b : Int) (I : am_I) (ha : (-2147483648 ≤ a ∧ a < 2147483648)) (hb : (-2147483648 ≤ b ∧ b < 2147483648)) (h : es_rel n I) : es_qf n 9 Y_es_bars Y_mo_bars [.inr (.inr 0), .inl a, .inl b] [.inr (.inr 44), .inl a, .inl b] I := by
  obtain ⟨hrow, hmea, hrul, hmet, hhar, hpup, hjud, h9, h12, h16, h22⟩ := id h
  refine am_C_mono (c_es_bars 8 a b I ha hb) ?_
  intro r1 I1 hp
  have hmo := c_mo_bars 8 a b I1 ha hb
  rcases hp with ⟨c, e1, e2⟩ | ⟨c, e1, e2⟩
  all_goals
    refine ⟨_, e1, am_C_mono hmo ?_⟩
    intro r2 I2 hq
    rcases hq with ⟨c', e3, e4⟩ | ⟨c', e3, e4⟩
  · rw [e3, e4, e2]; exact ⟨rfl, es_rel_s h⟩
  · exact absurd c' c
  · exact absurd c c'
  · have fx : es_fx I I2 [] [(14, 2), (14, 3), (14, 4), (44, 16), (44, 17)] := by
      rw [e4, e2]
      exact (((((es_fx.rf (C := []) (F := [(14, 2), (14, 3), (14, 4), (44, 16), (44, 17)])).u (Or.inr rfl)).u (Or.inr rfl)).u (Or.inr rfl)).u (Or.inr rfl)).u (Or.inr rfl)
    refine ⟨e3, ⟨rl_row_k fx rfl hrow, rl_mea_k fx rfl hmea, rl_rul_k fx rfl hrul, ?_, rl_har_k fx rfl hhar, rl_pup_k fx rfl hpup, rl_jud_k fx rfl hjud, es_i9_k fx rfl h9, es_i12_k fx rfl h12, es_i16_0 fx rfl (by rw [e4, e2]; rfl) h16, es_i22_k fx rfl h22⟩⟩
    obtain ⟨⟨a1, a2, a3⟩, ⟨b1, b2, b3⟩, c1, c2⟩ := hmet
    have v1 : I2 14 1 = I 14 1 := by rw [e4, e2]; rfl
    have v2 : I2 14 2 = a := by rw [e4, e2]; rfl
    have v3 : I2 14 3 = b := by rw [e4, e2]; rfl
    have v15 : I2 15 = I 15 := by rw [e4, e2]; rfl
    have v49 : I2 49 = I 49 := by rw [e4, e2]; rfl
    have m16 : I2 44 16 = a := by rw [e4]; rfl
    have m17 : I2 44 17 = b := by rw [e4]; rfl
    have m19 : I2 44 19 = I 44 19 := by rw [e4, e2]; rfl
    unfold rl_met es_mb es_b49 es_hs es_srt
    rw [v1, v2, v3, v15, v49, m16, m17, m19]
    exact ⟨⟨c.1, c.2, a3⟩, ⟨rfl, rfl, b3⟩, c1, c2⟩
theorem q_count (n : Nat) (w : Int) (I : am_I) (hw : (-2147483648 ≤ w ∧ w < 2147483648)) (h : es_rel n I) : es_qf n 9 Y_es_count Y_mo_count [.inr (.inr 0), .inl w] [.inr (.inr 44), .inl w] I := by
  obtain ⟨hrow, hmea, hrul, hmet, hhar, hpup, hjud, h9, h12, h16, h22⟩ := id h
  obtain ⟨j1, j2, j3, j4⟩ := id hjud
  refine am_C_mono (c_es_count 9 w I hw (by omega)) ?_
  intro r1 I1 hp
  have hmo := c_mo_count 9 w I hw (by omega)
  have d7 : I 23 9 = 1 → I 44 32 = I 23 7 := by
    intro z
    obtain ⟨T, t1, t2, t3, t4, t5⟩ := j4 z
    omega
  have d0 := hrow.2.1
  have d1 := hmea.2.1
  have d3 := hhar.2.1.1
  have d4 := hmet.2.1.2.2
  have d5 := hrul.2.1.2.2.1
  rcases hp with ⟨c, e1, e2⟩ | ⟨c, e1, e2⟩ | ⟨c, e1, e2⟩ | ⟨c, e1, e2⟩ | ⟨c, e1, e2⟩ | ⟨c, e1, e2⟩ | ⟨c, e1, e2⟩ | ⟨c, e1, e2⟩
  all_goals
    rw [e1, e2]
    refine ⟨_, rfl, am_C_mono hmo ?_⟩
    intro r2 I2 hq
    rcases hq with ⟨c', e3, e4⟩ | ⟨c', e3, e4⟩ | ⟨c', e3, e4⟩ | ⟨c', e3, e4⟩ | ⟨c', e3, e4⟩ | ⟨c', e3, e4⟩ | ⟨c', e3, e4⟩ | ⟨c', e3, e4⟩
    all_goals first
      | (exfalso; omega)
      | (rw [e3, e4]; exact ⟨rfl, es_rel_s h⟩)
      | (rw [e3, e4, d0]; exact ⟨rfl, es_rel_s h⟩)
      | (rw [e3, e4, d1]; exact ⟨rfl, es_rel_s h⟩)
      | (rw [e3, e4, d3]; exact ⟨rfl, es_rel_s h⟩)
      | (rw [e3, e4, d4]; exact ⟨rfl, es_rel_s h⟩)
      | (rw [e3, e4, d5]; exact ⟨rfl, es_rel_s h⟩)
      | (rw [e3, e4, d7 (by omega)]; exact ⟨rfl, es_rel_s h⟩)
theorem q_table (n : Nat) (p s w : Int) (I : am_I) (hn : n ≤ 800) (hp : (-2147483648 ≤ p ∧ p < 2147483648)) (hs : (-2147483648 ≤ s ∧ s < 2147483648)) (hw : (-2147483648 ≤ w ∧ w < 2147483648)) (h : es_rel n I) : es_qf n 9 Y_es_table Y_mo_table [.inr (.inr 0), .inl p, .inl s, .inl w] [.inr (.inr 44), .inl p, .inl s, .inl w] I := by
  obtain ⟨hrow, hmea, hrul, hmet, hhar, hpup, hjud, h9, h12, h16, h22⟩ := id h
  refine am_C_mono (c_es_table 8 p s w I hp hs hw (rl_hP hn hpup)) ?_
  intro r1 I1 hpo
  have hmo := c_mo_table 8 p s w I hp hs hw (rl_hA hn hpup)
  have hv : (0 ≤ p ∧ p ≤ 5) → (0 ≤ s ∧ s ≤ 12) → I 52 (13 * p + s).toNat = I (31 + p.toNat) s.toNat ∧ I 53 (13 * p + s).toNat = I (38 + p.toNat) s.toNat := by
    intro z1 z2
    have h1 := (hpup p.toNat s.toNat (by omega) (by omega)).1
    rw [show (13 * p + s).toNat = 13 * p.toNat + s.toNat by omega]
    exact h1
  rcases hpo with ⟨c, e1, e2⟩ | ⟨c, e1, e2⟩ | ⟨c, e1, e2⟩ | ⟨c, e1, e2⟩
  all_goals
    rw [e1, e2]
    refine ⟨_, rfl, am_C_mono hmo ?_⟩
    intro r2 I2 hq
    rcases hq with ⟨c', e3, e4⟩ | ⟨c', e3, e4⟩ | ⟨c', e3, e4⟩ | ⟨c', e3, e4⟩
    all_goals first
      | (exfalso; omega)
      | (rw [e3, e4]; exact ⟨rfl, es_rel_s h⟩)
      | (rw [e3, e4, (hv (by omega) (by omega)).1]; exact ⟨rfl, es_rel_s h⟩)
      | (rw [e3, e4, (hv (by omega) (by omega)).2]; exact ⟨rfl, es_rel_s h⟩)
      | (rw [e3, e4, (hv (by omega) (by omega)).1, (hv (by omega) (by omega)).2]; exact ⟨rfl, es_rel_s h⟩)
