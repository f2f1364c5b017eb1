theorem es_hm_c {I I1 : am_I} (h44 : I1 44 = I 44) (h50 : I1 50 = I 50) (h51 : I1 51 = I 51) (h : es_hm I) : es_hm I1 := by
  unfold es_hm
  rw [h44, h50, h51]
  exact h
theorem es_Lm_c {I I1 : am_I} (h50 : I1 50 = I 50) (h51 : I1 51 = I 51) : es_Lm I1 = es_Lm I := by
  funext i
  unfold es_Lm
  rw [h50, h51]
theorem es_b49_c {I I1 : am_I} (h49 : I1 49 = I 49) (h : es_b49 I) : es_b49 I1 := by
  unfold es_b49
  rw [h49]
  exact h
theorem es_rs_ra {S : Int → Prop} {n beat k : Int} (hb : 0 < beat) (hn : 0 ≤ n * beat) (hS : ∀ l, S l → 1 ≤ l ∧ l ≤ 96) (hk : 0 ≤ k ∧ k < es_F S beat (n * beat) 24 0) : ∀ i : Nat, i ≤ 24 → (∀ j : Nat, j < i → (es_rs S beat (n * beat) k j).1 ≠ n * beat) → es_ra S beat (n * beat) i (es_rs S beat (n * beat) k i)
  | 0, _, _ => ⟨⟨Int.le_refl _, hn⟩, hk⟩
  | i + 1, h1, h2 => by
    have ih := es_rs_ra hb hn hS hk i (by omega) (fun j hj => h2 j (by omega))
    exact (es_rs_st hb hS (by omega) ih (h2 i (by omega))).2.2.2.2
theorem es_rs_len {S : Int → Prop} {n beat k : Int} {N : Nat} (hb : 0 < beat) (hn : 0 ≤ n * beat) (hS : ∀ l, S l → 1 ≤ l ∧ l ≤ 96) (hk : 0 ≤ k ∧ k < es_F S beat (n * beat) 24 0) (hN : N ≤ 24) (hr : es_rN S beat (n * beat) k N) (j : Nat) (hj : j < N) : 0 ≤ (es_rs S beat (n * beat) k (j + 1)).1 - (es_rs S beat (n * beat) k j).1 ∧ (es_rs S beat (n * beat) k (j + 1)).1 - (es_rs S beat (n * beat) k j).1 ≤ 96 := by
  have h1 := es_rs_ra hb hn hS hk j (by omega) (fun i hi => hr.2 i (by omega))
  have h2 := (es_rs_st hb hS (by omega) h1 (hr.2 j hj)).2.1
  have e : (es_rs S beat (n * beat) k (j + 1)).1 = (es_rs S beat (n * beat) k j).1 + (es_pk (es_rf S beat (n * beat) (23 - j) (es_rs S beat (n * beat) k j).1) 1 96 (es_rs S beat (n * beat) k j).2).1 := rfl
  rw [e]
  omega
theorem q_melodies (n : Nat) (I : am_I) (h : es_rel n I) : es_qg n 9 Y_es_melodies Y_mo_melodies [.inr (.inr 0)] [.inr (.inr 44)] I := by
  obtain ⟨hrow, hmea, hrul, hmet, hhar, hpup, hjud, h9, h12, h16, h22⟩ := id h
  refine am_C_mono (c_es_melodies 4 I hrul.1 h9) ?_
  intro r1 I1 hp
  obtain ⟨e1, f1, i9⟩ := hp
  have k44 : I1 44 = I 44 := f1 44 rfl
  refine ⟨_, e1, am_C_mono (c_mo_melodies 5 I1 (by rw [k44]; exact rl_rm hrul)) ?_⟩
  intro r2 I2 hq
  obtain ⟨e3, f2, -⟩ := hq
  rw [k44, rl_tot hrul] at e3
  have fx : es_fx I I2 ([9, 10] ++ [54]) ([] ++ []) := (es_fx.fr f1).tr (es_fx.fr f2)
  have fy : es_fx I1 I2 [54] [] := es_fx.fr f2
  exact ⟨e3, ⟨rl_row_k fx rfl hrow, rl_mea_k fx rfl hmea, rl_rul_k fx rfl hrul, rl_met_k fx rfl hmet, rl_har_k fx rfl hhar, rl_pup_k fx rfl hpup, rl_jud_k fx rfl hjud, es_i9_k fy rfl i9, es_i12_k fx rfl h12, es_i16_k fx rfl h16, es_i22_k fx rfl h22⟩⟩
theorem q_melody (n : Nat) (k : Int) (I : am_I) (hk : -9223372036854775808 ≤ k ∧ k < 9223372036854775808) (h : es_rel n I) : es_qf n 9 Y_es_melody Y_mo_melody [.inr (.inr 0), .inr (.inl k)] [.inr (.inr 44), .inr (.inl k)] I := by
  obtain ⟨hrow, hmea, hrul, hmet, hhar, hpup, hjud, h9, h12, h16, h22⟩ := id h
  have hrm := rl_rm hrul
  have hct := rl_cut hrul
  refine am_C_mono (c_es_melody 4 k I hk hrul.1 h9) ?_
  intro r1 I1 hp
  have hmo : I1 44 = I 44 → _ := fun z => c_mo_melody 4 k I1 hk (by rw [z]; exact hrm)
  rcases hp with ⟨c, e1, e2⟩ | ⟨c, e1, f1, i9⟩ | ⟨c, e1, f1, i9, s0, sn, sv⟩
  · have k44 : I1 44 = I 44 := by rw [e2]
    refine ⟨_, e1, am_C_mono (hmo k44) ?_⟩
    intro r2 I2 hq
    rw [k44, hct] at hq
    rcases hq with ⟨c', e3, e4⟩ | ⟨c', e3, f2⟩ | ⟨c', e3, f2⟩
    · rw [e4, e2]; exact ⟨e3, es_rel_s h⟩
    · exfalso; omega
    · exfalso; omega
  · have k44 : I1 44 = I 44 := f1 44 rfl
    refine ⟨_, e1, am_C_mono (hmo k44) ?_⟩
    intro r2 I2 hq
    rw [k44, hct] at hq
    rcases hq with ⟨c', e3, e4⟩ | ⟨c', e3, f2⟩ | ⟨c', e3, f2⟩
    · exfalso; omega
    · have fx : es_fx I I2 ([9, 10] ++ [54]) ([] ++ []) := (es_fx.fr f1).tr (es_fx.fr f2)
      have fy : es_fx I1 I2 [54] [] := es_fx.fr f2
      exact ⟨e3, ⟨rl_row_k fx rfl hrow, rl_mea_k fx rfl hmea, rl_rul_k fx rfl hrul, rl_met_k fx rfl hmet, rl_har_k fx rfl hhar, rl_pup_k fx rfl hpup, rl_jud_k fx rfl hjud, es_i9_k fy rfl i9, es_i12_k fx rfl h12, es_i16_k fx rfl h16, es_i22_k fx rfl h22⟩⟩
    · exfalso; omega
  · have k44 : I1 44 = I 44 := f1 44 rfl
    refine ⟨_, e1, am_C_mono (hmo k44) ?_⟩
    intro r2 I2 hq
    rw [k44, hct] at hq
    rcases hq with ⟨c', e3, e4⟩ | ⟨c', e3, f2⟩ | ⟨c', e3, f2, m44, mv⟩
    · exfalso; omega
    · exfalso; omega
    · have fy : es_fx I1 I2 [45, 46, 54] [(44, 0), (44, 6)] := (es_fx.fr (C := [44, 45, 46, 54]) f2).cut (fun k hk => by rw [m44, es_up1 hk rfl, es_up1 hk rfl, k44])
      have fx : es_fx I I2 ([1, 2, 3, 9, 10, 23] ++ [45, 46, 54]) ([] ++ [(44, 0), (44, 6)]) := (es_fx.fr f1).tr fy
      have h73 : I 44 9 = I 7 3 := hrul.2.1.2.2.1
      rw [h73] at m44 mv
      refine ⟨e3, ⟨?_, rl_mea_k fx rfl hmea, rl_rul_k fx rfl hrul, rl_met_k fx rfl hmet, rl_har_k fx rfl hhar, rl_pup_k fx rfl hpup, ?_, es_i9_k fy rfl i9, es_i12_k fx rfl h12, es_i16_k fx rfl h16, es_i22_k fx rfl h22⟩⟩
      · have v1 : I2 1 2 = I 7 3 := by rw [fy 1 2 rfl rfl, sn]
        have v2 : I2 44 0 = I 7 3 := by rw [m44]; rfl
        have v3 : I2 2 = I1 2 := f2 2 rfl
        have v4 : I2 3 = I1 3 := f2 3 rfl
        have hr := hrul.1.2.1
        unfold rl_row
        rw [v1, v2, v3, v4]
        refine ⟨by omega, rfl, fun j hj => ?_⟩
        have h1 := sv j hj
        have h2 := mv j hj
        rw [h1.1, h1.2, h2.1, h2.2]
        have h3 := es_sp_al (rl_rmc hrul) c (j + 1) (by show ((j + 1 : Nat) : Int) ≤ I 7 3; omega)
        have h4 : I 7 1 ≤ (es_sp (es_Rc I) k (j + 1)).1 ∧ (es_sp (es_Rc I) k (j + 1)).1 ≤ I 7 2 := h3.1
        have h5 := hrul.1.1
        exact ⟨⟨rfl, rfl⟩, by omega, by omega⟩
      · refine rl_jud_0 (by rw [fy 23 9 rfl rfl]; exact s0) (by rw [m44]; rfl) ?_
        rw [fx 44 32 rfl rfl]
        exact hjud.2.2.1
theorem q_place (n : Nat) (I : am_I) (h : es_rel n I) : es_qg n 9 Y_es_place Y_mo_place [.inr (.inr 0)] [.inr (.inr 44)] I := by
  obtain ⟨hrow, hmea, hrul, hmet, hhar, hpup, hjud, h9, h12, h16, h22⟩ := id h
  have hrm := rl_rm hrul
  have hct := rl_cut hrul
  obtain ⟨w1, w2, w3⟩ := id hrow
  have h73 : I 44 9 = I 7 3 := hrul.2.1.2.2.1
  have h71 : I 44 7 = I 7 1 := hrul.2.1.1
  refine am_C_mono (c_es_place 4 I hrul.1 h9 w1 (fun j hj => (w3 j hj).2.1)) ?_
  intro r1 I1 hp
  have hmo : I1 44 = I 44 → I1 45 = I 45 → _ := fun z z2 => c_mo_place 5 I1 (by rw [z]; exact hrm) (by rw [z]; omega) (fun j hj => by
    rw [z, w2] at hj
    rw [z2, (w3 j hj).1.1]
    exact (w3 j hj).2.1)
  rcases hp with ⟨c, e1, e2⟩ | ⟨c, e1, f1, i9⟩
  · have k44 : I1 44 = I 44 := by rw [e2]
    have k45 : I1 45 = I 45 := by rw [e2]
    refine ⟨_, e1, am_C_mono (hmo k44 k45) ?_⟩
    intro r2 I2 hq
    rw [k44, w2, h73] at hq
    rcases hq with ⟨c', e3, e4⟩ | ⟨c', e3, f2⟩
    · rw [e4, e2]; exact ⟨e3, es_rel_s h⟩
    · exact absurd c' c
  · have k44 : I1 44 = I 44 := f1 44 rfl
    have k45 : I1 45 = I 45 := f1 45 rfl
    refine ⟨_, e1, am_C_mono (hmo k44 k45) ?_⟩
    intro r2 I2 hq
    rw [k44, k45, w2, h73, hct, h71] at hq
    rcases hq with ⟨c', e3, e4⟩ | ⟨c', e3, f2⟩
    · exact absurd c c'
    · have fx : es_fx I I2 ([9, 10] ++ [54]) ([] ++ []) := (es_fx.fr f1).tr (es_fx.fr f2)
      have fy : es_fx I1 I2 [54] [] := es_fx.fr f2
      rw [es_ah_cg (P := I 45) (Q := I 2) (I 7 3).toNat 0 (I 7 1) 0 0 (fun j hj => (w3 j (by omega)).1.1)] at e3
      exact ⟨e3, ⟨rl_row_k fx rfl hrow, rl_mea_k fx rfl hmea, rl_rul_k fx rfl hrul, rl_met_k fx rfl hmet, rl_har_k fx rfl hhar, rl_pup_k fx rfl hpup, rl_jud_k fx rfl hjud, es_i9_k fy rfl i9, es_i12_k fx rfl h12, es_i16_k fx rfl h16, es_i22_k fx rfl h22⟩⟩
theorem q_drill (n : Nat) (pu : Int) (I : am_I) (hn : n ≤ 800) (hpr : (-2147483648 ≤ pu ∧ pu < 2147483648)) (h : es_rel n I) : es_qf n 9 Y_es_drill Y_mo_drill [.inr (.inr 0), .inl pu] [.inr (.inr 44), .inl pu] I := by
  obtain ⟨hrow, hmea, hrul, hmet, hhar, hpup, hjud, h9, h12, h16, h22⟩ := id h
  have hrm := rl_rm hrul
  have hct := rl_cut hrul
  refine am_C_mono (c_es_drill 4 pu I hpr hrul.1 h12 (rl_hP hn hpup)) ?_
  intro r1 I1 hp
  have hmo : I1 44 = I 44 → I1 52 = I 52 → I1 53 = I 53 → _ := fun z z2 z3 => c_mo_drill 5 pu I1 hpr (by rw [z]; exact hrm) (by rw [z2, z3]; exact rl_hA hn hpup)
  have hws : (0 ≤ pu ∧ pu ≤ 5) → _ := fun z => rl_ws hpup z
  rcases hp with ⟨c, e1, e2⟩ | ⟨c, e1, f1, i12⟩ | ⟨c, e1, f1, i12, s0, sn, sv⟩
  · have k44 : I1 44 = I 44 := by rw [e2]
    have k52 : I1 52 = I 52 := by rw [e2]
    have k53 : I1 53 = I 53 := by rw [e2]
    refine ⟨_, e1, am_C_mono (hmo k44 k52 k53) ?_⟩
    intro r2 I2 hq
    rcases hq with ⟨c', e3, e4⟩ | ⟨c', e3, f2⟩ | ⟨c', e3, f2⟩
    · rw [e4, e2]; exact ⟨e3, es_rel_s h⟩
    · exact absurd c'.1 c
    · exact absurd c'.1 c
  · have k44 : I1 44 = I 44 := f1 44 rfl
    have k52 : I1 52 = I 52 := f1 52 rfl
    have k53 : I1 53 = I 53 := f1 53 rfl
    refine ⟨_, e1, am_C_mono (hmo k44 k52 k53) ?_⟩
    intro r2 I2 hq
    rw [k44, k52, k53, hct, hws c.1] at hq
    rcases hq with ⟨c', e3, e4⟩ | ⟨c', e3, f2⟩ | ⟨c', e3, f2⟩
    · exact absurd c.1 c'
    · have fx : es_fx I I2 ([11, 12, 13] ++ [54]) ([] ++ []) := (es_fx.fr f1).tr (es_fx.fr f2)
      have fy : es_fx I1 I2 [54] [] := es_fx.fr f2
      exact ⟨e3, ⟨rl_row_k fx rfl hrow, rl_mea_k fx rfl hmea, rl_rul_k fx rfl hrul, rl_met_k fx rfl hmet, rl_har_k fx rfl hhar, rl_pup_k fx rfl hpup, rl_jud_k fx rfl hjud, es_i9_k fx rfl h9, es_i12_k fy rfl i12, es_i16_k fx rfl h16, es_i22_k fx rfl h22⟩⟩
    · exfalso
      have z1 := c.2
      have z2 := c'.2
      omega
  · have k44 : I1 44 = I 44 := f1 44 rfl
    have k52 : I1 52 = I 52 := f1 52 rfl
    have k53 : I1 53 = I 53 := f1 53 rfl
    refine ⟨_, e1, am_C_mono (hmo k44 k52 k53) ?_⟩
    intro r2 I2 hq
    rw [k44, k52, k53, hct, hws c.1] at hq
    rcases hq with ⟨c', e3, e4⟩ | ⟨c', e3, f2⟩ | ⟨c', e3, f2, m44, mv⟩
    · exact absurd c.1 c'
    · exfalso
      have z1 := c.2
      have z2 := c'.2
      omega
    · have fy : es_fx I1 I2 [45, 46, 54] [(44, 0), (44, 6)] := (es_fx.fr (C := [44, 45, 46, 54]) f2).cut (fun k hk => by rw [m44, es_up1 hk rfl, es_up1 hk rfl, k44])
      have fx : es_fx I I2 ([1, 2, 3, 11, 12, 13, 23] ++ [45, 46, 54]) ([] ++ [(44, 0), (44, 6)]) := (es_fx.fr f1).tr fy
      have h73 : I 44 9 = I 7 3 := hrul.2.1.2.2.1
      rw [h73] at m44 mv
      refine ⟨e3, ⟨?_, rl_mea_k fx rfl hmea, rl_rul_k fx rfl hrul, rl_met_k fx rfl hmet, rl_har_k fx rfl hhar, rl_pup_k fx rfl hpup, ?_, es_i9_k fx rfl h9, es_i12_k fy rfl i12, es_i16_k fx rfl h16, es_i22_k fx rfl h22⟩⟩
      · have v1 : I2 1 2 = I 7 3 := by rw [fy 1 2 rfl rfl, sn]
        have v2 : I2 44 0 = I 7 3 := by rw [m44]; rfl
        have v3 : I2 2 = I1 2 := f2 2 rfl
        have v4 : I2 3 = I1 3 := f2 3 rfl
        have hr := hrul.1.2.1
        unfold rl_row
        rw [v1, v2, v3, v4]
        refine ⟨by omega, rfl, fun j hj => ?_⟩
        have h1 := sv j hj
        have h2 := mv j hj
        rw [h1.1, h1.2, h2.1, h2.2]
        have h3 := es_dp_da (rl_rmc hrul) c.2 (j + 1) (by show ((j + 1 : Nat) : Int) ≤ I 7 3; omega)
        have h4 : I 7 1 ≤ (es_dp (es_Rc I) (es_ws (es_pwc I pu)) (j + 1)).1 ∧ (es_dp (es_Rc I) (es_ws (es_pwc I pu)) (j + 1)).1 ≤ I 7 2 := h3.1
        have h5 := hrul.1.1
        exact ⟨⟨rfl, rfl⟩, by omega, by omega⟩
      · refine rl_jud_0 (by rw [fy 23 9 rfl rfl]; exact s0) (by rw [m44]; rfl) ?_
        rw [fx 44 32 rfl rfl]
        exact hjud.2.2.1
theorem q_rhythms (n : Nat) (I : am_I) (h : es_rel n I) : es_qg n 9 Y_es_rhythms Y_mo_rhythms [.inr (.inr 0)] [.inr (.inr 44)] I := by
  obtain ⟨hrow, hmea, hrul, hmet, hhar, hpup, hjud, h9, h12, h16, h22⟩ := id h
  obtain ⟨a1, ⟨b1, b2, b3⟩, c1, c2⟩ := id hmet
  have hSm := rl_Sm hmet
  refine am_C_mono (c_es_rhythms 4 I a1 h16) ?_
  intro r1 I1 hp
  obtain ⟨e1, f1, m14, i16⟩ := hp
  have k44 : I1 44 = I 44 := f1 44 rfl
  have k49 : I1 49 = I 49 := f1 49 rfl
  refine ⟨_, e1, am_C_mono (c_mo_rhythms 7 I1 (by rw [k44]; unfold es_mr; rw [b1, b2]; exact ⟨a1.1, a1.2.1⟩) (es_b49_c k49 c1)) ?_⟩
  intro r2 I2 hq
  obtain ⟨e3, f2, -⟩ := hq
  rw [k44, b1, b2, es_Sm_c k49, hSm] at e3
  have f1' : es_fx I I1 [16] [(14, 4)] := (es_fx.fr (C := [14, 16]) f1).cut (fun k hk => by rw [m14, es_up1 hk rfl])
  have fx : es_fx I I2 ([16] ++ [55]) ([(14, 4)] ++ []) := f1'.tr (es_fx.fr f2)
  have fy : es_fx I1 I2 [55] [] := es_fx.fr f2
  exact ⟨e3, ⟨rl_row_k fx rfl hrow, rl_mea_k fx rfl hmea, rl_rul_k fx rfl hrul, rl_met_k fx rfl hmet, rl_har_k fx rfl hhar, rl_pup_k fx rfl hpup, rl_jud_k fx rfl hjud, es_i9_k fx rfl h9, es_i12_k fx rfl h12, es_i16_k fy rfl i16, es_i22_k fx rfl h22⟩⟩
theorem q_rhythm (n : Nat) (k : Int) (I : am_I) (hk : -9223372036854775808 ≤ k ∧ k < 9223372036854775808) (h : es_rel n I) : es_qf n 9 Y_es_rhythm Y_mo_rhythm [.inr (.inr 0), .inr (.inl k)] [.inr (.inr 44), .inr (.inl k)] I := by
  obtain ⟨hrow, hmea, hrul, hmet, hhar, hpup, hjud, h9, h12, h16, h22⟩ := id h
  obtain ⟨a1, ⟨b1, b2, b3⟩, c1, c2⟩ := id hmet
  have hSm := rl_Sm hmet
  refine am_C_mono (c_es_rhythm 4 k I hk a1 h16) ?_
  intro r1 I1 hp
  have hmo : I1 44 = I 44 → I1 49 = I 49 → _ := fun z z2 => c_mo_rhythm 6 k I1 hk (by rw [z]; unfold es_mr; rw [b1, b2]; exact ⟨a1.1, a1.2.1⟩) (es_b49_c z2 c1)
  rcases hp with ⟨c, e1, e2⟩ | ⟨c, e1, f1, m14, i16⟩ | ⟨c, f1, m14, i16, s0, N, hN, hrN, e1, sn, sv⟩
  · have k44 : I1 44 = I 44 := by rw [e2]
    have k49 : I1 49 = I 49 := by rw [e2]
    refine ⟨_, e1, am_C_mono (hmo k44 k49) ?_⟩
    intro r2 I2 hq
    rcases hq with ⟨c', e3, e4⟩ | ⟨c', e3, f2⟩ | ⟨c', f2⟩
    · rw [e4, e2]; exact ⟨e3, es_rel_s h⟩
    · exfalso
      have z := c'.1
      omega
    · exfalso
      have z := c'.1
      omega
  · have k44 : I1 44 = I 44 := f1 44 rfl
    have k49 : I1 49 = I 49 := f1 49 rfl
    refine ⟨_, e1, am_C_mono (hmo k44 k49) ?_⟩
    intro r2 I2 hq
    rw [k44, b1, b2, es_Sm_c k49, hSm] at hq
    rcases hq with ⟨c', e3, e4⟩ | ⟨c', e3, f2⟩ | ⟨c', f2⟩
    · exfalso
      have z := c.1
      omega
    · have f1' : es_fx I I1 [16] [(14, 4)] := (es_fx.fr (C := [14, 16]) f1).cut (fun k hk => by rw [m14, es_up1 hk rfl])
      have fx : es_fx I I2 ([16] ++ [55]) ([(14, 4)] ++ []) := f1'.tr (es_fx.fr f2)
      have fy : es_fx I1 I2 [55] [] := es_fx.fr f2
      exact ⟨e3, ⟨rl_row_k fx rfl hrow, rl_mea_k fx rfl hmea, rl_rul_k fx rfl hrul, rl_met_k fx rfl hmet, rl_har_k fx rfl hhar, rl_pup_k fx rfl hpup, rl_jud_k fx rfl hjud, es_i9_k fx rfl h9, es_i12_k fx rfl h12, es_i16_k fy rfl i16, es_i22_k fx rfl h22⟩⟩
    · exfalso
      have z := c.2
      have z2 := c'.2
      omega
  · have k44 : I1 44 = I 44 := f1 44 rfl
    have k49 : I1 49 = I 49 := f1 49 rfl
    refine ⟨_, e1, am_C_mono (hmo k44 k49) ?_⟩
    intro r2 I2 hq
    rw [k44, b1, b2, es_Sm_c k49, hSm] at hq
    rcases hq with ⟨c', e3, e4⟩ | ⟨c', e3, f2⟩ | ⟨c', f2, N', hN', hrN', e3, m44, mv⟩
    · exfalso
      have z := c.1
      omega
    · exfalso
      have z := c.2
      have z2 := c'.2
      omega
    · have eN : N' = N := es_rN_u hrN' hrN
      rw [eN] at e3 m44 mv
      have f1' : es_fx I I1 [1, 2, 3, 16, 23] [(14, 4)] := by
        intro a k h1 h2
        by_cases e : a = 14
        · rw [e] at h2 ⊢
          rw [m14, es_up1 h2 rfl]
        · refine (es_fx.fr (C := [1, 2, 3, 14, 16, 23]) (F := []) f1) a k ?_ rfl
          cases hc : am_mem a [1, 2, 3, 14, 16, 23] with
          | false => rfl
          | true =>
            have h3 := am_mem_iff.1 hc
            simp only [List.mem_cons, List.not_mem_nil, or_false] at h3
            rcases h3 with z | z | z | z | z | z
            · rw [z] at h1; cases h1
            · rw [z] at h1; cases h1
            · rw [z] at h1; cases h1
            · exact absurd z e
            · rw [z] at h1; cases h1
            · rw [z] at h1; cases h1
      have fy : es_fx I1 I2 [45, 46, 55] [(44, 0), (44, 6)] := (es_fx.fr (C := [44, 45, 46, 55]) f2).cut (fun k hk => by rw [m44, es_up1 hk rfl, es_up1 hk rfl, k44])
      have fx : es_fx I I2 ([1, 2, 3, 16, 23] ++ [45, 46, 55]) ([(14, 4)] ++ [(44, 0), (44, 6)]) := f1'.tr fy
      refine ⟨e3, ⟨?_, rl_mea_k fx rfl hmea, rl_rul_k fx rfl hrul, rl_met_k fx rfl hmet, rl_har_k fx rfl hhar, rl_pup_k fx rfl hpup, ?_, es_i9_k fx rfl h9, es_i12_k fx rfl h12, es_i16_k fy rfl i16, es_i22_k fx rfl h22⟩⟩
      · have v1 : I2 1 2 = (N : Int) := by rw [fy 1 2 rfl rfl, sn]
        have v2 : I2 44 0 = (N : Int) := by rw [m44]; rfl
        have v3 : I2 2 = I1 2 := f2 2 rfl
        have v4 : I2 3 = I1 3 := f2 3 rfl
        unfold rl_row
        rw [v1, v2, v3, v4]
        refine ⟨by omega, rfl, fun j hj => ?_⟩
        have h1 := sv j (by omega)
        have h2 := mv j (by omega)
        have hall := es_all a1.1 a1.2.1
        have h3 := es_rs_len (by have := a1.2.1; omega) (by omega) (fun l hl => hl.1) c hN hrN j (by omega)
        rw [h1.1, h1.2, h2.1, h2.2]
        exact ⟨⟨rfl, rfl⟩, by omega, h3⟩
      · refine rl_jud_0 (by rw [fy 23 9 rfl rfl]; exact s0) (by rw [m44]; rfl) ?_
        rw [fx 44 32 rfl rfl]
        exact hjud.2.2.1
