theorem la_bt {L : Nat} {xs : Nat → Int32} {y : am_Y} {pc nx tg : Nat} {lv : List (Nat × am_v)} {st r : List am_v} {I : am_I} (hy : la_y y) {P C : Prop} (h : am_brf y pc st = some (P, C, tg, nx, r)) (hp : P) (hc : C) (kt : la_V L xs tg lv r I) : la_V L xs pc lv st I := la_br hy h hp (fun _ => kt) (fun z => absurd hc z)
theorem la_bf {L : Nat} {xs : Nat → Int32} {y : am_Y} {pc nx tg : Nat} {lv : List (Nat × am_v)} {st r : List am_v} {I : am_I} (hy : la_y y) {P C : Prop} (h : am_brf y pc st = some (P, C, tg, nx, r)) (hp : P) (hc : ¬ C) (kf : la_V L xs nx lv r I) : la_V L xs pc lv st I := la_br hy h hp (fun z => absurd z hc) (fun _ => kf)
theorem la_c0 {L : Nat} {xs : Nat → Int32} {n : Nat} {I : am_I} {i : Int} (h0 : es_rel n I) (hn : n ≤ 800) (hL : L ≤ 2560) (hi : 0 ≤ i ∧ i + 5 ≤ (L : Int)) (kk : ∀ I2, es_rel (n + 1) I2 → la_V L xs 893 [(0, .inr (.inr 65)), (1, .inr (.inr 0)), (2, .inr (.inr 44)), (3, .inl i)] [] I2) : la_V L xs 148 [(0, .inr (.inr 65)), (1, .inr (.inr 0)), (2, .inr (.inr 44)), (3, .inl i)] [] I := by
  obtain ⟨x1, hx1, rx1⟩ := la_x xs (i + 1).toNat
  obtain ⟨x2, hx2, rx2⟩ := la_x xs (i + 2).toNat
  repeat' (first
    | (refine la_gp oy_la_0 40 [893] rfl (by first | exact True.intro | (simp (decide := true) only [am_p]; omega)) ?_)
    | (refine la_sld oy_la_0 rfl hL (by omega) (by assumption) ?_)
    | (refine la_lshl oy_la_0 rfl ?_)
    | (refine la_land oy_la_0 rfl ?_)
    | (refine la_lor oy_la_0 rfl ?_))
  refine la_cV (y' := Y_es_note) oy_la_0 rfl lk_la_13 ok_es_note rfl rfl rfl (q_note n x1 x2 I rx1 rx2 h0) ?_
  rintro r1 I1 ⟨x, rfl, hq⟩
  repeat' (first
    | (refine la_gp oy_la_0 40 [893] rfl (by first | exact True.intro | (simp (decide := true) only [am_p]; omega)) ?_)
    | (refine la_sld oy_la_0 rfl hL (by omega) (by assumption) ?_)
    | (refine la_lshl oy_la_0 rfl ?_)
    | (refine la_land oy_la_0 rfl ?_)
    | (refine la_lor oy_la_0 rfl ?_))
  refine la_cV (y' := Y_mo_note) oy_la_0 rfl lk_la_17 ok_mo_note rfl rfl rfl hq ?_
  rintro r2 I2 ⟨rfl, hr⟩
  refine la_eqi oy_la_0 rfl ?_
  exact kk I2 hr
theorem la_c1 {L : Nat} {xs : Nat → Int32} {n : Nat} {I : am_I} {i : Int} (h0 : es_rel n I) (hn : n ≤ 800) (hL : L ≤ 2560) (hi : 0 ≤ i ∧ i + 5 ≤ (L : Int)) (kk : ∀ I2, es_rel (n + 1) I2 → la_V L xs 893 [(0, .inr (.inr 65)), (1, .inr (.inr 0)), (2, .inr (.inr 44)), (3, .inl i)] [] I2) : la_V L xs 181 [(0, .inr (.inr 65)), (1, .inr (.inr 0)), (2, .inr (.inr 44)), (3, .inl i)] [] I := by
  repeat' (first
    | (refine la_gp oy_la_1 40 [893] rfl (by first | exact True.intro | (simp (decide := true) only [am_p]; omega)) ?_)
    | (refine la_sld oy_la_1 rfl hL (by omega) (by assumption) ?_)
    | (refine la_lshl oy_la_1 rfl ?_)
    | (refine la_land oy_la_1 rfl ?_)
    | (refine la_lor oy_la_1 rfl ?_))
  refine la_cV (y' := Y_es_drop) oy_la_1 rfl lk_la_18 ok_es_drop rfl rfl rfl (q_drop n I h0) ?_
  rintro r1 I1 ⟨x, rfl, hq⟩
  repeat' (first
    | (refine la_gp oy_la_1 40 [893] rfl (by first | exact True.intro | (simp (decide := true) only [am_p]; omega)) ?_)
    | (refine la_sld oy_la_1 rfl hL (by omega) (by assumption) ?_)
    | (refine la_lshl oy_la_1 rfl ?_)
    | (refine la_land oy_la_1 rfl ?_)
    | (refine la_lor oy_la_1 rfl ?_))
  refine la_cV (y' := Y_mo_drop) oy_la_1 rfl lk_la_22 ok_mo_drop rfl rfl rfl hq ?_
  rintro r2 I2 ⟨rfl, hr⟩
  refine la_eqi oy_la_1 rfl ?_
  exact kk I2 hr
theorem la_c2 {L : Nat} {xs : Nat → Int32} {n : Nat} {I : am_I} {i : Int} (h0 : es_rel n I) (hn : n ≤ 800) (hL : L ≤ 2560) (hi : 0 ≤ i ∧ i + 5 ≤ (L : Int)) (kk : ∀ I2, es_rel (n + 1) I2 → la_V L xs 893 [(0, .inr (.inr 65)), (1, .inr (.inr 0)), (2, .inr (.inr 44)), (3, .inl i)] [] I2) : la_V L xs 194 [(0, .inr (.inr 65)), (1, .inr (.inr 0)), (2, .inr (.inr 44)), (3, .inl i)] [] I := by
  obtain ⟨x1, hx1, rx1⟩ := la_x xs (i + 1).toNat
  obtain ⟨x2, hx2, rx2⟩ := la_x xs (i + 2).toNat
  repeat' (first
    | (refine la_gp oy_la_2 40 [893] rfl (by first | exact True.intro | (simp (decide := true) only [am_p]; omega)) ?_)
    | (refine la_sld oy_la_2 rfl hL (by omega) (by assumption) ?_)
    | (refine la_lshl oy_la_2 rfl ?_)
    | (refine la_land oy_la_2 rfl ?_)
    | (refine la_lor oy_la_2 rfl ?_))
  refine la_cV (y' := Y_es_at) oy_la_2 rfl lk_la_23 ok_es_at rfl rfl rfl (q_at n x1 x2 I rx1 rx2 h0) ?_
  rintro r1 I1 ⟨x, rfl, hq⟩
  repeat' (first
    | (refine la_gp oy_la_2 40 [893] rfl (by first | exact True.intro | (simp (decide := true) only [am_p]; omega)) ?_)
    | (refine la_sld oy_la_2 rfl hL (by omega) (by assumption) ?_)
    | (refine la_lshl oy_la_2 rfl ?_)
    | (refine la_land oy_la_2 rfl ?_)
    | (refine la_lor oy_la_2 rfl ?_))
  refine la_cV (y' := Y_mo_at) oy_la_2 rfl lk_la_26 ok_mo_at rfl rfl rfl hq ?_
  rintro r2 I2 ⟨rfl, hr⟩
  refine la_eqi oy_la_2 rfl ?_
  exact kk I2 hr
theorem la_c3 {L : Nat} {xs : Nat → Int32} {n : Nat} {I : am_I} {i : Int} (h0 : es_rel n I) (hn : n ≤ 800) (hL : L ≤ 2560) (hi : 0 ≤ i ∧ i + 5 ≤ (L : Int)) (kk : ∀ I2, es_rel (n + 1) I2 → la_V L xs 893 [(0, .inr (.inr 65)), (1, .inr (.inr 0)), (2, .inr (.inr 44)), (3, .inl i)] [] I2) : la_V L xs 227 [(0, .inr (.inr 65)), (1, .inr (.inr 0)), (2, .inr (.inr 44)), (3, .inl i)] [] I := by
  obtain ⟨x1, hx1, rx1⟩ := la_x xs (i + 1).toNat
  obtain ⟨x2, hx2, rx2⟩ := la_x xs (i + 2).toNat
  obtain ⟨x3, hx3, rx3⟩ := la_x xs (i + 3).toNat
  repeat' (first
    | (refine la_gp oy_la_3 40 [893] rfl (by first | exact True.intro | (simp (decide := true) only [am_p]; omega)) ?_)
    | (refine la_sld oy_la_3 rfl hL (by omega) (by assumption) ?_)
    | (refine la_lshl oy_la_3 rfl ?_)
    | (refine la_land oy_la_3 rfl ?_)
    | (refine la_lor oy_la_3 rfl ?_))
  refine la_cV (y' := Y_es_range) oy_la_3 rfl lk_la_27 ok_es_range rfl rfl rfl (q_range n x1 x2 x3 I rx1 rx2 rx3 h0) ?_
  rintro r1 I1 ⟨x, rfl, hq⟩
  repeat' (first
    | (refine la_gp oy_la_3 40 [893] rfl (by first | exact True.intro | (simp (decide := true) only [am_p]; omega)) ?_)
    | (refine la_sld oy_la_3 rfl hL (by omega) (by assumption) ?_)
    | (refine la_lshl oy_la_3 rfl ?_)
    | (refine la_land oy_la_3 rfl ?_)
    | (refine la_lor oy_la_3 rfl ?_))
  refine la_cV (y' := Y_mo_range) oy_la_3 rfl lk_la_31 ok_mo_range rfl rfl rfl hq ?_
  rintro r2 I2 ⟨rfl, hr⟩
  refine la_eqi oy_la_3 rfl ?_
  exact kk I2 hr
theorem la_c4 {L : Nat} {xs : Nat → Int32} {n : Nat} {I : am_I} {i : Int} (h0 : es_rel n I) (hn : n ≤ 800) (hL : L ≤ 2560) (hi : 0 ≤ i ∧ i + 5 ≤ (L : Int)) (kk : ∀ I2, es_rel (n + 1) I2 → la_V L xs 893 [(0, .inr (.inr 65)), (1, .inr (.inr 0)), (2, .inr (.inr 44)), (3, .inl i)] [] I2) : la_V L xs 270 [(0, .inr (.inr 65)), (1, .inr (.inr 0)), (2, .inr (.inr 44)), (3, .inl i)] [] I := by
  obtain ⟨x1, hx1, rx1⟩ := la_x xs (i + 1).toNat
  obtain ⟨x2, hx2, rx2⟩ := la_x xs (i + 2).toNat
  repeat' (first
    | (refine la_gp oy_la_4 40 [893] rfl (by first | exact True.intro | (simp (decide := true) only [am_p]; omega)) ?_)
    | (refine la_sld oy_la_4 rfl hL (by omega) (by assumption) ?_)
    | (refine la_lshl oy_la_4 rfl ?_)
    | (refine la_land oy_la_4 rfl ?_)
    | (refine la_lor oy_la_4 rfl ?_))
  refine la_cV (y' := Y_es_bits) oy_la_4 rfl lk_la_32 ok_es_bits rfl rfl rfl (q_bits n x1 x2 I rx1 rx2 h0) ?_
  rintro r1 I1 ⟨x, rfl, hq⟩
  repeat' (first
    | (refine la_gp oy_la_4 40 [893] rfl (by first | exact True.intro | (simp (decide := true) only [am_p]; omega)) ?_)
    | (refine la_sld oy_la_4 rfl hL (by omega) (by assumption) ?_)
    | (refine la_lshl oy_la_4 rfl ?_)
    | (refine la_land oy_la_4 rfl ?_)
    | (refine la_lor oy_la_4 rfl ?_))
  refine la_cV (y' := Y_mo_bits) oy_la_4 rfl lk_la_35 ok_mo_bits rfl rfl rfl hq ?_
  rintro r2 I2 ⟨rfl, hr⟩
  refine la_eqi oy_la_4 rfl ?_
  exact kk I2 hr
theorem la_c5 {L : Nat} {xs : Nat → Int32} {n : Nat} {I : am_I} {i : Int} (h0 : es_rel n I) (hn : n ≤ 800) (hL : L ≤ 2560) (hi : 0 ≤ i ∧ i + 5 ≤ (L : Int)) (kk : ∀ I2, es_rel (n + 1) I2 → la_V L xs 893 [(0, .inr (.inr 65)), (1, .inr (.inr 0)), (2, .inr (.inr 44)), (3, .inl i)] [] I2) : la_V L xs 303 [(0, .inr (.inr 65)), (1, .inr (.inr 0)), (2, .inr (.inr 44)), (3, .inl i)] [] I := by
  obtain ⟨x1, hx1, rx1⟩ := la_x xs (i + 1).toNat
  obtain ⟨x2, hx2, rx2⟩ := la_x xs (i + 2).toNat
  repeat' (first
    | (refine la_gp oy_la_5 40 [893] rfl (by first | exact True.intro | (simp (decide := true) only [am_p]; omega)) ?_)
    | (refine la_sld oy_la_5 rfl hL (by omega) (by assumption) ?_)
    | (refine la_lshl oy_la_5 rfl ?_)
    | (refine la_land oy_la_5 rfl ?_)
    | (refine la_lor oy_la_5 rfl ?_))
  refine la_cV (y' := Y_es_bound) oy_la_5 rfl lk_la_36 ok_es_bound rfl rfl rfl (q_bound n x1 x2 I rx1 rx2 h0) ?_
  rintro r1 I1 ⟨x, rfl, hq⟩
  repeat' (first
    | (refine la_gp oy_la_5 40 [893] rfl (by first | exact True.intro | (simp (decide := true) only [am_p]; omega)) ?_)
    | (refine la_sld oy_la_5 rfl hL (by omega) (by assumption) ?_)
    | (refine la_lshl oy_la_5 rfl ?_)
    | (refine la_land oy_la_5 rfl ?_)
    | (refine la_lor oy_la_5 rfl ?_))
  refine la_cV (y' := Y_mo_bound) oy_la_5 rfl lk_la_39 ok_mo_bound rfl rfl rfl hq ?_
  rintro r2 I2 ⟨rfl, hr⟩
  refine la_eqi oy_la_5 rfl ?_
  exact kk I2 hr
theorem la_c6 {L : Nat} {xs : Nat → Int32} {n : Nat} {I : am_I} {i : Int} (h0 : es_rel n I) (hn : n ≤ 800) (hL : L ≤ 2560) (hi : 0 ≤ i ∧ i + 5 ≤ (L : Int)) (kk : ∀ I2, es_rel (n + 1) I2 → la_V L xs 893 [(0, .inr (.inr 65)), (1, .inr (.inr 0)), (2, .inr (.inr 44)), (3, .inl i)] [] I2) : la_V L xs 336 [(0, .inr (.inr 65)), (1, .inr (.inr 0)), (2, .inr (.inr 44)), (3, .inl i)] [] I := by
  repeat' (first
    | (refine la_gp oy_la_6 40 [893] rfl (by first | exact True.intro | (simp (decide := true) only [am_p]; omega)) ?_)
    | (refine la_sld oy_la_6 rfl hL (by omega) (by assumption) ?_)
    | (refine la_lshl oy_la_6 rfl ?_)
    | (refine la_land oy_la_6 rfl ?_)
    | (refine la_lor oy_la_6 rfl ?_))
  refine la_cV (y' := Y_es_melodies) oy_la_6 rfl lk_la_40 ok_es_melodies rfl rfl rfl (q_melodies n I h0) ?_
  rintro r1 I1 ⟨x, rfl, hq⟩
  repeat' (first
    | (refine la_gp oy_la_6 40 [893] rfl (by first | exact True.intro | (simp (decide := true) only [am_p]; omega)) ?_)
    | (refine la_sld oy_la_6 rfl hL (by omega) (by assumption) ?_)
    | (refine la_lshl oy_la_6 rfl ?_)
    | (refine la_land oy_la_6 rfl ?_)
    | (refine la_lor oy_la_6 rfl ?_))
  refine la_cV (y' := Y_mo_melodies) oy_la_6 rfl lk_la_44 ok_mo_melodies rfl rfl rfl hq ?_
  rintro r2 I2 ⟨rfl, hr⟩
  refine la_eql oy_la_6 rfl rfl ?_
  exact kk I2 hr
theorem la_c7 {L : Nat} {xs : Nat → Int32} {n : Nat} {I : am_I} {i : Int} (h0 : es_rel n I) (hn : n ≤ 800) (hL : L ≤ 2560) (hi : 0 ≤ i ∧ i + 5 ≤ (L : Int)) (kk : ∀ I2, es_rel (n + 1) I2 → la_V L xs 893 [(0, .inr (.inr 65)), (1, .inr (.inr 0)), (2, .inr (.inr 44)), (3, .inl i)] [] I2) : la_V L xs 350 [(0, .inr (.inr 65)), (1, .inr (.inr 0)), (2, .inr (.inr 44)), (3, .inl i)] [] I := by
  obtain ⟨x1, hx1, rx1⟩ := la_x xs (i + 1).toNat
  obtain ⟨x2, hx2, rx2⟩ := la_x xs (i + 2).toNat
  repeat' (first
    | (refine la_gp oy_la_7 40 [893] rfl (by first | exact True.intro | (simp (decide := true) only [am_p]; omega)) ?_)
    | (refine la_sld oy_la_7 rfl hL (by omega) (by assumption) ?_)
    | (refine la_lshl oy_la_7 rfl ?_)
    | (refine la_land oy_la_7 rfl ?_)
    | (refine la_lor oy_la_7 rfl ?_))
  refine la_cV (y' := Y_es_melody) oy_la_7 rfl lk_la_47 ok_es_melody rfl rfl rfl (q_melody n _ I (la_lr _ _) h0) ?_
  rintro r1 I1 ⟨x, rfl, hq⟩
  repeat' (first
    | (refine la_gp oy_la_7 40 [893] rfl (by first | exact True.intro | (simp (decide := true) only [am_p]; omega)) ?_)
    | (refine la_sld oy_la_7 rfl hL (by omega) (by assumption) ?_)
    | (refine la_lshl oy_la_7 rfl ?_)
    | (refine la_land oy_la_7 rfl ?_)
    | (refine la_lor oy_la_7 rfl ?_))
  refine la_cV (y' := Y_mo_melody) oy_la_7 rfl lk_la_51 ok_mo_melody rfl rfl rfl hq ?_
  rintro r2 I2 ⟨rfl, hr⟩
  refine la_eqi oy_la_7 rfl ?_
  exact kk I2 hr
theorem la_c8 {L : Nat} {xs : Nat → Int32} {n : Nat} {I : am_I} {i : Int} (h0 : es_rel n I) (hn : n ≤ 800) (hL : L ≤ 2560) (hi : 0 ≤ i ∧ i + 5 ≤ (L : Int)) (kk : ∀ I2, es_rel (n + 1) I2 → la_V L xs 893 [(0, .inr (.inr 65)), (1, .inr (.inr 0)), (2, .inr (.inr 44)), (3, .inl i)] [] I2) : la_V L xs 403 [(0, .inr (.inr 65)), (1, .inr (.inr 0)), (2, .inr (.inr 44)), (3, .inl i)] [] I := by
  repeat' (first
    | (refine la_gp oy_la_8 40 [893] rfl (by first | exact True.intro | (simp (decide := true) only [am_p]; omega)) ?_)
    | (refine la_sld oy_la_8 rfl hL (by omega) (by assumption) ?_)
    | (refine la_lshl oy_la_8 rfl ?_)
    | (refine la_land oy_la_8 rfl ?_)
    | (refine la_lor oy_la_8 rfl ?_))
  refine la_cV (y' := Y_es_place) oy_la_8 rfl lk_la_52 ok_es_place rfl rfl rfl (q_place n I h0) ?_
  rintro r1 I1 ⟨x, rfl, hq⟩
  repeat' (first
    | (refine la_gp oy_la_8 40 [893] rfl (by first | exact True.intro | (simp (decide := true) only [am_p]; omega)) ?_)
    | (refine la_sld oy_la_8 rfl hL (by omega) (by assumption) ?_)
    | (refine la_lshl oy_la_8 rfl ?_)
    | (refine la_land oy_la_8 rfl ?_)
    | (refine la_lor oy_la_8 rfl ?_))
  refine la_cV (y' := Y_mo_place) oy_la_8 rfl lk_la_55 ok_mo_place rfl rfl rfl hq ?_
  rintro r2 I2 ⟨rfl, hr⟩
  refine la_eql oy_la_8 rfl rfl ?_
  exact kk I2 hr
theorem la_c9 {L : Nat} {xs : Nat → Int32} {n : Nat} {I : am_I} {i : Int} (h0 : es_rel n I) (hn : n ≤ 800) (hL : L ≤ 2560) (hi : 0 ≤ i ∧ i + 5 ≤ (L : Int)) (kk : ∀ I2, es_rel (n + 1) I2 → la_V L xs 893 [(0, .inr (.inr 65)), (1, .inr (.inr 0)), (2, .inr (.inr 44)), (3, .inl i)] [] I2) : la_V L xs 417 [(0, .inr (.inr 65)), (1, .inr (.inr 0)), (2, .inr (.inr 44)), (3, .inl i)] [] I := by
  obtain ⟨x1, hx1, rx1⟩ := la_x xs (i + 1).toNat
  obtain ⟨x2, hx2, rx2⟩ := la_x xs (i + 2).toNat
  repeat' (first
    | (refine la_gp oy_la_9 40 [893] rfl (by first | exact True.intro | (simp (decide := true) only [am_p]; omega)) ?_)
    | (refine la_sld oy_la_9 rfl hL (by omega) (by assumption) ?_)
    | (refine la_lshl oy_la_9 rfl ?_)
    | (refine la_land oy_la_9 rfl ?_)
    | (refine la_lor oy_la_9 rfl ?_))
  refine la_cV (y' := Y_es_bars) oy_la_9 rfl lk_la_56 ok_es_bars rfl rfl rfl (q_bars n x1 x2 I rx1 rx2 h0) ?_
  rintro r1 I1 ⟨x, rfl, hq⟩
  repeat' (first
    | (refine la_gp oy_la_9 40 [893] rfl (by first | exact True.intro | (simp (decide := true) only [am_p]; omega)) ?_)
    | (refine la_sld oy_la_9 rfl hL (by omega) (by assumption) ?_)
    | (refine la_lshl oy_la_9 rfl ?_)
    | (refine la_land oy_la_9 rfl ?_)
    | (refine la_lor oy_la_9 rfl ?_))
  refine la_cV (y' := Y_mo_bars) oy_la_9 rfl lk_la_59 ok_mo_bars rfl rfl rfl hq ?_
  rintro r2 I2 ⟨rfl, hr⟩
  refine la_eqi oy_la_9 rfl ?_
  exact kk I2 hr
theorem la_c10 {L : Nat} {xs : Nat → Int32} {n : Nat} {I : am_I} {i : Int} (h0 : es_rel n I) (hn : n ≤ 800) (hL : L ≤ 2560) (hi : 0 ≤ i ∧ i + 5 ≤ (L : Int)) (kk : ∀ I2, es_rel (n + 1) I2 → la_V L xs 893 [(0, .inr (.inr 65)), (1, .inr (.inr 0)), (2, .inr (.inr 44)), (3, .inl i)] [] I2) : la_V L xs 450 [(0, .inr (.inr 65)), (1, .inr (.inr 0)), (2, .inr (.inr 44)), (3, .inl i)] [] I := by
  obtain ⟨x1, hx1, rx1⟩ := la_x xs (i + 1).toNat
  obtain ⟨x2, hx2, rx2⟩ := la_x xs (i + 2).toNat
  by_cases g : x2 = 0
  · repeat' (first
      | (refine la_gp oy_la_10 40 [893] rfl (by first | exact True.intro | (simp (decide := true) only [am_p]; omega)) ?_)
      | (refine la_sld oy_la_10 rfl hL (by omega) (by assumption) ?_)
      | (refine la_lshl oy_la_10 rfl ?_)
      | (refine la_land oy_la_10 rfl ?_)
      | (refine la_lor oy_la_10 rfl ?_)
      | (refine la_bt oy_la_10 rfl (by omega) (by omega) ?_))
    refine la_cV (y' := Y_es_some) oy_la_10 rfl lk_la_60 ok_es_some rfl rfl rfl (q_some n x1 0 I rx1 (Or.inl rfl) h0) ?_
    rintro r1 I1 ⟨x, rfl, hq⟩
    repeat' (first
      | (refine la_gp oy_la_10 40 [893] rfl (by first | exact True.intro | (simp (decide := true) only [am_p]; omega)) ?_)
      | (refine la_sld oy_la_10 rfl hL (by omega) (by assumption) ?_)
      | (refine la_lshl oy_la_10 rfl ?_)
      | (refine la_land oy_la_10 rfl ?_)
      | (refine la_lor oy_la_10 rfl ?_)
      | (refine la_bt oy_la_10 rfl (by omega) (by omega) ?_))
    refine la_cV (y' := Y_mo_some) oy_la_10 rfl lk_la_64 ok_mo_some rfl rfl rfl hq ?_
    rintro r2 I2 ⟨rfl, hr⟩
    refine la_eqi oy_la_10 rfl ?_
    exact kk I2 hr
  · repeat' (first
      | (refine la_gp oy_la_10 40 [893] rfl (by first | exact True.intro | (simp (decide := true) only [am_p]; omega)) ?_)
      | (refine la_sld oy_la_10 rfl hL (by omega) (by assumption) ?_)
      | (refine la_lshl oy_la_10 rfl ?_)
      | (refine la_land oy_la_10 rfl ?_)
      | (refine la_lor oy_la_10 rfl ?_)
      | (refine la_bf oy_la_10 rfl (by omega) (by omega) ?_))
    refine la_cV (y' := Y_es_some) oy_la_10 rfl lk_la_60 ok_es_some rfl rfl rfl (q_some n x1 1 I rx1 (Or.inr rfl) h0) ?_
    rintro r1 I1 ⟨x, rfl, hq⟩
    repeat' (first
      | (refine la_gp oy_la_10 40 [893] rfl (by first | exact True.intro | (simp (decide := true) only [am_p]; omega)) ?_)
      | (refine la_sld oy_la_10 rfl hL (by omega) (by assumption) ?_)
      | (refine la_lshl oy_la_10 rfl ?_)
      | (refine la_land oy_la_10 rfl ?_)
      | (refine la_lor oy_la_10 rfl ?_)
      | (refine la_bf oy_la_10 rfl (by omega) (by omega) ?_))
    refine la_cV (y' := Y_mo_some) oy_la_10 rfl lk_la_64 ok_mo_some rfl rfl rfl hq ?_
    rintro r2 I2 ⟨rfl, hr⟩
    refine la_eqi oy_la_10 rfl ?_
    exact kk I2 hr
theorem la_c11 {L : Nat} {xs : Nat → Int32} {n : Nat} {I : am_I} {i : Int} (h0 : es_rel n I) (hn : n ≤ 800) (hL : L ≤ 2560) (hi : 0 ≤ i ∧ i + 5 ≤ (L : Int)) (kk : ∀ I2, es_rel (n + 1) I2 → la_V L xs 893 [(0, .inr (.inr 65)), (1, .inr (.inr 0)), (2, .inr (.inr 44)), (3, .inl i)] [] I2) : la_V L xs 499 [(0, .inr (.inr 65)), (1, .inr (.inr 0)), (2, .inr (.inr 44)), (3, .inl i)] [] I := by
  repeat' (first
    | (refine la_gp oy_la_11 40 [893] rfl (by first | exact True.intro | (simp (decide := true) only [am_p]; omega)) ?_)
    | (refine la_sld oy_la_11 rfl hL (by omega) (by assumption) ?_)
    | (refine la_lshl oy_la_11 rfl ?_)
    | (refine la_land oy_la_11 rfl ?_)
    | (refine la_lor oy_la_11 rfl ?_))
  refine la_cV (y' := Y_es_rhythms) oy_la_11 rfl lk_la_65 ok_es_rhythms rfl rfl rfl (q_rhythms n I h0) ?_
  rintro r1 I1 ⟨x, rfl, hq⟩
  repeat' (first
    | (refine la_gp oy_la_11 40 [893] rfl (by first | exact True.intro | (simp (decide := true) only [am_p]; omega)) ?_)
    | (refine la_sld oy_la_11 rfl hL (by omega) (by assumption) ?_)
    | (refine la_lshl oy_la_11 rfl ?_)
    | (refine la_land oy_la_11 rfl ?_)
    | (refine la_lor oy_la_11 rfl ?_))
  refine la_cV (y' := Y_mo_rhythms) oy_la_11 rfl lk_la_68 ok_mo_rhythms rfl rfl rfl hq ?_
  rintro r2 I2 ⟨rfl, hr⟩
  refine la_eql oy_la_11 rfl rfl ?_
  exact kk I2 hr
theorem la_c12 {L : Nat} {xs : Nat → Int32} {n : Nat} {I : am_I} {i : Int} (h0 : es_rel n I) (hn : n ≤ 800) (hL : L ≤ 2560) (hi : 0 ≤ i ∧ i + 5 ≤ (L : Int)) (kk : ∀ I2, es_rel (n + 1) I2 → la_V L xs 893 [(0, .inr (.inr 65)), (1, .inr (.inr 0)), (2, .inr (.inr 44)), (3, .inl i)] [] I2) : la_V L xs 513 [(0, .inr (.inr 65)), (1, .inr (.inr 0)), (2, .inr (.inr 44)), (3, .inl i)] [] I := by
  obtain ⟨x1, hx1, rx1⟩ := la_x xs (i + 1).toNat
  obtain ⟨x2, hx2, rx2⟩ := la_x xs (i + 2).toNat
  repeat' (first
    | (refine la_gp oy_la_12 40 [893] rfl (by first | exact True.intro | (simp (decide := true) only [am_p]; omega)) ?_)
    | (refine la_sld oy_la_12 rfl hL (by omega) (by assumption) ?_)
    | (refine la_lshl oy_la_12 rfl ?_)
    | (refine la_land oy_la_12 rfl ?_)
    | (refine la_lor oy_la_12 rfl ?_))
  refine la_cV (y' := Y_es_rhythm) oy_la_12 rfl lk_la_69 ok_es_rhythm rfl rfl rfl (q_rhythm n _ I (la_lr _ _) h0) ?_
  rintro r1 I1 ⟨x, rfl, hq⟩
  repeat' (first
    | (refine la_gp oy_la_12 40 [893] rfl (by first | exact True.intro | (simp (decide := true) only [am_p]; omega)) ?_)
    | (refine la_sld oy_la_12 rfl hL (by omega) (by assumption) ?_)
    | (refine la_lshl oy_la_12 rfl ?_)
    | (refine la_land oy_la_12 rfl ?_)
    | (refine la_lor oy_la_12 rfl ?_))
  refine la_cV (y' := Y_mo_rhythm) oy_la_12 rfl lk_la_72 ok_mo_rhythm rfl rfl rfl hq ?_
  rintro r2 I2 ⟨rfl, hr⟩
  refine la_eqi oy_la_12 rfl ?_
  exact kk I2 hr
theorem la_c13 {L : Nat} {xs : Nat → Int32} {n : Nat} {I : am_I} {i : Int} (h0 : es_rel n I) (hn : n ≤ 800) (hL : L ≤ 2560) (hi : 0 ≤ i ∧ i + 5 ≤ (L : Int)) (kk : ∀ I2, es_rel (n + 1) I2 → la_V L xs 893 [(0, .inr (.inr 65)), (1, .inr (.inr 0)), (2, .inr (.inr 44)), (3, .inl i)] [] I2) : la_V L xs 566 [(0, .inr (.inr 65)), (1, .inr (.inr 0)), (2, .inr (.inr 44)), (3, .inl i)] [] I := by
  obtain ⟨x1, hx1, rx1⟩ := la_x xs (i + 1).toNat
  repeat' (first
    | (refine la_gp oy_la_13 40 [893] rfl (by first | exact True.intro | (simp (decide := true) only [am_p]; omega)) ?_)
    | (refine la_sld oy_la_13 rfl hL (by omega) (by assumption) ?_)
    | (refine la_lshl oy_la_13 rfl ?_)
    | (refine la_land oy_la_13 rfl ?_)
    | (refine la_lor oy_la_13 rfl ?_))
  refine la_cV (y' := Y_es_mask) oy_la_13 rfl lk_la_73 ok_es_mask rfl rfl rfl (q_mask n x1 I rx1 h0) ?_
  rintro r1 I1 ⟨x, rfl, hq⟩
  repeat' (first
    | (refine la_gp oy_la_13 40 [893] rfl (by first | exact True.intro | (simp (decide := true) only [am_p]; omega)) ?_)
    | (refine la_sld oy_la_13 rfl hL (by omega) (by assumption) ?_)
    | (refine la_lshl oy_la_13 rfl ?_)
    | (refine la_land oy_la_13 rfl ?_)
    | (refine la_lor oy_la_13 rfl ?_))
  refine la_cV (y' := Y_mo_mask) oy_la_13 rfl lk_la_77 ok_mo_mask rfl rfl rfl hq ?_
  rintro r2 I2 ⟨rfl, hr⟩
  refine la_eqi oy_la_13 rfl ?_
  exact kk I2 hr
theorem la_c14 {L : Nat} {xs : Nat → Int32} {n : Nat} {I : am_I} {i : Int} (h0 : es_rel n I) (hn : n ≤ 800) (hL : L ≤ 2560) (hi : 0 ≤ i ∧ i + 5 ≤ (L : Int)) (kk : ∀ I2, es_rel (n + 1) I2 → la_V L xs 893 [(0, .inr (.inr 65)), (1, .inr (.inr 0)), (2, .inr (.inr 44)), (3, .inl i)] [] I2) : la_V L xs 589 [(0, .inr (.inr 65)), (1, .inr (.inr 0)), (2, .inr (.inr 44)), (3, .inl i)] [] I := by
  repeat' (first
    | (refine la_gp oy_la_14 40 [893] rfl (by first | exact True.intro | (simp (decide := true) only [am_p]; omega)) ?_)
    | (refine la_sld oy_la_14 rfl hL (by omega) (by assumption) ?_)
    | (refine la_lshl oy_la_14 rfl ?_)
    | (refine la_land oy_la_14 rfl ?_)
    | (refine la_lor oy_la_14 rfl ?_))
  refine la_cV (y' := Y_es_clear) oy_la_14 rfl lk_la_78 ok_es_clear rfl rfl rfl (q_clear n I h0) ?_
  rintro r1 I1 ⟨x, rfl, hq⟩
  repeat' (first
    | (refine la_gp oy_la_14 40 [893] rfl (by first | exact True.intro | (simp (decide := true) only [am_p]; omega)) ?_)
    | (refine la_sld oy_la_14 rfl hL (by omega) (by assumption) ?_)
    | (refine la_lshl oy_la_14 rfl ?_)
    | (refine la_land oy_la_14 rfl ?_)
    | (refine la_lor oy_la_14 rfl ?_))
  refine la_cV (y' := Y_mo_clear) oy_la_14 rfl lk_la_81 ok_mo_clear rfl rfl rfl hq ?_
  rintro r2 I2 ⟨rfl, hr⟩
  refine la_eqi oy_la_14 rfl ?_
  exact kk I2 hr
theorem la_c15 {L : Nat} {xs : Nat → Int32} {n : Nat} {I : am_I} {i : Int} (h0 : es_rel n I) (hn : n ≤ 800) (hL : L ≤ 2560) (hi : 0 ≤ i ∧ i + 5 ≤ (L : Int)) (kk : ∀ I2, es_rel (n + 1) I2 → la_V L xs 893 [(0, .inr (.inr 65)), (1, .inr (.inr 0)), (2, .inr (.inr 44)), (3, .inl i)] [] I2) : la_V L xs 602 [(0, .inr (.inr 65)), (1, .inr (.inr 0)), (2, .inr (.inr 44)), (3, .inl i)] [] I := by
  obtain ⟨x1, hx1, rx1⟩ := la_x xs (i + 1).toNat
  obtain ⟨x2, hx2, rx2⟩ := la_x xs (i + 2).toNat
  repeat' (first
    | (refine la_gp oy_la_15 40 [893] rfl (by first | exact True.intro | (simp (decide := true) only [am_p]; omega)) ?_)
    | (refine la_sld oy_la_15 rfl hL (by omega) (by assumption) ?_)
    | (refine la_lshl oy_la_15 rfl ?_)
    | (refine la_land oy_la_15 rfl ?_)
    | (refine la_lor oy_la_15 rfl ?_))
  refine la_cV (y' := Y_es_voice) oy_la_15 rfl lk_la_82 ok_es_voice rfl rfl rfl (q_voice n x1 x2 I rx1 rx2 h0) ?_
  rintro r1 I1 ⟨x, rfl, hq⟩
  repeat' (first
    | (refine la_gp oy_la_15 40 [893] rfl (by first | exact True.intro | (simp (decide := true) only [am_p]; omega)) ?_)
    | (refine la_sld oy_la_15 rfl hL (by omega) (by assumption) ?_)
    | (refine la_lshl oy_la_15 rfl ?_)
    | (refine la_land oy_la_15 rfl ?_)
    | (refine la_lor oy_la_15 rfl ?_))
  refine la_cV (y' := Y_mo_voice) oy_la_15 rfl lk_la_85 ok_mo_voice rfl rfl rfl hq ?_
  rintro r2 I2 ⟨rfl, hr⟩
  refine la_eqi oy_la_15 rfl ?_
  exact kk I2 hr
theorem la_c16 {L : Nat} {xs : Nat → Int32} {n : Nat} {I : am_I} {i : Int} (h0 : es_rel n I) (hn : n ≤ 800) (hL : L ≤ 2560) (hi : 0 ≤ i ∧ i + 5 ≤ (L : Int)) (kk : ∀ I2, es_rel (n + 1) I2 → la_V L xs 893 [(0, .inr (.inr 65)), (1, .inr (.inr 0)), (2, .inr (.inr 44)), (3, .inl i)] [] I2) : la_V L xs 635 [(0, .inr (.inr 65)), (1, .inr (.inr 0)), (2, .inr (.inr 44)), (3, .inl i)] [] I := by
  repeat' (first
    | (refine la_gp oy_la_16 40 [893] rfl (by first | exact True.intro | (simp (decide := true) only [am_p]; omega)) ?_)
    | (refine la_sld oy_la_16 rfl hL (by omega) (by assumption) ?_)
    | (refine la_lshl oy_la_16 rfl ?_)
    | (refine la_land oy_la_16 rfl ?_)
    | (refine la_lor oy_la_16 rfl ?_))
  refine la_cV (y' := Y_es_chords) oy_la_16 rfl lk_la_86 ok_es_chords rfl rfl rfl (q_chords n I h0) ?_
  rintro r1 I1 ⟨x, rfl, hq⟩
  repeat' (first
    | (refine la_gp oy_la_16 40 [893] rfl (by first | exact True.intro | (simp (decide := true) only [am_p]; omega)) ?_)
    | (refine la_sld oy_la_16 rfl hL (by omega) (by assumption) ?_)
    | (refine la_lshl oy_la_16 rfl ?_)
    | (refine la_land oy_la_16 rfl ?_)
    | (refine la_lor oy_la_16 rfl ?_))
  refine la_cV (y' := Y_mo_chords) oy_la_16 rfl lk_la_89 ok_mo_chords rfl rfl rfl hq ?_
  rintro r2 I2 ⟨rfl, hr⟩
  refine la_eql oy_la_16 rfl rfl ?_
  exact kk I2 hr
theorem la_c17 {L : Nat} {xs : Nat → Int32} {n : Nat} {I : am_I} {i : Int} (h0 : es_rel n I) (hn : n ≤ 800) (hL : L ≤ 2560) (hi : 0 ≤ i ∧ i + 5 ≤ (L : Int)) (kk : ∀ I2, es_rel (n + 1) I2 → la_V L xs 893 [(0, .inr (.inr 65)), (1, .inr (.inr 0)), (2, .inr (.inr 44)), (3, .inl i)] [] I2) : la_V L xs 649 [(0, .inr (.inr 65)), (1, .inr (.inr 0)), (2, .inr (.inr 44)), (3, .inl i)] [] I := by
  obtain ⟨x1, hx1, rx1⟩ := la_x xs (i + 1).toNat
  obtain ⟨x2, hx2, rx2⟩ := la_x xs (i + 2).toNat
  obtain ⟨x3, hx3, rx3⟩ := la_x xs (i + 3).toNat
  obtain ⟨x4, hx4, rx4⟩ := la_x xs (i + 4).toNat
  repeat' (first
    | (refine la_gp oy_la_17 40 [893] rfl (by first | exact True.intro | (simp (decide := true) only [am_p]; omega)) ?_)
    | (refine la_sld oy_la_17 rfl hL (by omega) (by assumption) ?_)
    | (refine la_lshl oy_la_17 rfl ?_)
    | (refine la_land oy_la_17 rfl ?_)
    | (refine la_lor oy_la_17 rfl ?_))
  refine la_cV (y' := Y_es_chord) oy_la_17 rfl lk_la_90 ok_es_chord rfl rfl rfl (q_chord n _ x3 x4 I (la_lr _ _) rx3 rx4 h0) ?_
  rintro r1 I1 ⟨x, rfl, hq⟩
  repeat' (first
    | (refine la_gp oy_la_17 40 [893] rfl (by first | exact True.intro | (simp (decide := true) only [am_p]; omega)) ?_)
    | (refine la_sld oy_la_17 rfl hL (by omega) (by assumption) ?_)
    | (refine la_lshl oy_la_17 rfl ?_)
    | (refine la_land oy_la_17 rfl ?_)
    | (refine la_lor oy_la_17 rfl ?_))
  refine la_cV (y' := Y_mo_chord) oy_la_17 rfl lk_la_94 ok_mo_chord rfl rfl rfl hq ?_
  rintro r2 I2 ⟨rfl, hr⟩
  refine la_eqi oy_la_17 rfl ?_
  exact kk I2 hr
theorem la_c18 {L : Nat} {xs : Nat → Int32} {n : Nat} {I : am_I} {i : Int} (h0 : es_rel n I) (hn : n ≤ 800) (hL : L ≤ 2560) (hi : 0 ≤ i ∧ i + 5 ≤ (L : Int)) (kk : ∀ I2, es_rel (n + 1) I2 → la_V L xs 893 [(0, .inr (.inr 65)), (1, .inr (.inr 0)), (2, .inr (.inr 44)), (3, .inl i)] [] I2) : la_V L xs 722 [(0, .inr (.inr 65)), (1, .inr (.inr 0)), (2, .inr (.inr 44)), (3, .inl i)] [] I := by
  repeat' (first
    | (refine la_gp oy_la_18 40 [893] rfl (by first | exact True.intro | (simp (decide := true) only [am_p]; omega)) ?_)
    | (refine la_sld oy_la_18 rfl hL (by omega) (by assumption) ?_)
    | (refine la_lshl oy_la_18 rfl ?_)
    | (refine la_land oy_la_18 rfl ?_)
    | (refine la_lor oy_la_18 rfl ?_))
  refine la_cV (y' := Y_es_meant) oy_la_18 rfl lk_la_95 ok_es_meant rfl rfl rfl (q_meant n I h0) ?_
  rintro r1 I1 ⟨x, rfl, hq⟩
  repeat' (first
    | (refine la_gp oy_la_18 40 [893] rfl (by first | exact True.intro | (simp (decide := true) only [am_p]; omega)) ?_)
    | (refine la_sld oy_la_18 rfl hL (by omega) (by assumption) ?_)
    | (refine la_lshl oy_la_18 rfl ?_)
    | (refine la_land oy_la_18 rfl ?_)
    | (refine la_lor oy_la_18 rfl ?_))
  refine la_cV (y' := Y_mo_meant) oy_la_18 rfl lk_la_98 ok_mo_meant rfl rfl rfl hq ?_
  rintro r2 I2 ⟨rfl, hr⟩
  refine la_eqi oy_la_18 rfl ?_
  exact kk I2 hr
theorem la_c19 {L : Nat} {xs : Nat → Int32} {n : Nat} {I : am_I} {i : Int} (h0 : es_rel n I) (hn : n ≤ 800) (hL : L ≤ 2560) (hi : 0 ≤ i ∧ i + 5 ≤ (L : Int)) (kk : ∀ I2, es_rel (n + 1) I2 → la_V L xs 893 [(0, .inr (.inr 65)), (1, .inr (.inr 0)), (2, .inr (.inr 44)), (3, .inl i)] [] I2) : la_V L xs 735 [(0, .inr (.inr 65)), (1, .inr (.inr 0)), (2, .inr (.inr 44)), (3, .inl i)] [] I := by
  repeat' (first
    | (refine la_gp oy_la_19 40 [893] rfl (by first | exact True.intro | (simp (decide := true) only [am_p]; omega)) ?_)
    | (refine la_sld oy_la_19 rfl hL (by omega) (by assumption) ?_)
    | (refine la_lshl oy_la_19 rfl ?_)
    | (refine la_land oy_la_19 rfl ?_)
    | (refine la_lor oy_la_19 rfl ?_))
  refine la_cV (y' := Y_es_judge) oy_la_19 rfl lk_la_99 ok_es_judge rfl rfl rfl (q_judge n I h0) ?_
  rintro r1 I1 ⟨x, rfl, hq⟩
  repeat' (first
    | (refine la_gp oy_la_19 40 [893] rfl (by first | exact True.intro | (simp (decide := true) only [am_p]; omega)) ?_)
    | (refine la_sld oy_la_19 rfl hL (by omega) (by assumption) ?_)
    | (refine la_lshl oy_la_19 rfl ?_)
    | (refine la_land oy_la_19 rfl ?_)
    | (refine la_lor oy_la_19 rfl ?_))
  refine la_cV (y' := Y_mo_judge) oy_la_19 rfl lk_la_102 ok_mo_judge rfl rfl rfl hq ?_
  rintro r2 I2 ⟨rfl, hr⟩
  refine la_eqi oy_la_19 rfl ?_
  exact kk I2 hr
theorem la_c20 {L : Nat} {xs : Nat → Int32} {n : Nat} {I : am_I} {i : Int} (h0 : es_rel n I) (hn : n ≤ 800) (hL : L ≤ 2560) (hi : 0 ≤ i ∧ i + 5 ≤ (L : Int)) (kk : ∀ I2, es_rel (n + 1) I2 → la_V L xs 893 [(0, .inr (.inr 65)), (1, .inr (.inr 0)), (2, .inr (.inr 44)), (3, .inl i)] [] I2) : la_V L xs 748 [(0, .inr (.inr 65)), (1, .inr (.inr 0)), (2, .inr (.inr 44)), (3, .inl i)] [] I := by
  obtain ⟨x1, hx1, rx1⟩ := la_x xs (i + 1).toNat
  obtain ⟨x2, hx2, rx2⟩ := la_x xs (i + 2).toNat
  repeat' (first
    | (refine la_gp oy_la_20 40 [893] rfl (by first | exact True.intro | (simp (decide := true) only [am_p]; omega)) ?_)
    | (refine la_sld oy_la_20 rfl hL (by omega) (by assumption) ?_)
    | (refine la_lshl oy_la_20 rfl ?_)
    | (refine la_land oy_la_20 rfl ?_)
    | (refine la_lor oy_la_20 rfl ?_))
  refine la_cV (y' := Y_es_act) oy_la_20 rfl lk_la_103 ok_es_act rfl rfl rfl (q_act n x1 x2 I rx1 rx2 h0) ?_
  rintro r1 I1 ⟨x, rfl, hq⟩
  repeat' (first
    | (refine la_gp oy_la_20 40 [893] rfl (by first | exact True.intro | (simp (decide := true) only [am_p]; omega)) ?_)
    | (refine la_sld oy_la_20 rfl hL (by omega) (by assumption) ?_)
    | (refine la_lshl oy_la_20 rfl ?_)
    | (refine la_land oy_la_20 rfl ?_)
    | (refine la_lor oy_la_20 rfl ?_))
  refine la_cV (y' := Y_mo_act) oy_la_20 rfl lk_la_106 ok_mo_act rfl rfl rfl hq ?_
  rintro r2 I2 ⟨rfl, hr⟩
  refine la_eqi oy_la_20 rfl ?_
  exact kk I2 hr
theorem la_c21 {L : Nat} {xs : Nat → Int32} {n : Nat} {I : am_I} {i : Int} (h0 : es_rel n I) (hn : n ≤ 800) (hL : L ≤ 2560) (hi : 0 ≤ i ∧ i + 5 ≤ (L : Int)) (kk : ∀ I2, es_rel (n + 1) I2 → la_V L xs 893 [(0, .inr (.inr 65)), (1, .inr (.inr 0)), (2, .inr (.inr 44)), (3, .inl i)] [] I2) : la_V L xs 781 [(0, .inr (.inr 65)), (1, .inr (.inr 0)), (2, .inr (.inr 44)), (3, .inl i)] [] I := by
  obtain ⟨x1, hx1, rx1⟩ := la_x xs (i + 1).toNat
  repeat' (first
    | (refine la_gp oy_la_21 40 [893] rfl (by first | exact True.intro | (simp (decide := true) only [am_p]; omega)) ?_)
    | (refine la_sld oy_la_21 rfl hL (by omega) (by assumption) ?_)
    | (refine la_lshl oy_la_21 rfl ?_)
    | (refine la_land oy_la_21 rfl ?_)
    | (refine la_lor oy_la_21 rfl ?_))
  refine la_cV (y' := Y_es_learn) oy_la_21 rfl lk_la_107 ok_es_learn rfl rfl rfl (q_learn n x1 I rx1 h0) ?_
  rintro r1 I1 ⟨x, rfl, hq⟩
  repeat' (first
    | (refine la_gp oy_la_21 40 [893] rfl (by first | exact True.intro | (simp (decide := true) only [am_p]; omega)) ?_)
    | (refine la_sld oy_la_21 rfl hL (by omega) (by assumption) ?_)
    | (refine la_lshl oy_la_21 rfl ?_)
    | (refine la_land oy_la_21 rfl ?_)
    | (refine la_lor oy_la_21 rfl ?_))
  refine la_cV (y' := Y_mo_learn) oy_la_21 rfl lk_la_110 ok_mo_learn rfl rfl rfl hq ?_
  rintro r2 I2 ⟨rfl, hr⟩
  refine la_eqi oy_la_21 rfl ?_
  exact kk I2 hr
theorem la_c22 {L : Nat} {xs : Nat → Int32} {n : Nat} {I : am_I} {i : Int} (h0 : es_rel n I) (hn : n ≤ 800) (hL : L ≤ 2560) (hi : 0 ≤ i ∧ i + 5 ≤ (L : Int)) (kk : ∀ I2, es_rel (n + 1) I2 → la_V L xs 893 [(0, .inr (.inr 65)), (1, .inr (.inr 0)), (2, .inr (.inr 44)), (3, .inl i)] [] I2) : la_V L xs 804 [(0, .inr (.inr 65)), (1, .inr (.inr 0)), (2, .inr (.inr 44)), (3, .inl i)] [] I := by
  obtain ⟨x1, hx1, rx1⟩ := la_x xs (i + 1).toNat
  obtain ⟨x2, hx2, rx2⟩ := la_x xs (i + 2).toNat
  obtain ⟨x3, hx3, rx3⟩ := la_x xs (i + 3).toNat
  repeat' (first
    | (refine la_gp oy_la_22 40 [893] rfl (by first | exact True.intro | (simp (decide := true) only [am_p]; omega)) ?_)
    | (refine la_sld oy_la_22 rfl hL (by omega) (by assumption) ?_)
    | (refine la_lshl oy_la_22 rfl ?_)
    | (refine la_land oy_la_22 rfl ?_)
    | (refine la_lor oy_la_22 rfl ?_))
  refine la_cV (y' := Y_es_table) oy_la_22 rfl lk_la_111 ok_es_table rfl rfl rfl (q_table n x1 x2 x3 I hn rx1 rx2 rx3 h0) ?_
  rintro r1 I1 ⟨x, rfl, hq⟩
  repeat' (first
    | (refine la_gp oy_la_22 40 [893] rfl (by first | exact True.intro | (simp (decide := true) only [am_p]; omega)) ?_)
    | (refine la_sld oy_la_22 rfl hL (by omega) (by assumption) ?_)
    | (refine la_lshl oy_la_22 rfl ?_)
    | (refine la_land oy_la_22 rfl ?_)
    | (refine la_lor oy_la_22 rfl ?_))
  refine la_cV (y' := Y_mo_table) oy_la_22 rfl lk_la_114 ok_mo_table rfl rfl rfl hq ?_
  rintro r2 I2 ⟨rfl, hr⟩
  refine la_eqi oy_la_22 rfl ?_
  exact kk I2 hr
theorem la_c23 {L : Nat} {xs : Nat → Int32} {n : Nat} {I : am_I} {i : Int} (h0 : es_rel n I) (hn : n ≤ 800) (hL : L ≤ 2560) (hi : 0 ≤ i ∧ i + 5 ≤ (L : Int)) (kk : ∀ I2, es_rel (n + 1) I2 → la_V L xs 893 [(0, .inr (.inr 65)), (1, .inr (.inr 0)), (2, .inr (.inr 44)), (3, .inl i)] [] I2) : la_V L xs 847 [(0, .inr (.inr 65)), (1, .inr (.inr 0)), (2, .inr (.inr 44)), (3, .inl i)] [] I := by
  obtain ⟨x1, hx1, rx1⟩ := la_x xs (i + 1).toNat
  repeat' (first
    | (refine la_gp oy_la_23 40 [893] rfl (by first | exact True.intro | (simp (decide := true) only [am_p]; omega)) ?_)
    | (refine la_sld oy_la_23 rfl hL (by omega) (by assumption) ?_)
    | (refine la_lshl oy_la_23 rfl ?_)
    | (refine la_land oy_la_23 rfl ?_)
    | (refine la_lor oy_la_23 rfl ?_))
  refine la_cV (y' := Y_es_drill) oy_la_23 rfl lk_la_115 ok_es_drill rfl rfl rfl (q_drill n x1 I hn rx1 h0) ?_
  rintro r1 I1 ⟨x, rfl, hq⟩
  repeat' (first
    | (refine la_gp oy_la_23 40 [893] rfl (by first | exact True.intro | (simp (decide := true) only [am_p]; omega)) ?_)
    | (refine la_sld oy_la_23 rfl hL (by omega) (by assumption) ?_)
    | (refine la_lshl oy_la_23 rfl ?_)
    | (refine la_land oy_la_23 rfl ?_)
    | (refine la_lor oy_la_23 rfl ?_))
  refine la_cV (y' := Y_mo_drill) oy_la_23 rfl lk_la_118 ok_mo_drill rfl rfl rfl hq ?_
  rintro r2 I2 ⟨rfl, hr⟩
  refine la_eqi oy_la_23 rfl ?_
  exact kk I2 hr
theorem la_c24 {L : Nat} {xs : Nat → Int32} {n : Nat} {I : am_I} {i : Int} (h0 : es_rel n I) (hn : n ≤ 800) (hL : L ≤ 2560) (hi : 0 ≤ i ∧ i + 5 ≤ (L : Int)) (kk : ∀ I2, es_rel (n + 1) I2 → la_V L xs 893 [(0, .inr (.inr 65)), (1, .inr (.inr 0)), (2, .inr (.inr 44)), (3, .inl i)] [] I2) : la_V L xs 870 [(0, .inr (.inr 65)), (1, .inr (.inr 0)), (2, .inr (.inr 44)), (3, .inl i)] [] I := by
  obtain ⟨x1, hx1, rx1⟩ := la_x xs (i + 1).toNat
  repeat' (first
    | (refine la_gp oy_la_24 40 [893] rfl (by first | exact True.intro | (simp (decide := true) only [am_p]; omega)) ?_)
    | (refine la_sld oy_la_24 rfl hL (by omega) (by assumption) ?_)
    | (refine la_lshl oy_la_24 rfl ?_)
    | (refine la_land oy_la_24 rfl ?_)
    | (refine la_lor oy_la_24 rfl ?_))
  refine la_cV (y' := Y_es_count) oy_la_24 rfl lk_la_119 ok_es_count rfl rfl rfl (q_count n x1 I rx1 h0) ?_
  rintro r1 I1 ⟨x, rfl, hq⟩
  repeat' (first
    | (refine la_gp oy_la_24 40 [893] rfl (by first | exact True.intro | (simp (decide := true) only [am_p]; omega)) ?_)
    | (refine la_sld oy_la_24 rfl hL (by omega) (by assumption) ?_)
    | (refine la_lshl oy_la_24 rfl ?_)
    | (refine la_land oy_la_24 rfl ?_)
    | (refine la_lor oy_la_24 rfl ?_))
  refine la_cV (y' := Y_mo_count) oy_la_24 rfl lk_la_122 ok_mo_count rfl rfl rfl hq ?_
  rintro r2 I2 ⟨rfl, hr⟩
  refine la_eqi oy_la_24 rfl ?_
  exact kk I2 hr
