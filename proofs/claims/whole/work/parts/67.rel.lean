def es_m2 (a k : Nat) : List (Nat × Nat) → Bool
  | [] => false
  | q :: l => match Nat.beq q.1 a && Nat.beq q.2 k with
    | true => true
    | false => es_m2 a k l
def es_m1 (a : Nat) : List (Nat × Nat) → Bool
  | [] => false
  | q :: l => match Nat.beq q.1 a with
    | true => true
    | false => es_m1 a l
theorem es_m2_1 {a k : Nat} : ∀ {l : List (Nat × Nat)}, es_m1 a l = false → es_m2 a k l = false
  | [], _ => rfl
  | q :: l, h => by
    unfold es_m1 at h
    unfold es_m2
    cases h1 : Nat.beq q.1 a with
    | true => rw [h1] at h; cases h
    | false =>
      rw [h1] at h
      exact es_m2_1 (l := l) h
theorem es_m2_app {a k : Nat} : ∀ {l l' : List (Nat × Nat)}, es_m2 a k (l ++ l') = false → es_m2 a k l = false ∧ es_m2 a k l' = false
  | [], l', h => ⟨rfl, h⟩
  | q :: l, l', h => by
    rw [List.cons_append] at h
    unfold es_m2 at h
    rw [show es_m2 a k (q :: l) = (match Nat.beq q.1 a && Nat.beq q.2 k with
      | true => true
      | false => es_m2 a k l) from rfl]
    cases h1 : Nat.beq q.1 a && Nat.beq q.2 k with
    | true => rw [h1] at h; cases h
    | false =>
      rw [h1] at h
      exact es_m2_app (l := l) h
theorem am_mem_ap {a : Nat} : ∀ {l l' : List Nat}, am_mem a (l ++ l') = false → am_mem a l = false ∧ am_mem a l' = false
  | [], l', h => ⟨rfl, h⟩
  | q :: l, l', h => by
    rw [List.cons_append] at h
    unfold am_mem at h
    rw [show am_mem a (q :: l) = (match Nat.beq q a with
      | true => true
      | false => am_mem a l) from rfl]
    cases h1 : Nat.beq q a with
    | true => rw [h1] at h; cases h
    | false =>
      rw [h1] at h
      exact am_mem_ap (l := l) h
def es_fx (I I' : am_I) (C : List Nat) (F : List (Nat × Nat)) : Prop := ∀ a k : Nat, am_mem a C = false → es_m2 a k F = false → I' a k = I a k
theorem es_fx.rf {I : am_I} {C : List Nat} {F : List (Nat × Nat)} : es_fx I I C F := fun _ _ _ _ => rfl
theorem es_fx.fr {I I' : am_I} {C : List Nat} {F : List (Nat × Nat)} (h : am_fr I I' C) : es_fx I I' C F := fun a k h1 _ => by rw [h a h1]
theorem es_fx.u {I I' : am_I} {C : List Nat} {F : List (Nat × Nat)} (h : es_fx I I' C F) {k j : Nat} {x : Int} (hk : am_mem k C = true ∨ es_m2 k j F = true) : es_fx I (am_u I' k j x) C F := by
  intro a b h1 h2
  by_cases e : a = k
  · subst e
    rw [am_u_eq]
    by_cases e2 : b = j
    · subst e2
      rcases hk with z | z
      · rw [z] at h1; cases h1
      · rw [z] at h2; cases h2
    · rw [am_up_ne e2]
      exact h a b h1 h2
  · rw [am_u_ne e]
    exact h a b h1 h2
theorem es_fx.tr {I I1 I2 : am_I} {C C' : List Nat} {F F' : List (Nat × Nat)} (h : es_fx I I1 C F) (h' : es_fx I1 I2 C' F') : es_fx I I2 (C ++ C') (F ++ F') := by
  intro a k h1 h2
  obtain ⟨c1, c2⟩ := am_mem_ap h1
  obtain ⟨f1, f2⟩ := es_m2_app h2
  rw [h' a k c2 f2, h a k c1 f1]
theorem es_fx.cut {I I' : am_I} {a : Nat} {C : List Nat} {F : List (Nat × Nat)} (h : es_fx I I' (a :: C) F) (ha : ∀ k : Nat, es_m2 a k F = false → I' a k = I a k) : es_fx I I' C F := by
  intro b k h1 h2
  by_cases e : b = a
  · subst e
    exact ha k h2
  · refine h b k ?_ h2
    show (match Nat.beq a b with
      | true => true
      | false => am_mem b C) = false
    cases hc : Nat.beq a b with
    | true => exact absurd (Nat.eq_of_beq_eq_true hc).symm e
    | false => exact h1
theorem es_m2_ne {a k j : Nat} {F : List (Nat × Nat)} (h : es_m2 a k F = false) (hj : es_m2 a j F = true) : k ≠ j := fun e => by rw [e, hj] at h; cases h
theorem es_up1 {f : Nat → Int} {a j k : Nat} {x : Int} {F : List (Nat × Nat)} (h : es_m2 a k F = false) (hj : es_m2 a j F = true) : am_up f j x k = f k := am_up_ne (es_m2_ne h hj)
def es_ck (C : List Nat) (F : List (Nat × Nat)) (W : List Nat) (G : List (Nat × Nat)) : Bool := W.all (fun a => !(am_mem a C) && !(es_m1 a F)) && G.all (fun g => !(am_mem g.1 C) && !(es_m2 g.1 g.2 F))
theorem es_fx.W {I I' : am_I} {C : List Nat} {F : List (Nat × Nat)} {W : List Nat} {G : List (Nat × Nat)} (h : es_fx I I' C F) (hc : es_ck C F W G = true) : (∀ a ∈ W, I' a = I a) ∧ ∀ g ∈ G, I' g.1 g.2 = I g.1 g.2 := by
  unfold es_ck at hc
  rw [Bool.and_eq_true] at hc
  refine ⟨fun a ha => ?_, fun g hg => ?_⟩
  · have h1 := List.all_eq_true.1 hc.1 a ha
    rw [Bool.and_eq_true, Bool.not_eq_true', Bool.not_eq_true'] at h1
    funext k
    exact h a k h1.1 (es_m2_1 h1.2)
  · have h1 := List.all_eq_true.1 hc.2 g hg
    rw [Bool.and_eq_true, Bool.not_eq_true', Bool.not_eq_true'] at h1
    exact h g.1 g.2 h1.1 h1.2
def rl_row (I : am_I) : Prop := (0 ≤ I 1 2 ∧ I 1 2 ≤ 24) ∧ I 44 0 = I 1 2 ∧ ∀ j : Nat, (j : Int) < I 1 2 → (I 45 j = I 2 j ∧ I 46 j = I 3 j) ∧ (0 ≤ I 2 j ∧ I 2 j ≤ 127) ∧ (0 ≤ I 3 j ∧ I 3 j ≤ 96)
def rl_mea (I : am_I) : Prop := (0 ≤ I 4 2 ∧ I 4 2 ≤ 24) ∧ I 44 3 = I 4 2 ∧ ∀ j : Nat, (j : Int) < I 4 2 → (I 47 j = I 5 j ∧ I 48 j = I 6 j) ∧ (0 ≤ I 5 j ∧ I 5 j ≤ 127) ∧ (0 ≤ I 6 j ∧ I 6 j ≤ 96)
def rl_rul (I : am_I) : Prop := es_rb I ∧ (I 44 7 = I 7 1 ∧ I 44 8 = I 7 2 ∧ I 44 9 = I 7 3 ∧ I 44 14 = I 7 4 ∧ I 44 15 = I 7 5) ∧ (I 44 10 = I 8 0 ∧ I 44 11 = I 8 1 ∧ I 44 12 = I 8 2 ∧ I 44 13 = I 8 3)
def rl_met (I : am_I) : Prop := es_mb I ∧ (I 44 16 = I 14 2 ∧ I 44 17 = I 14 3 ∧ I 44 19 = I 14 1) ∧ es_b49 I ∧ ∀ x : Int, 1 ≤ x → x ≤ 96 → (es_hs I x ↔ I 49 x.toNat = 1)
def rl_har (I : am_I) : Prop := es_hc I ∧ (I 44 20 = I 17 2 ∧ I 44 23 = I 17 3) ∧ (∀ j : Nat, j < 6 → I 50 j = I 18 j) ∧ ∀ j : Nat, j < 3 → I 51 j = I 19 j
def rl_pup (n : Nat) (I : am_I) : Prop := ∀ p j : Nat, p < 6 → j < 13 → (I 52 (13 * p + j) = I (31 + p) j ∧ I 53 (13 * p + j) = I (38 + p) j) ∧ (0 ≤ I (31 + p) j ∧ I (31 + p) j ≤ 24 * (n : Int)) ∧ (0 ≤ I (38 + p) j ∧ I (38 + p) j ≤ 24 * (n : Int))
def rl_jd (I : am_I) (T : Nat) : Prop := T ≤ 96 ∧ es_jT (es_Qc I) (I 4 2).toNat (I 1 2).toNat T ∧ I 23 7 = (T : Int) ∧ I 44 32 = (T : Int) ∧ I 23 8 = es_k0 (es_Qc I) (I 4 2).toNat (I 1 2).toNat (I 4 2).toNat (I 1 2).toNat 0 ∧ (∀ k : Nat, k < T → es_axc (es_Qc I) (I 4 2).toNat (I 1 2).toNat I k) ∧ ∀ k : Nat, k < T → es_ax (es_Qc I) (I 4 2).toNat (I 1 2).toNat I k
def rl_jud (I : am_I) : Prop := (0 ≤ I 23 9 ∧ I 23 9 ≤ 1) ∧ I 44 6 = I 23 9 ∧ (0 ≤ I 44 32 ∧ I 44 32 ≤ 96) ∧ (I 23 9 = 1 → es_exN (rl_jd I))
theorem rl_row_k {I I' : am_I} {C : List Nat} {F : List (Nat × Nat)} (h : es_fx I I' C F) (hc : es_ck C F [2, 3, 45, 46] [(1, 2), (44, 0)] = true) (hr : rl_row I) : rl_row I' := by
  obtain ⟨w, g⟩ := h.W hc
  have w2 := w 2 (by decide)
  have w3 := w 3 (by decide)
  have w45 := w 45 (by decide)
  have w46 := w 46 (by decide)
  have g1 : I' 1 2 = I 1 2 := g (1, 2) (by decide)
  have g2 : I' 44 0 = I 44 0 := g (44, 0) (by decide)
  unfold rl_row
  rw [w2, w3, w45, w46, g1, g2]
  exact hr
theorem rl_mea_k {I I' : am_I} {C : List Nat} {F : List (Nat × Nat)} (h : es_fx I I' C F) (hc : es_ck C F [5, 6, 47, 48] [(4, 2), (44, 3)] = true) (hr : rl_mea I) : rl_mea I' := by
  obtain ⟨w, g⟩ := h.W hc
  have w2 := w 5 (by decide)
  have w3 := w 6 (by decide)
  have w45 := w 47 (by decide)
  have w46 := w 48 (by decide)
  have g1 : I' 4 2 = I 4 2 := g (4, 2) (by decide)
  have g2 : I' 44 3 = I 44 3 := g (44, 3) (by decide)
  unfold rl_mea
  rw [w2, w3, w45, w46, g1, g2]
  exact hr
theorem rl_rul_k {I I' : am_I} {C : List Nat} {F : List (Nat × Nat)} (h : es_fx I I' C F) (hc : es_ck C F [7, 8] [(44, 7), (44, 8), (44, 9), (44, 10), (44, 11), (44, 12), (44, 13), (44, 14), (44, 15)] = true) (hr : rl_rul I) : rl_rul I' := by
  obtain ⟨w, g⟩ := h.W hc
  have w7 := w 7 (by decide)
  have w8 := w 8 (by decide)
  have g7 : I' 44 7 = I 44 7 := g (44, 7) (by decide)
  have g8 : I' 44 8 = I 44 8 := g (44, 8) (by decide)
  have g9 : I' 44 9 = I 44 9 := g (44, 9) (by decide)
  have g10 : I' 44 10 = I 44 10 := g (44, 10) (by decide)
  have g11 : I' 44 11 = I 44 11 := g (44, 11) (by decide)
  have g12 : I' 44 12 = I 44 12 := g (44, 12) (by decide)
  have g13 : I' 44 13 = I 44 13 := g (44, 13) (by decide)
  have g14 : I' 44 14 = I 44 14 := g (44, 14) (by decide)
  have g15 : I' 44 15 = I 44 15 := g (44, 15) (by decide)
  unfold rl_rul es_rb
  rw [w7, w8, g7, g8, g9, g10, g11, g12, g13, g14, g15]
  exact hr
theorem es_srt_k {I I' : am_I} (h15 : I' 15 = I 15) (h1 : I' 14 1 = I 14 1) (h : es_srt I) : es_srt I' := by
  unfold es_srt
  rw [h15, h1]
  exact h
theorem rl_met_k {I I' : am_I} {C : List Nat} {F : List (Nat × Nat)} (h : es_fx I I' C F) (hc : es_ck C F [15, 49] [(14, 1), (14, 2), (14, 3), (44, 16), (44, 17), (44, 19)] = true) (hr : rl_met I) : rl_met I' := by
  obtain ⟨w, g⟩ := h.W hc
  have w15 := w 15 (by decide)
  have w49 := w 49 (by decide)
  have g1 : I' 14 1 = I 14 1 := g (14, 1) (by decide)
  have g2 : I' 14 2 = I 14 2 := g (14, 2) (by decide)
  have g3 : I' 14 3 = I 14 3 := g (14, 3) (by decide)
  have g16 : I' 44 16 = I 44 16 := g (44, 16) (by decide)
  have g17 : I' 44 17 = I 44 17 := g (44, 17) (by decide)
  have g19 : I' 44 19 = I 44 19 := g (44, 19) (by decide)
  unfold rl_met es_mb es_b49 es_hs es_srt
  rw [w15, w49, g1, g2, g3, g16, g17, g19]
  exact hr
theorem rl_har_k {I I' : am_I} {C : List Nat} {F : List (Nat × Nat)} (h : es_fx I I' C F) (hc : es_ck C F [18, 19, 50, 51] [(17, 2), (17, 3), (44, 20), (44, 23)] = true) (hr : rl_har I) : rl_har I' := by
  obtain ⟨w, g⟩ := h.W hc
  have w18 := w 18 (by decide)
  have w19 := w 19 (by decide)
  have w50 := w 50 (by decide)
  have w51 := w 51 (by decide)
  have g2 : I' 17 2 = I 17 2 := g (17, 2) (by decide)
  have g3 : I' 17 3 = I 17 3 := g (17, 3) (by decide)
  have g20 : I' 44 20 = I 44 20 := g (44, 20) (by decide)
  have g23 : I' 44 23 = I 44 23 := g (44, 23) (by decide)
  unfold rl_har es_hc
  rw [w18, w19, w50, w51, g2, g3, g20, g23]
  exact hr
theorem rl_pup_k {n : Nat} {I I' : am_I} {C : List Nat} {F : List (Nat × Nat)} (h : es_fx I I' C F) (hc : es_ck C F [31, 32, 33, 34, 35, 36, 38, 39, 40, 41, 42, 43, 52, 53] [] = true) (hr : rl_pup n I) : rl_pup (n + 1) I' := by
  obtain ⟨w, g⟩ := h.W hc
  intro p j hp hj
  have h6 : p = 0 ∨ p = 1 ∨ p = 2 ∨ p = 3 ∨ p = 4 ∨ p = 5 := by omega
  have w1 : I' (31 + p) = I (31 + p) := by
    rcases h6 with rfl | rfl | rfl | rfl | rfl | rfl <;> exact w _ (by decide)
  have w2 : I' (38 + p) = I (38 + p) := by
    rcases h6 with rfl | rfl | rfl | rfl | rfl | rfl <;> exact w _ (by decide)
  rw [w1, w2, w 52 (by decide), w 53 (by decide)]
  have h1 := hr p j hp hj
  refine ⟨h1.1, ?_, ?_⟩
  · have := h1.2.1; omega
  · have := h1.2.2; omega
theorem rl_jud_k {I I' : am_I} {C : List Nat} {F : List (Nat × Nat)} (h : es_fx I I' C F) (hc : es_ck C F [2, 3, 5, 6, 25, 26, 27, 28, 60, 61, 62, 63, 64] [(1, 2), (4, 2), (23, 7), (23, 8), (23, 9), (44, 6), (44, 32)] = true) (hr : rl_jud I) : rl_jud I' := by
  obtain ⟨w, g⟩ := h.W hc
  have w2 := w 2 (by decide)
  have w3 := w 3 (by decide)
  have w5 := w 5 (by decide)
  have w6 := w 6 (by decide)
  have w25 := w 25 (by decide)
  have w26 := w 26 (by decide)
  have w27 := w 27 (by decide)
  have w28 := w 28 (by decide)
  have w60 := w 60 (by decide)
  have w61 := w 61 (by decide)
  have w62 := w 62 (by decide)
  have w63 := w 63 (by decide)
  have w64 := w 64 (by decide)
  have g1 : I' 1 2 = I 1 2 := g (1, 2) (by decide)
  have g4 : I' 4 2 = I 4 2 := g (4, 2) (by decide)
  have g7 : I' 23 7 = I 23 7 := g (23, 7) (by decide)
  have g8 : I' 23 8 = I 23 8 := g (23, 8) (by decide)
  have g9 : I' 23 9 = I 23 9 := g (23, 9) (by decide)
  have g6 : I' 44 6 = I 44 6 := g (44, 6) (by decide)
  have g32 : I' 44 32 = I 44 32 := g (44, 32) (by decide)
  unfold rl_jud rl_jd es_axc es_ax es_Qc
  rw [w2, w3, w5, w6, w25, w26, w27, w28, w60, w61, w62, w63, w64, g1, g4, g7, g8, g9, g6, g32]
  exact hr
theorem es_i9_k {I I' : am_I} {C : List Nat} {F : List (Nat × Nat)} (h : es_fx I I' C F) (hc : es_ck C F [7, 8, 10] [(9, 2)] = true) (hr : es_i9 I) : es_i9 I' := by
  obtain ⟨w, g⟩ := h.W hc
  have w7 := w 7 (by decide)
  have w8 := w 8 (by decide)
  have w10 := w 10 (by decide)
  have g9 : I' 9 2 = I 9 2 := g (9, 2) (by decide)
  unfold es_i9 es_row_ct es_vs es_g_ct
  rw [w7, w8, w10, g9]
  exact hr
theorem es_i9_0 {I I' : am_I} {C : List Nat} {F : List (Nat × Nat)} (h : es_fx I I' C F) (hc : es_ck C F [10] [] = true) (h0 : I' 9 2 = 0) (hr : es_i9 I) : es_i9 I' := by
  obtain ⟨w, g⟩ := h.W hc
  have w10 := w 10 (by decide)
  unfold es_i9
  rw [w10]
  exact ⟨hr.1, Or.inl h0⟩
theorem es_i12_k {I I' : am_I} {C : List Nat} {F : List (Nat × Nat)} (h : es_fx I I' C F) (hc : es_ck C F [12] [] = true) (hr : es_i12 I) : es_i12 I' := by
  obtain ⟨w, g⟩ := h.W hc
  have w12 := w 12 (by decide)
  unfold es_i12
  rw [w12]
  exact hr
theorem es_i16_k {I I' : am_I} {C : List Nat} {F : List (Nat × Nat)} (h : es_fx I I' C F) (hc : es_ck C F [14, 15, 16] [] = true) (hr : es_i16 I) : es_i16 I' := by
  obtain ⟨w, g⟩ := h.W hc
  have w14 := w 14 (by decide)
  have w15 := w 15 (by decide)
  have w16 := w 16 (by decide)
  have e : es_Sc I' = es_Sc I := es_Sc_c (by rw [w14]) w15
  unfold es_i16
  rw [w14, w16, e]
  exact hr
theorem es_i16_0 {I I' : am_I} {C : List Nat} {F : List (Nat × Nat)} (h : es_fx I I' C F) (hc : es_ck C F [16] [] = true) (h0 : I' 14 4 = 0) (hr : es_i16 I) : es_i16 I' := by
  obtain ⟨w, g⟩ := h.W hc
  have w16 := w 16 (by decide)
  unfold es_i16
  rw [w16]
  exact ⟨hr.1, Or.inl h0⟩
theorem es_i22_k {I I' : am_I} {C : List Nat} {F : List (Nat × Nat)} (h : es_fx I I' C F) (hc : es_ck C F [17, 18, 19, 20, 21, 22] [] = true) (hr : es_i22 I) : es_i22 I' := by
  obtain ⟨w, g⟩ := h.W hc
  have w17 := w 17 (by decide)
  have w18 := w 18 (by decide)
  have w19 := w 19 (by decide)
  have w20 := w 20 (by decide)
  have w21 := w 21 (by decide)
  have w22 := w 22 (by decide)
  unfold es_i22 es_r3c es_Lc
  rw [w17, w18, w19, w20, w21, w22]
  exact hr
def es_rel (n : Nat) (I : am_I) : Prop := rl_row I ∧ rl_mea I ∧ rl_rul I ∧ rl_met I ∧ rl_har I ∧ rl_pup n I ∧ rl_jud I ∧ es_i9 I ∧ es_i12 I ∧ es_i16 I ∧ es_i22 I
def es_qf (n k : Nat) (y y' : am_Y) (as as' : List am_v) (I : am_I) : Prop := am_C k y as I (fun r1 I1 => es_ex (fun x => r1 = some (.inl x) ∧ am_C k y' as' I1 (fun r2 I2 => r2 = some (.inl x) ∧ es_rel (n + 1) I2)))
def es_qg (n k : Nat) (y y' : am_Y) (as as' : List am_v) (I : am_I) : Prop := am_C k y as I (fun r1 I1 => es_ex (fun x => r1 = some (.inr (.inl x)) ∧ am_C k y' as' I1 (fun r2 I2 => r2 = some (.inr (.inl x)) ∧ es_rel (n + 1) I2)))
theorem es_rel_s {n : Nat} {I : am_I} (h : es_rel n I) : es_rel (n + 1) I := by
  obtain ⟨h1, h2, h3, h4, h5, h6, h7⟩ := h
  exact ⟨h1, h2, h3, h4, h5, rl_pup_k (C := []) (F := []) es_fx.rf rfl h6, h7⟩
