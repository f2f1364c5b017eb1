def es_mk (a b c d e f g h i : Int) : Nat → Int
  | 7 => a
  | 8 => b
  | 9 => c
  | 10 => d
  | 11 => e
  | 12 => f
  | 13 => g
  | 14 => h
  | 15 => i
  | _ => 0
def es_cut (R : Nat → Int) : Nat → Int := es_mk (R 7) (R 8) (R 9) (R 10) (R 11) (R 12) (R 13) (R 14) (R 15)
def es_Rc (J : am_I) : Nat → Int := es_mk (J 7 1) (J 7 2) (J 7 3) (J 8 0) (J 8 1) (J 8 2) (J 8 3) (J 7 4) (J 7 5)
theorem es_fd_l {op : Int → Int → Int} {e : Int} {D : Int → Prop} (h : es_mn op e D) {f : Int → Int} (hf : ∀ x, D (f x)) (a : Int) (m : Nat) : es_fd op e f a (m + 1) = op (f a) (es_fd op e f (a + 1) m) := by
  have h1 := es_fd_add h hf a 1 m
  rw [show 1 + m = m + 1 by omega] at h1
  rw [h1]
  show op (op e (f (a + ((0 : Nat) : Int)))) (es_fd op e f (a + ((1 : Nat) : Int)) m) = _
  rw [h.2.2.2.2 _ (hf _), show a + ((0 : Nat) : Int) = a by omega, show a + ((1 : Nat) : Int) = a + 1 by omega]
theorem es_fc_0 {f : Int → Int} (hf : ∀ x, es_Dc (f x)) {a : Int} : ∀ m : Nat, es_fd es_oc 0 f a m = 0 → ∀ x, a ≤ x → x < a + (m : Int) → f x = 0
  | 0, _, x, h1, h2 => by omega
  | m + 1, h, x, h1, h2 => by
    have h3 : min 1000000000000000000 (es_fd es_oc 0 f a m + f (a + m)) = 0 := h
    have h4 := es_fc_D hf a m
    have h5 := hf (a + m)
    unfold es_Dc at h5
    by_cases c : x = a + m
    · rw [c]; omega
    · exact es_fc_0 hf m (by omega) x h1 (by omega)
def es_pk (f : Int → Int) : Int → Nat → Int → Int × Int
  | a, 0, l => (a, l)
  | a, m + 1, l => if l < f a then (a, l) else es_pk f (a + 1) m (l - f a)
theorem es_pk_ok {f : Int → Int} (hf : ∀ x, es_Dc (f x)) : ∀ (m : Nat) (a l : Int), 0 ≤ l → l < es_fd es_oc 0 f a m → (a ≤ (es_pk f a m l).1 ∧ (es_pk f a m l).1 < a + (m : Int)) ∧ 0 ≤ (es_pk f a m l).2 ∧ (es_pk f a m l).2 < f (es_pk f a m l).1
  | 0, a, l, h1, h2 => by
    have h3 : l < 0 := h2
    omega
  | m + 1, a, l, h1, h2 => by
    rw [es_fd_l es_mc hf a m] at h2
    have h3 : l < min 1000000000000000000 (f a + es_fd es_oc 0 f (a + 1) m) := h2
    show (a ≤ (if l < f a then (a, l) else es_pk f (a + 1) m (l - f a)).1 ∧ (if l < f a then (a, l) else es_pk f (a + 1) m (l - f a)).1 < a + ((m + 1 : Nat) : Int)) ∧ 0 ≤ (if l < f a then (a, l) else es_pk f (a + 1) m (l - f a)).2 ∧ (if l < f a then (a, l) else es_pk f (a + 1) m (l - f a)).2 < f (if l < f a then (a, l) else es_pk f (a + 1) m (l - f a)).1
    by_cases c : l < f a
    · rw [if_pos c]
      exact ⟨⟨by show a ≤ a; omega, by show a < a + ((m + 1 : Nat) : Int); omega⟩, h1, c⟩
    · rw [if_neg c]
      have h4 := es_pk_ok hf m (a + 1) (l - f a) (by omega) (by omega)
      exact ⟨⟨by omega, by omega⟩, h4.2.1, h4.2.2⟩
noncomputable def es_w (R : Nat → Int) (i b u q : Int) : Int := if R 7 ≤ q ∧ q ≤ R 8 then (if i = 0 then es_g_mo R (R 9 - 1).toNat q 0 else es_f_mo R (R 9 - 1 - i).toNat u b q) else 0
def es_us (R : Nat → Int) (i b u q : Int) : Int := if i = 0 then 0 else es_bh (R 13) (R 14) (R 15) u (q - b)
theorem es_w_D (R : Nat → Int) (i b u q : Int) : es_Dc (es_w R i b u q) := by
  unfold es_w
  split
  · split
    · exact es_g_mo_D _ _ _ _
    · exact es_f_mo_D _ _ _ _ _
  · unfold es_Dc; omega
theorem es_w_g {R : Nat → Int} {i b u q : Int} (h : es_w R i b u q ≠ 0) : (R 7 ≤ q ∧ q ≤ R 8) ∧ es_w R i b u q = es_g_mo R (R 9 - 1 - i).toNat q (es_us R i b u q) ∧ (es_us R i b u q ≠ -1) := by
  unfold es_w at h ⊢
  unfold es_us
  split at h
  · rename_i h1
    refine ⟨h1, ?_⟩
    rw [if_pos h1]
    split at h
    · rename_i h2
      rw [if_pos h2, if_pos h2, h2, show R 9 - 1 - 0 = R 9 - 1 by omega]
      exact ⟨rfl, by omega⟩
    · rename_i h2
      rw [if_neg h2, if_neg h2]
      unfold es_f_mo at h ⊢
      split at h
      · exact absurd rfl h
      · rename_i h3
        rw [if_neg h3]
        exact ⟨rfl, h3⟩
  · exact absurd rfl h
theorem es_us_rng {R : Nat → Int} (hr : es_rm R) {i b u q : Int} (hu : 0 ≤ u ∧ u ≤ 17) (h : es_us R i b u q ≠ -1) : 0 ≤ es_us R i b u q ∧ es_us R i b u q ≤ 17 := by
  unfold es_us at h ⊢
  split at h
  · rename_i c
    rw [if_pos c]; omega
  · rename_i c
    rw [if_neg c]
    have := es_bh_rng (R 13) (R 14) (R 15) u (q - b) hr.2.2.2 hu
    omega
theorem es_w_sum {R : Nat → Int} (hr : es_rm R) {i b u : Int} (hi : 0 ≤ i ∧ i + 1 < R 9) (hf : es_fit (R 10) (R 11) (R 12) (R 9) i b) : es_g_mo R (R 9 - 1 - i).toNat b u = es_fd es_oc 0 (es_w R (i + 1) b u) (R 7) (R 8 + 1 - R 7).toNat := by
  have em : (R 9 - 1 - i).toNat = (R 9 - 1 - (i + 1)).toNat + 1 := by omega
  have ep : R 9 - 1 - (((R 9 - 1 - (i + 1)).toNat + 1 : Nat) : Int) = i := by omega
  rw [em]
  unfold es_g_mo
  rw [es_G_on _ _ _ (by rw [ep]; exact hf)]
  refine es_fd_cg _ (fun x h1 h2 => ?_)
  obtain ⟨r1, r2, r3, r4⟩ := hr
  have e : es_w R (i + 1) b u x = es_f_mo R (R 9 - 1 - (i + 1)).toNat u b x := by
    unfold es_w
    rw [if_pos (by omega), if_neg (by omega)]
  rw [e]
  rfl
theorem es_g_fit {R : Nat → Int} {i b u : Int} (hi : 0 ≤ i ∧ i < R 9) (h : es_g_mo R (R 9 - 1 - i).toNat b u ≠ 0) : es_fit (R 10) (R 11) (R 12) (R 9) i b := by
  refine Classical.byContradiction (fun c => h ?_)
  unfold es_g_mo
  exact es_G_no _ _ _ (by rw [show R 9 - 1 - ((R 9 - 1 - i).toNat : Int) = i by omega]; exact c)
noncomputable def es_st (R : Nat → Int) (i : Int) (x : Int × Int × Int) : Int × Int × Int := ((es_pk (es_w R i x.1 x.2.1) (R 7) (R 8 + 1 - R 7).toNat x.2.2).1, es_us R i x.1 x.2.1 (es_pk (es_w R i x.1 x.2.1) (R 7) (R 8 + 1 - R 7).toNat x.2.2).1, (es_pk (es_w R i x.1 x.2.1) (R 7) (R 8 + 1 - R 7).toNat x.2.2).2)
noncomputable def es_sp (R : Nat → Int) (k : Int) : Nat → Int × Int × Int
  | 0 => (R 7, 0, k)
  | i + 1 => es_st R i (es_sp R k i)
def es_al (R : Nat → Int) (i : Int) (x : Int × Int × Int) : Prop := (R 7 ≤ x.1 ∧ x.1 ≤ R 8) ∧ (0 ≤ x.2.1 ∧ x.2.1 ≤ 17) ∧ 0 ≤ x.2.2 ∧ (i < R 9 → x.2.2 < es_fd es_oc 0 (es_w R i x.1 x.2.1) (R 7) (R 8 + 1 - R 7).toNat)
theorem es_st_al {R : Nat → Int} (hr : es_rm R) {i : Int} (hi : 0 ≤ i ∧ i < R 9) {x : Int × Int × Int} (h : es_al R i x) : es_al R (i + 1) (es_st R i x) ∧ (es_st R i x).2.2 < es_w R i x.1 x.2.1 (es_st R i x).1 := by
  obtain ⟨a1, a2, a3, a4⟩ := h
  have hk := es_pk_ok (f := es_w R i x.1 x.2.1) (fun q => es_w_D _ _ _ _ _) (R 8 + 1 - R 7).toNat (R 7) x.2.2 a3 (a4 hi.2)
  unfold es_st es_al
  generalize es_pk (es_w R i x.1 x.2.1) (R 7) (R 8 + 1 - R 7).toNat x.2.2 = z at hk ⊢
  obtain ⟨k1, k2, k3⟩ := hk
  have hw := es_w_g (R := R) (i := i) (b := x.1) (u := x.2.1) (q := z.1) (by omega)
  have hu := es_us_rng hr (i := i) (b := x.1) (q := z.1) a2 hw.2.2
  obtain ⟨r1, r2, r3, r4⟩ := id hr
  refine ⟨⟨by show R 7 ≤ z.1 ∧ z.1 ≤ R 8; omega, hu, k2, fun hn => ?_⟩, k3⟩
  show z.2 < es_fd es_oc 0 (es_w R (i + 1) z.1 (es_us R i x.1 x.2.1 z.1)) (R 7) (R 8 + 1 - R 7).toNat
  have hft := es_g_fit (R := R) (i := i) (b := z.1) (u := es_us R i x.1 x.2.1 z.1) hi (by rw [← hw.2.1]; omega)
  rw [← es_w_sum hr ⟨hi.1, hn⟩ hft, ← hw.2.1]
  exact k3
theorem es_sp_al {R : Nat → Int} (hr : es_rm R) {k : Int} (hk : 0 ≤ k ∧ k < es_tot R) : ∀ i : Nat, (i : Int) ≤ R 9 → es_al R i (es_sp R k i)
  | 0, _ => by
    obtain ⟨r1, r2, r3, r4⟩ := id hr
    refine ⟨by show R 7 ≤ R 7 ∧ R 7 ≤ R 8; omega, by show (0 : Int) ≤ 0 ∧ (0 : Int) ≤ 17; omega, hk.1, fun _ => ?_⟩
    show k < es_fd es_oc 0 (es_w R ((0 : Nat) : Int) (R 7) 0) (R 7) (R 8 + 1 - R 7).toNat
    have e1 : es_tot R = es_fd es_oc 0 (es_w R ((0 : Nat) : Int) (R 7) 0) (R 7) (R 8 + 1 - R 7).toNat := by
      unfold es_tot
      refine es_fd_cg _ (fun x h1 h2 => ?_)
      unfold es_w
      rw [if_pos (by omega), if_pos (by omega)]
    rw [← e1]
    exact hk.2
  | i + 1, h => (es_st_al hr ⟨by omega, by omega⟩ (es_sp_al hr hk i (by omega))).1
noncomputable def es_ah (R P : Nat → Int) : Nat → Nat → Int → Int → Int → Int
  | 0, _, _, _, s => s
  | m + 1, i, b, u, s => if es_w R i b u (P i) = 0 then es_oc s (es_fd es_oc 0 (es_w R i b u) (R 7) (min (P i) (R 8 + 1) - R 7).toNat) else es_ah R P m (i + 1) (P i) (es_us R i b u (P i)) (es_oc s (es_fd es_oc 0 (es_w R i b u) (R 7) (min (P i) (R 8 + 1) - R 7).toNat))
theorem es_ah_cg {R P Q : Nat → Int} : ∀ (m i : Nat) (b u s : Int), (∀ j : Nat, j < i + m → P j = Q j) → es_ah R P m i b u s = es_ah R Q m i b u s
  | 0, i, b, u, s, h => rfl
  | m + 1, i, b, u, s, h => by
    unfold es_ah
    rw [h i (by omega), es_ah_cg m (i + 1) (Q i) _ _ (fun j hj => h j (by omega))]
theorem es_ah_0 {R P : Nat → Int} (hr : es_rm R) {m i : Nat} {b u s : Int} (hs : 0 ≤ s ∧ s ≤ 1000000000000000000) (hi : (i : Int) + 1 + m ≤ R 9) (hf : es_fit (R 10) (R 11) (R 12) (R 9) i b) (hg : es_g_mo R (R 9 - 1 - i).toNat b u = 0) : es_ah R P m (i + 1) b u s = s := by
  cases m with
  | zero => rfl
  | succ m =>
    rw [es_w_sum hr ⟨by omega, by omega⟩ hf] at hg
    have h0 := es_fc_0 (f := es_w R (i + 1) b u) (fun q => es_w_D _ _ _ _ _) _ hg
    obtain ⟨r1, r2, r3, r4⟩ := id hr
    have hw : ∀ q, es_w R (i + 1) b u q = 0 := by
      intro q
      by_cases c : R 7 ≤ q ∧ q ≤ R 8
      · exact h0 q c.1 (by omega)
      · unfold es_w
        rw [if_neg c]
    unfold es_ah
    rw [show ((i + 1 : Nat) : Int) = (i : Int) + 1 by omega, if_pos (hw _), es_fd_e es_mc _ (fun x _ _ => hw x)]
    exact es_mn_r es_mc hs
theorem es_rb_m {J : am_I} (h : es_rb J) : es_rm (es_Rc J) := h
def es_v0 (J : am_I) (p t : Int) : Prop := (p = 0 ∧ t = 0) ∨ (0 < p ∧ es_vs J (p - 1) t)
theorem es_v0_u {J : am_I} (hr : es_rb J) {p b t q : Int} (hp : 0 ≤ p ∧ p < J 7 3) (hv : es_v0 J p t) (hw : es_w (es_Rc J) p b (es_T t) q ≠ 0) : es_v0 J (p + 1) (if p = 0 then 0 else es_nx (J 7 4) t (q - b)) ∧ es_T (if p = 0 then 0 else es_nx (J 7 4) t (q - b)) = es_us (es_Rc J) p b (es_T t) q := by
  obtain ⟨r1, r2, r3, r4⟩ := id hr
  have h1 := (es_w_g hw).2.2
  unfold es_v0 at hv ⊢
  unfold es_us at h1 ⊢
  by_cases c : p = 0
  · rw [if_pos c, if_pos c]
    refine ⟨Or.inr ⟨by omega, ?_⟩, rfl⟩
    unfold es_vs; omega
  · rw [if_neg c] at h1
    rw [if_neg c, if_neg c]
    have hv' : es_vs J (p - 1) t := by
      rcases hv with hv | hv
      · omega
      · exact hv.2
    have ht : 0 ≤ t ∧ t ≤ 17 := by unfold es_vs at hv'; omega
    have hk := es_key (stp := J 8 3) (lp := J 7 4) (rp := J 7 5) (t := t) (q - b) r3 r4 ht (by unfold es_vs at hv'; omega)
    have hm : es_may (J 8 3) (J 7 5) t (q - b) := Classical.byContradiction (fun z => h1 (hk.2 z))
    refine ⟨Or.inr ⟨by omega, ?_⟩, (hk.1 hm).1.symm⟩
    have h3 := es_nx_c (J 7 4) t (q - b)
    unfold es_may at hm
    unfold es_vs at hv' ⊢
    omega
