def es_hw (w : Nat → Int) : Prop := ∀ j : Nat, j < 13 → 0 ≤ w j ∧ w j ≤ 1000000
noncomputable def es_gw (R : Nat → Int) (sf : Int → Int → Int) : Nat → Int → Int → Int := es_G es_om (-1) 0 sf (R 7) (R 8) (R 9) (R 10) (R 11) (R 12) (R 13) (R 14) (R 15)
noncomputable def es_x (R : Nat → Int) (sf : Int → Int → Int) (i b u q : Int) : Int := if R 7 ≤ q ∧ q ≤ R 8 then (if i = 0 then es_gw R sf (R 9 - 1).toNat q 0 else (if es_bh (R 13) (R 14) (R 15) u (q - b) = -1 then -1 else sf (q - b) (es_gw R sf (R 9 - 1 - i).toNat q (es_bh (R 13) (R 14) (R 15) u (q - b))))) else -1
theorem es_gw_D {w : Nat → Int} (hw : es_hw w) (R : Nat → Int) (m : Nat) (q u : Int) : -1 ≤ es_gw R (es_ws w) m q u ∧ es_gw R (es_ws w) m q u ≤ 1000000 * (m : Int) := ⟨es_Gw_D hw m q u, es_Gw_le hw m q u⟩
theorem es_x_D {w : Nat → Int} (hw : es_hw w) {R : Nat → Int} (hr : es_rm R) {i : Int} (hi : 0 ≤ i) (b u q : Int) : -1 ≤ es_x R (es_ws w) i b u q ∧ es_x R (es_ws w) i b u q ≤ 20000000 := by
  unfold es_x
  obtain ⟨r1, r2, r3, r4⟩ := id hr
  split
  · split
    · have := es_gw_D hw R (R 9 - 1).toNat q 0
      omega
    · split
      · omega
      · have h1 := es_gw_D hw R (R 9 - 1 - i).toNat q (es_bh (R 13) (R 14) (R 15) u (q - b))
        have h2 := es_ws_D hw (q - b) _ h1.1
        have h3 := es_wsle hw (s := q - b) (b := 16000000) (by omega) (show es_gw R (es_ws w) (R 9 - 1 - i).toNat q (es_bh (R 13) (R 14) (R 15) u (q - b)) ≤ 16000000 by omega)
        unfold es_Dm at h2
        omega
  · omega
theorem es_ws_neg {w : Nat → Int} {s v : Int} (h : 0 ≤ es_ws w s v) : 0 ≤ v := by
  unfold es_ws at h
  split at h
  · omega
  · omega
theorem es_x_g {w : Nat → Int} {R : Nat → Int} {i b u q : Int} (h : 0 ≤ es_x R (es_ws w) i b u q) : (R 7 ≤ q ∧ q ≤ R 8) ∧ 0 ≤ es_gw R (es_ws w) (R 9 - 1 - i).toNat q (es_us R i b u q) ∧ es_us R i b u q ≠ -1 := by
  unfold es_x at h
  unfold es_us
  split at h
  · rename_i h1
    refine ⟨h1, ?_⟩
    split at h
    · rename_i h2
      rw [if_pos h2, h2, show R 9 - 1 - 0 = R 9 - 1 by omega]
      exact ⟨h, by omega⟩
    · rename_i h2
      rw [if_neg h2]
      split at h
      · omega
      · rename_i h3
        exact ⟨es_ws_neg h, h3⟩
  · omega
theorem es_x_sum {R : Nat → Int} (hr : es_rm R) {sf : Int → Int → Int} {i b u : Int} (hi : 0 ≤ i ∧ i + 1 < R 9) (hf : es_fit (R 10) (R 11) (R 12) (R 9) i b) : es_gw R sf (R 9 - 1 - i).toNat b u = es_fd es_om (-1) (es_x R sf (i + 1) b u) (R 7) (R 8 + 1 - R 7).toNat := by
  have em : (R 9 - 1 - i).toNat = (R 9 - 1 - (i + 1)).toNat + 1 := by omega
  have ep : R 9 - 1 - (((R 9 - 1 - (i + 1)).toNat + 1 : Nat) : Int) = i := by omega
  rw [em]
  unfold es_gw
  rw [es_G_on _ _ _ (by rw [ep]; exact hf)]
  refine es_fd_cg _ (fun x h1 h2 => ?_)
  obtain ⟨r1, r2, r3, r4⟩ := hr
  have e : es_x R sf (i + 1) b u x = (if es_bh (R 13) (R 14) (R 15) u (x - b) = -1 then -1 else sf (x - b) (es_gw R sf (R 9 - 1 - (i + 1)).toNat x (es_bh (R 13) (R 14) (R 15) u (x - b)))) := by
    unfold es_x
    rw [if_pos (by omega), if_neg (by omega)]
  rw [e]
  rfl
theorem es_gw_fit {R : Nat → Int} {sf : Int → Int → Int} {i b u : Int} (hi : 0 ≤ i ∧ i < R 9) (h : 0 ≤ es_gw R sf (R 9 - 1 - i).toNat b u) : es_fit (R 10) (R 11) (R 12) (R 9) i b := by
  refine Classical.byContradiction (fun c => ?_)
  have h1 : es_gw R sf (R 9 - 1 - i).toNat b u = -1 := by
    unfold es_gw
    exact es_G_no _ _ _ (by rw [show R 9 - 1 - ((R 9 - 1 - i).toNat : Int) = i by omega]; exact c)
  omega
theorem es_fm_at {f : Int → Int} {a : Int} : ∀ m : Nat, -1 < es_fd es_om (-1) f a m → ∃ x, a ≤ x ∧ x < a + (m : Int) ∧ f x = es_fd es_om (-1) f a m
  | 0, h => by
    have h1 : (-1 : Int) < -1 := h
    omega
  | m + 1, h => by
    have e : es_fd es_om (-1) f a (m + 1) = max (es_fd es_om (-1) f a m) (f (a + m)) := rfl
    rw [e] at h ⊢
    by_cases c : es_fd es_om (-1) f a m ≤ f (a + m)
    · exact ⟨a + m, by omega, by omega, by omega⟩
    · obtain ⟨x, h1, h2, h3⟩ := es_fm_at (f := f) (a := a) m (by omega)
      exact ⟨x, h1, by omega, by omega⟩
theorem es_fm_ub {f : Int → Int} {a : Int} : ∀ m : Nat, ∀ x, a ≤ x → x < a + (m : Int) → f x ≤ es_fd es_om (-1) f a m
  | 0, x, h1, h2 => by omega
  | m + 1, x, h1, h2 => by
    have e : es_fd es_om (-1) f a (m + 1) = max (es_fd es_om (-1) f a m) (f (a + m)) := rfl
    rw [e]
    by_cases c : x = a + m
    · rw [c]; omega
    · have := es_fm_ub (f := f) (a := a) m x h1 (by omega)
      omega
def es_fst (f : Int → Int) (v : Int) : Int → Nat → Int
  | a, 0 => a
  | a, m + 1 => if f a = v then a else es_fst f v (a + 1) m
theorem es_fst_eq {f : Int → Int} {v : Int} : ∀ (m : Nat) (a x : Int), a ≤ x → x < a + (m : Int) → f x = v → (∀ y, a ≤ y → y < x → f y ≠ v) → es_fst f v a m = x
  | 0, a, x, h1, h2, h3, h4 => by omega
  | m + 1, a, x, h1, h2, h3, h4 => by
    show (if f a = v then a else es_fst f v (a + 1) m) = x
    by_cases c : a = x
    · rw [c, if_pos h3]
    · rw [if_neg (h4 a (by omega) (by omega))]
      exact es_fst_eq m (a + 1) x (by omega) (by omega) h3 (fun y h5 h6 => h4 y (by omega) h6)
theorem es_fst_ok {f : Int → Int} {v : Int} : ∀ (m : Nat) (a : Int), (∃ x, a ≤ x ∧ x < a + (m : Int) ∧ f x = v) → a ≤ es_fst f v a m ∧ es_fst f v a m < a + (m : Int) ∧ f (es_fst f v a m) = v
  | 0, a, h => by
    obtain ⟨x, h1, h2, h3⟩ := h
    omega
  | m + 1, a, h => by
    show a ≤ (if f a = v then a else es_fst f v (a + 1) m) ∧ (if f a = v then a else es_fst f v (a + 1) m) < a + ((m + 1 : Nat) : Int) ∧ f (if f a = v then a else es_fst f v (a + 1) m) = v
    by_cases c : f a = v
    · rw [if_pos c]
      exact ⟨by omega, by omega, c⟩
    · rw [if_neg c]
      obtain ⟨x, h1, h2, h3⟩ := h
      have hx : x ≠ a := fun e => c (e ▸ h3)
      have h4 := es_fst_ok m (a + 1) ⟨x, by omega, by omega, h3⟩
      exact ⟨by omega, by omega, h4.2.2⟩
noncomputable def es_dt (R : Nat → Int) (sf : Int → Int → Int) : Int := es_fd es_om (-1) (fun q => es_gw R sf (R 9 - 1).toNat q 0) (R 7) (R 8 + 1 - R 7).toNat
noncomputable def es_dl (R : Nat → Int) (sf : Int → Int → Int) (i : Nat) (x : Int × Int) : Int := if i = 0 then es_dt R sf else es_gw R sf (R 9 - (i : Int)).toNat x.1 x.2
noncomputable def es_ds (R : Nat → Int) (sf : Int → Int → Int) (i : Nat) (x : Int × Int) : Int × Int := (es_fst (es_x R sf i x.1 x.2) (es_dl R sf i x) (R 7) (R 8 + 1 - R 7).toNat, es_us R i x.1 x.2 (es_fst (es_x R sf i x.1 x.2) (es_dl R sf i x) (R 7) (R 8 + 1 - R 7).toNat))
noncomputable def es_dp (R : Nat → Int) (sf : Int → Int → Int) : Nat → Int × Int
  | 0 => (R 7, 0)
  | i + 1 => es_ds R sf i (es_dp R sf i)
def es_da (R : Nat → Int) (sf : Int → Int → Int) (i : Nat) (x : Int × Int) : Prop := (R 7 ≤ x.1 ∧ x.1 ≤ R 8) ∧ (0 ≤ x.2 ∧ x.2 ≤ 17) ∧ 0 ≤ es_dl R sf i x ∧ ((i : Int) < R 9 → ∃ q, R 7 ≤ q ∧ q < R 7 + ((R 8 + 1 - R 7).toNat : Int) ∧ es_x R sf i x.1 x.2 q = es_dl R sf i x)
theorem es_ds_da {w : Nat → Int} {R : Nat → Int} (hr : es_rm R) {i : Nat} (hi : (i : Int) < R 9) {x : Int × Int} (h : es_da R (es_ws w) i x) : es_da R (es_ws w) (i + 1) (es_ds R (es_ws w) i x) ∧ es_x R (es_ws w) i x.1 x.2 (es_ds R (es_ws w) i x).1 = es_dl R (es_ws w) i x := by
  obtain ⟨a1, a2, a3, a4⟩ := h
  have hk := es_fst_ok _ _ (a4 hi)
  unfold es_ds
  generalize es_fst (es_x R (es_ws w) i x.1 x.2) (es_dl R (es_ws w) i x) (R 7) (R 8 + 1 - R 7).toNat = z at hk ⊢
  obtain ⟨k1, k2, k3⟩ := hk
  have hg := es_x_g (w := w) (R := R) (i := i) (b := x.1) (u := x.2) (q := z) (by omega)
  have hu := es_us_rng hr (i := i) (b := x.1) (q := z) a2 hg.2.2
  have hl : es_dl R (es_ws w) (i + 1) (z, es_us R i x.1 x.2 z) = es_gw R (es_ws w) (R 9 - 1 - (i : Int)).toNat z (es_us R i x.1 x.2 z) := by
    unfold es_dl
    rw [if_neg (by omega), show R 9 - ((i + 1 : Nat) : Int) = R 9 - 1 - (i : Int) by omega]
  refine ⟨⟨hg.1, hu, by rw [hl]; exact hg.2.1, fun hn => ?_⟩, k3⟩
  rw [hl]
  have hft := es_gw_fit (R := R) (i := i) (b := z) (u := es_us R i x.1 x.2 z) ⟨by omega, hi⟩ hg.2.1
  have hs := es_x_sum hr (sf := es_ws w) (i := i) (b := z) (u := es_us R i x.1 x.2 z) ⟨by omega, by omega⟩ hft
  have h5 := hg.2.1
  rw [hs] at h5 ⊢
  rw [show ((i + 1 : Nat) : Int) = (i : Int) + 1 by omega]
  exact es_fm_at (f := es_x R (es_ws w) ((i : Int) + 1) z (es_us R i x.1 x.2 z)) _ (by omega)
theorem es_dp_da {w : Nat → Int} {R : Nat → Int} (hr : es_rm R) (ht : 0 ≤ es_dt R (es_ws w)) : ∀ i : Nat, (i : Int) ≤ R 9 → es_da R (es_ws w) i (es_dp R (es_ws w) i)
  | 0, _ => by
    obtain ⟨r1, r2, r3, r4⟩ := id hr
    have e1 : es_dt R (es_ws w) = es_fd es_om (-1) (es_x R (es_ws w) ((0 : Nat) : Int) (R 7) 0) (R 7) (R 8 + 1 - R 7).toNat := by
      unfold es_dt
      refine es_fd_cg _ (fun x h1 h2 => ?_)
      unfold es_x
      rw [if_pos (by omega), if_pos (by omega)]
    refine ⟨by show R 7 ≤ R 7 ∧ R 7 ≤ R 8; omega, by show (0 : Int) ≤ 0 ∧ (0 : Int) ≤ 17; omega, ht, fun _ => ?_⟩
    show ∃ q, R 7 ≤ q ∧ q < R 7 + ((R 8 + 1 - R 7).toNat : Int) ∧ es_x R (es_ws w) ((0 : Nat) : Int) (R 7) 0 q = es_dt R (es_ws w)
    rw [e1] at ht ⊢
    exact es_fm_at _ (by omega)
  | i + 1, h => (es_ds_da hr (by omega) (es_dp_da hr ht i (by omega))).1
theorem es_ws_cg {w w' : Nat → Int} (h : ∀ j : Nat, j < 13 → w j = w' j) : es_ws w = es_ws w' := by
  funext s v
  unfold es_ws
  by_cases c : v < 0 ∨ 13 ≤ max s (-s)
  · rw [if_pos c, if_pos c]
  · rw [if_neg c, if_neg c, h _ (by omega)]
theorem es_wt_rng {a m : Int} (ha : 0 ≤ a ∧ a ≤ 20000) (hm : 0 ≤ m ∧ m ≤ 20000) : 0 ≤ es_wt a m ∧ es_wt a m ≤ 1000000 := by
  unfold es_wt
  split
  · omega
  · have h1 := Int.ediv_le_self (a := 10 * m) a (by omega)
    have h2 := Int.ediv_nonneg (a := 10 * m) (b := a) (by omega) (by omega)
    omega
theorem es_mf_fd {f : Int → Int} {a : Int} : ∀ m : Nat, es_mf f a m = es_fd es_om (-1) f a m
  | 0 => rfl
  | m + 1 => by
    show max (es_mf f a m) (f (a + m)) = max (es_fd es_om (-1) f a m) (f (a + m))
    rw [es_mf_fd m]
