theorem la_loop {L : Nat} {xs : Nat → Int32} (hL : L ≤ 2560) : ∀ (m n : Nat) (I : am_I) (i : Int), es_rel n I → i = 5 * (n : Int) → i ≤ (L : Int) → (L : Int) - i < (m : Int) → la_V L xs 18 [(0, .inr (.inr 65)), (1, .inr (.inr 0)), (2, .inr (.inr 44)), (3, .inl i)] [] I := by
  intro m
  induction m with
  | zero => intro n I i h0 hi h1 h2; omega
  | succ m ih =>
    intro n I i h0 hi h1 h2
    refine la_gp oy_la_h 2 [] rfl True.intro ?_
    refine la_slen oy_la_h rfl ?_
    refine la_gp oy_la_h 2 [] rfl True.intro ?_
    refine la_br oy_la_h rfl (by omega) (fun h => ?_) (fun h => ?_)
    · refine la_gp oy_la_h 1 [] rfl True.intro ?_
      exact la_rt oy_la_h rfl
    · obtain ⟨x0, hx0, rx0⟩ := la_x xs i.toNat
      have hi5 : 0 ≤ i ∧ i + 5 ≤ (L : Int) := by omega
      have hn : n ≤ 800 := by omega
      have kk : ∀ I2, es_rel (n + 1) I2 → la_V L xs 893 [(0, .inr (.inr 65)), (1, .inr (.inr 0)), (2, .inr (.inr 44)), (3, .inl i)] [] I2 := by
        intro I2 hr
        refine la_gp oy_la_h 2 [18] rfl True.intro ?_
        exact ih (n + 1) I2 (i + 5) hr (by omega) (by omega) (by omega)
      refine la_gp oy_la_h 2 [] rfl True.intro ?_
      refine la_sld oy_la_h rfl hL (by omega) hx0 ?_
      refine la_gp oy_la_h 2 [] rfl True.intro ?_
      have hr := am_and_rng x0 31
      refine la_sw [148, 181, 194, 227, 270, 303, 336, 350, 403, 417, 450, 499, 513, 566, 589, 602, 635, 649, 722, 735, 748, 781, 804, 847, 870] 893 oy_la_h rfl rfl rfl rfl hr ?_ (fun h => kk I (es_rel_s h0))
      exact ⟨fun _ => la_c0 h0 hn hL hi5 kk, fun _ => la_c1 h0 hn hL hi5 kk, fun _ => la_c2 h0 hn hL hi5 kk, fun _ => la_c3 h0 hn hL hi5 kk, fun _ => la_c4 h0 hn hL hi5 kk, fun _ => la_c5 h0 hn hL hi5 kk, fun _ => la_c6 h0 hn hL hi5 kk, fun _ => la_c7 h0 hn hL hi5 kk, fun _ => la_c8 h0 hn hL hi5 kk, fun _ => la_c9 h0 hn hL hi5 kk, fun _ => la_c10 h0 hn hL hi5 kk, fun _ => la_c11 h0 hn hL hi5 kk, fun _ => la_c12 h0 hn hL hi5 kk, fun _ => la_c13 h0 hn hL hi5 kk, fun _ => la_c14 h0 hn hL hi5 kk, fun _ => la_c15 h0 hn hL hi5 kk, fun _ => la_c16 h0 hn hL hi5 kk, fun _ => la_c17 h0 hn hL hi5 kk, fun _ => la_c18 h0 hn hL hi5 kk, fun _ => la_c19 h0 hn hL hi5 kk, fun _ => la_c20 h0 hn hL hi5 kk, fun _ => la_c21 h0 hn hL hi5 kk, fun _ => la_c22 h0 hn hL hi5 kk, fun _ => la_c23 h0 hn hL hi5 kk, fun _ => la_c24 h0 hn hL hi5 kk, True.intro⟩
