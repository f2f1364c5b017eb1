noncomputable def es_go (S : Int → Prop) (beat all left t l : Int) : Int := if left ≤ 0 then 0 else es_if (t % beat + l ≤ beat) (es_F S beat all (left - 1).toNat (t + l)) 0
theorem es_go_D (S : Int → Prop) (beat all left t l : Int) : es_Dc (es_go S beat all left t l) := by
  unfold es_go
  split
  · unfold es_Dc; omega
  · by_cases c : t % beat + l ≤ beat
    · rw [es_if_t c]; exact es_F_D _ _
    · rw [es_if_f c]; unfold es_Dc; omega
def es_rw (T : Nat → Int) (S : Int → Prop) (beat all k : Int) : Prop := ∀ t : Int, 0 ≤ t → t ≤ all → T (k * 577 + t).toNat = es_F S beat all k.toNat t
theorem es_fill_val {J : am_I} (hs : es_srt J) {beat all left t : Int} (hl : 0 ≤ left) (ht : t ≠ all) : es_fd es_oc 0 (fun i => es_go (es_Sc J) beat all left t (J 15 i.toNat)) 0 (J 14 1).toNat = es_F (es_Sc J) beat all left.toNat t := by
  obtain ⟨s1, s2, s3⟩ := hs
  by_cases c : left = 0
  · rw [c]
    show _ = es_F (es_Sc J) beat all 0 t
    rw [es_F_z ht]
    refine es_fd_e es_mc _ (fun x _ _ => ?_)
    show es_go (es_Sc J) beat all 0 t (J 15 x.toNat) = 0
    unfold es_go
    exact if_pos (by omega)
  · rw [show left.toNat = (left - 1).toNat + 1 by omega, es_F_on _ ht]
    rw [es_Sc_fd (g := fun l => es_go (es_Sc J) beat all left t l) (L := fun i => J 15 i.toNat) (fun l => es_go_D _ _ _ _ _ _) 96 (J 14 1).toNat (fun i h1 h2 => s2 i.toNat (by omega)) (fun i j h1 h2 h3 => s3 i.toNat j.toNat (by omega) (by omega))]
    refine es_fd_cg 96 (fun x h1 h2 => ?_)
    show es_if (∃ i : Int, (0 ≤ i ∧ i < ((J 14 1).toNat : Int)) ∧ J 15 i.toNat = x) (es_go (es_Sc J) beat all left t x) 0 = es_rf (es_Sc J) beat all (left - 1).toNat t x
    unfold es_rf es_go
    rw [if_neg (by omega)]
    by_cases c1 : es_Sc J x
    · obtain ⟨c2, i, c3, c4⟩ := id c1
      rw [es_if_t ⟨(i : Int), by omega, by rw [show (i : Int).toNat = i by omega]; exact c4⟩]
      exact es_if_c ⟨fun z => ⟨c1, z⟩, fun z => z.2⟩
    · have z1 : es_if (es_Sc J x ∧ t % beat + x ≤ beat) (es_F (es_Sc J) beat all (left - 1).toNat (t + x)) 0 = 0 := es_if_f (fun z => c1 z.1)
      rw [z1]
      refine es_if_f ?_
      rintro ⟨i, h3, h4⟩
      exact c1 ⟨by omega, i.toNat, by omega, h4⟩
theorem c_me_put (d : Nat) (p t v : Int) (I : am_I) (hi : 0 ≤ p * 577 + t ∧ p * 577 + t < 14425) : am_C (d + 1) Y_me_put [.inr (.inr 14), .inl p, .inl t, .inr (.inl v)] I (fun r I' => r = none ∧ I' = am_u I 16 (p * 577 + t).toNat v) := by
  refine am_enter ok_me_put rfl ?_
  repeat' (first
    | (refine am_gp 80 [] rfl (by first | trivial | exact Or.inl rfl | exact Or.inr rfl | (simp (decide := true) only [am_p, am_u_at, am_u_j, am_u_ne]; omega) | (simp (decide := true) only [am_p, and_true, true_and, true_or, or_true, am_u_at, am_u_j, am_u_ne]; omega) | (simp (decide := true) [am_p, am_u_at, am_u_j, am_u_ne]; omega)) ?_)
    | (show am_V _ _ _ _ _ _ _; simp only [Int.reduceToNat])
    | (refine am_bt rfl (by first | omega | (simp (decide := true) only [am_u_at, am_u_j, am_u_ne]; omega)) (by first | omega | (simp (decide := true) only [am_u_at, am_u_j, am_u_ne]; omega)) ?_)
    | (refine am_bf rfl (by first | omega | (simp (decide := true) only [am_u_at, am_u_j, am_u_ne]; omega)) (by first | omega | (simp (decide := true) only [am_u_at, am_u_j, am_u_ne]; omega)) ?_)
    | (refine am_br rfl (by first | omega | (simp (decide := true) only [am_u_at, am_u_j, am_u_ne]; omega)) (fun h => ?_) (fun h => ?_))
    | (refine am_cN (y' := Y_es_outside) rfl lk_me_49 ok_es_outside rfl rfl (c_outside _ _ _ _ _ (by first | omega | (simp (decide := true) only [am_u_at, am_u_j, am_u_ne]; omega)) (by first | omega | (simp (decide := true) only [am_u_at, am_u_j, am_u_ne]; omega)) (by first | omega | (simp (decide := true) only [am_u_at, am_u_j, am_u_ne]; omega))) ?_; rintro r I ⟨rfl, (⟨rfl, h⟩ | ⟨rfl, h⟩)⟩ <;> (try (exfalso; omega)))
    | (refine am_rt rfl (by first | trivial | exact Or.inl rfl | exact Or.inr rfl) ?_))
  exact ⟨rfl, rfl⟩
theorem c_me_on (d : Nat) (left t room l : Int) (I : am_I) (S : Int → Prop) (beat all : Int) (hroom : room = beat - t % beat) (hl : 1 ≤ l ∧ l ≤ 96) (hleft : 0 ≤ left ∧ left ≤ 24) (ht : 0 ≤ t ∧ t < all) (hall : all ≤ 576) (hb : 1 ≤ beat ∧ beat ≤ 96) (hm : 0 ≤ t % beat ∧ t % beat < beat) (hbar : t % beat + l ≤ beat → t + l ≤ all) (hrow : 0 < left → es_rw (I 16) S beat all (left - 1)) : am_C (d + 1) Y_me_onward [.inr (.inr 14), .inl left, .inl t, .inl room, .inl l] I (fun r I' => I' = I ∧ r = some (.inr (.inl (es_go S beat all left t l)))) := by
  refine am_enter ok_me_onward rfl ?_
  have hrow2 : 0 < left → t % beat + l ≤ beat → I 16 ((left - 1) * 577 + t + l).toNat = es_F S beat all (left - 1).toNat (t + l) := by
    intro h1 h2
    have h5 := hrow h1 (t + l) (by omega) (hbar h2)
    rw [show (left - 1) * 577 + (t + l) = (left - 1) * 577 + t + l by omega] at h5
    exact h5
  unfold es_go
  clear hrow
  repeat' (first
    | (refine am_gp 80 [] rfl (by first | trivial | exact Or.inl rfl | exact Or.inr rfl | (simp (decide := true) only [am_p, am_u_at, am_u_j, am_u_ne]; omega) | (simp (decide := true) only [am_p, and_true, true_and, true_or, or_true, am_u_at, am_u_j, am_u_ne]; omega) | (simp (decide := true) [am_p, am_u_at, am_u_j, am_u_ne]; omega)) ?_)
    | (show am_V _ _ _ _ _ _ _; simp only [Int.reduceToNat])
    | (refine am_bt rfl (by first | omega | (simp (decide := true) only [am_u_at, am_u_j, am_u_ne]; omega)) (by first | omega | (simp (decide := true) only [am_u_at, am_u_j, am_u_ne]; omega)) ?_)
    | (refine am_bf rfl (by first | omega | (simp (decide := true) only [am_u_at, am_u_j, am_u_ne]; omega)) (by first | omega | (simp (decide := true) only [am_u_at, am_u_j, am_u_ne]; omega)) ?_)
    | (refine am_br rfl (by first | omega | (simp (decide := true) only [am_u_at, am_u_j, am_u_ne]; omega)) (fun h => ?_) (fun h => ?_))
    | (refine am_cN (y' := Y_es_outside) rfl lk_me_49 ok_es_outside rfl rfl (c_outside _ _ _ _ _ (by first | omega | (simp (decide := true) only [am_u_at, am_u_j, am_u_ne]; omega)) (by first | omega | (simp (decide := true) only [am_u_at, am_u_j, am_u_ne]; omega)) (by first | omega | (simp (decide := true) only [am_u_at, am_u_j, am_u_ne]; omega))) ?_; rintro r I ⟨rfl, (⟨rfl, h⟩ | ⟨rfl, h⟩)⟩ <;> (try (exfalso; omega)))
    | (refine am_rt rfl (by first | trivial | exact Or.inl rfl | exact Or.inr rfl) ?_))
  · exact ⟨rfl, by rw [if_pos (by omega)]⟩
  · refine ⟨rfl, ?_⟩
    rw [if_neg (by omega), es_if_t (by omega), hrow2 (by omega) (by omega)]
  · exact ⟨rfl, by rw [if_neg (by omega), es_if_f (by omega)]⟩
def es_mb (J : am_I) : Prop := (1 ≤ J 14 2 ∧ J 14 2 ≤ 6) ∧ (1 ≤ J 14 3 ∧ J 14 3 ≤ 96) ∧ es_srt J
theorem c_me_fillBar (d : Nat) (left start : Int) (I0 J : am_I) (h14 : I0 14 = J 14) (h15 : I0 15 = J 15) (hmb : es_mb J) (hleft : 0 ≤ left ∧ left ≤ 24) (hst : 0 ≤ start ∧ start + J 14 3 ≤ J 14 2 * J 14 3) (hmod : ∀ g : Int, 0 ≤ g → g < J 14 3 → (start + g) % J 14 3 = g) (hv : ∀ j : Nat, 0 ≤ I0 16 j ∧ I0 16 j ≤ 1000000000000000000) (hrow : 0 < left → es_rw (I0 16) (es_Sc J) (J 14 3) (J 14 2 * J 14 3) (left - 1)) : am_C (d + 3) Y_me_fillBar [.inr (.inr 14), .inl left, .inl start] I0 (fun r I' => r = none ∧ am_fr I0 I' [16] ∧ (∀ j : Nat, ¬ (left * 577 + start ≤ j ∧ (j : Int) < left * 577 + start + J 14 3) → I' 16 j = I0 16 j) ∧ (∀ g : Int, 0 ≤ g → g < J 14 3 → I' 16 (left * 577 + (start + g)).toNat = es_F (es_Sc J) (J 14 3) (J 14 2 * J 14 3) left.toNat (start + g)) ∧ (∀ j : Nat, 0 ≤ I' 16 j ∧ I' 16 j ≤ 1000000000000000000)) := by
  refine am_enter ok_me_fillBar rfl ?_
  obtain ⟨m1, m2, m3⟩ := id hmb
  have hall := es_all m1 m2
  obtain ⟨s1, s2, s3⟩ := id m3
  have loopg : ∀ (m : Nat) (g : Int) (I : am_I), 0 ≤ g → g ≤ J 14 3 → J 14 3 - g < m → am_fr I0 I [16] → (∀ j : Nat, ¬ (left * 577 + start ≤ j ∧ (j : Int) < left * 577 + start + J 14 3) → I 16 j = I0 16 j) → (∀ x : Int, 0 ≤ x → x < g → I 16 (left * 577 + (start + x)).toNat = es_F (es_Sc J) (J 14 3) (J 14 2 * J 14 3) left.toNat (start + x)) → (∀ j : Nat, 0 ≤ I 16 j ∧ I 16 j ≤ 1000000000000000000) → am_V (d + 3) Y_me_fillBar (fun r I' => r = none ∧ am_fr I0 I' [16] ∧ (∀ j : Nat, ¬ (left * 577 + start ≤ j ∧ (j : Int) < left * 577 + start + J 14 3) → I' 16 j = I0 16 j) ∧ (∀ g : Int, 0 ≤ g → g < J 14 3 → I' 16 (left * 577 + (start + g)).toNat = es_F (es_Sc J) (J 14 3) (J 14 2 * J 14 3) left.toNat (start + g)) ∧ (∀ j : Nat, 0 ≤ I' 16 j ∧ I' 16 j ≤ 1000000000000000000)) 2 [(0, .inr (.inr 14)), (1, .inl left), (2, .inl start), (3, .inl g)] [] I := by
    intro m
    induction m with
    | zero => intro g I h1 h2 h3; omega
    | succ m ih =>
      intro g I h1 h2 h3 hf hou hin hvI
      have e14 : I 14 = J 14 := (hf 14 rfl).trans h14
      have e15 : I 15 = J 15 := (hf 15 rfl).trans h15
      have b1 : I 14 1 = J 14 1 := congrFun e14 1
      have b3 : I 14 3 = J 14 3 := congrFun e14 3
      have hrowI : 0 < left → es_rw (I 16) (es_Sc J) (J 14 3) (J 14 2 * J 14 3) (left - 1) := by
        intro hl t ht1 ht2
        rw [hou _ (by omega)]
        exact hrow hl t ht1 ht2
      have loopk : ∀ (n k : Nat), g < J 14 3 → (k : Int) ≤ J 14 1 → J 14 1 - k < n → am_V (d + 3) Y_me_fillBar (fun r I' => r = none ∧ am_fr I0 I' [16] ∧ (∀ j : Nat, ¬ (left * 577 + start ≤ j ∧ (j : Int) < left * 577 + start + J 14 3) → I' 16 j = I0 16 j) ∧ (∀ g : Int, 0 ≤ g → g < J 14 3 → I' 16 (left * 577 + (start + g)).toNat = es_F (es_Sc J) (J 14 3) (J 14 2 * J 14 3) left.toNat (start + g)) ∧ (∀ j : Nat, 0 ≤ I' 16 j ∧ I' 16 j ≤ 1000000000000000000)) 16 [(0, .inr (.inr 14)), (1, .inl left), (2, .inl start), (3, .inl g), (4, .inr (.inl (es_fd es_oc 0 (fun i => es_go (es_Sc J) (J 14 3) (J 14 2 * J 14 3) left (start + g) (J 15 i.toNat)) 0 k))), (6, .inl k)] [] I := by
        intro n
        induction n with
        | zero => intro k g1 g2 g3; omega
        | succ n ihk =>
          intro k g1 g2 g3
          have hmg := hmod g h1 g1
          have hk := es_fc_D (f := fun i => es_go (es_Sc J) (J 14 3) (J 14 2 * J 14 3) left (start + g) (J 15 i.toNat)) (fun i => es_go_D _ _ _ _ _ _) 0 k
          have hgd := es_go_D (es_Sc J) (J 14 3) (J 14 2 * J 14 3) left (start + g) (I 15 (k : Int).toNat)
          unfold es_Dc at hgd
          have hlk : (k : Int) < J 14 1 → 1 ≤ I 15 (k : Int).toNat ∧ I 15 (k : Int).toNat ≤ 96 := by
            intro h
            rw [e15]
            exact s2 (k : Int).toNat (by omega)
          have e9 : es_fd es_oc 0 (fun i => es_go (es_Sc J) (J 14 3) (J 14 2 * J 14 3) left (start + g) (J 15 i.toNat)) 0 (k + 1) = es_oc (es_fd es_oc 0 (fun i => es_go (es_Sc J) (J 14 3) (J 14 2 * J 14 3) left (start + g) (J 15 i.toNat)) 0 k) (es_go (es_Sc J) (J 14 3) (J 14 2 * J 14 3) left (start + g) (I 15 (k : Int).toNat)) := by
            show es_oc _ (es_go (es_Sc J) (J 14 3) (J 14 2 * J 14 3) left (start + g) (J 15 (0 + (k : Int)).toNat)) = _
            rw [show 0 + (k : Int) = k by omega, e15]
          refine am_go 1 [] rfl trivial ?_
          repeat' (first
            | (refine am_gp 80 [2, 16] rfl (by first | trivial | exact Or.inl rfl | exact Or.inr rfl | (simp (decide := true) only [am_p, am_u_at, am_u_j, am_u_ne]; omega) | (simp (decide := true) only [am_p, and_true, true_and, true_or, or_true, am_u_at, am_u_j, am_u_ne]; omega) | (simp (decide := true) [am_p, am_u_at, am_u_j, am_u_ne]; omega)) ?_)
            | (show am_V _ _ _ _ _ _ _; simp only [Int.reduceToNat])
            | (refine am_bt rfl (by first | omega | (simp (decide := true) only [am_u_at, am_u_j, am_u_ne]; omega)) (by first | omega | (simp (decide := true) only [am_u_at, am_u_j, am_u_ne]; omega)) ?_)
            | (refine am_bf rfl (by first | omega | (simp (decide := true) only [am_u_at, am_u_j, am_u_ne]; omega)) (by first | omega | (simp (decide := true) only [am_u_at, am_u_j, am_u_ne]; omega)) ?_)
            | (refine am_br rfl (by first | omega | (simp (decide := true) only [am_u_at, am_u_j, am_u_ne]; omega)) (fun h => ?_) (fun h => ?_))
            | (refine am_cV (y' := Y_me_onward) rfl lk_me_41 ok_me_onward rfl rfl rfl (c_me_on _ _ _ _ _ _ (es_Sc J) (J 14 3) (J 14 2 * J 14 3) (by first | omega | (simp (decide := true) only [am_u_at, am_u_j, am_u_ne]; omega)) (by first | omega | (simp (decide := true) only [am_u_at, am_u_j, am_u_ne]; omega)) (by first | omega | (simp (decide := true) only [am_u_at, am_u_j, am_u_ne]; omega)) (by first | omega | (simp (decide := true) only [am_u_at, am_u_j, am_u_ne]; omega)) (by first | omega | (simp (decide := true) only [am_u_at, am_u_j, am_u_ne]; omega)) (by first | omega | (simp (decide := true) only [am_u_at, am_u_j, am_u_ne]; omega)) (by first | omega | (simp (decide := true) only [am_u_at, am_u_j, am_u_ne]; omega)) (fun z => by omega) (by assumption)) ?_; rintro r I ⟨rfl, rfl⟩)
            | (refine am_cN (y' := Y_es_cappedSum) rfl lk_me_45 ok_es_cappedSum rfl rfl (c_capped _ _ _ _ (by first | omega | (simp (decide := true) only [am_u_at, am_u_j, am_u_ne]; omega)) (by first | omega | (simp (decide := true) only [am_u_at, am_u_j, am_u_ne]; omega))) ?_; rintro r I ⟨rfl, rfl⟩)
            | (refine am_cV (y' := Y_me_put) rfl lk_me_37 ok_me_put rfl rfl rfl (c_me_put _ _ _ _ _ (by first | omega | (simp (decide := true) only [am_u_at, am_u_j, am_u_ne]; omega))) ?_; rintro r I ⟨rfl, rfl⟩)
            | (refine am_rt rfl (by first | trivial | exact Or.inl rfl | exact Or.inr rfl) ?_))
          · refine am_wk [4, 6] ?_
            have ek : k = (J 14 1).toNat := by omega
            have hval := es_fill_val m3 (beat := J 14 3) (all := J 14 2 * J 14 3) (left := left) (t := start + g) hleft.1 (by omega)
            rw [← ek] at hval
            refine ih (g + 1) _ (by omega) (by omega) (by omega) (hf.u _ _ rfl) ?_ ?_ ?_
            · intro j hj
              rw [am_u_eq, am_up_ne (by omega)]
              exact hou j hj
            · intro x x1 x2
              rw [am_u_eq]
              by_cases c : x = g
              · rw [c, am_up_eq]
                exact hval
              · rw [am_up_ne (by omega)]
                exact hin x x1 (by omega)
            · intro j
              rw [am_u_eq]
              by_cases c : j = (left * 577 + (start + g)).toNat
              · rw [c, am_up_eq]
                exact hk
              · rw [am_up_ne c]
                exact hvI j
          · have h9 := ihk (k + 1) g1 (by omega) (by omega)
            rw [e9, show ((k + 1 : Nat) : Int) = (k : Int) + 1 by omega] at h9
            exact h9
      refine am_go 1 [] rfl trivial ?_
      repeat' (first
        | (refine am_gp 80 [16] rfl (by first | trivial | exact Or.inl rfl | exact Or.inr rfl | (simp (decide := true) only [am_p, am_u_at, am_u_j, am_u_ne]; omega) | (simp (decide := true) only [am_p, and_true, true_and, true_or, or_true, am_u_at, am_u_j, am_u_ne]; omega) | (simp (decide := true) [am_p, am_u_at, am_u_j, am_u_ne]; omega)) ?_)
        | (show am_V _ _ _ _ _ _ _; simp only [Int.reduceToNat])
        | (refine am_bt rfl (by first | omega | (simp (decide := true) only [am_u_at, am_u_j, am_u_ne]; omega)) (by first | omega | (simp (decide := true) only [am_u_at, am_u_j, am_u_ne]; omega)) ?_)
        | (refine am_bf rfl (by first | omega | (simp (decide := true) only [am_u_at, am_u_j, am_u_ne]; omega)) (by first | omega | (simp (decide := true) only [am_u_at, am_u_j, am_u_ne]; omega)) ?_)
        | (refine am_br rfl (by first | omega | (simp (decide := true) only [am_u_at, am_u_j, am_u_ne]; omega)) (fun h => ?_) (fun h => ?_))
        | (refine am_rt rfl (by first | trivial | exact Or.inl rfl | exact Or.inr rfl) ?_))
      · have eg : g = J 14 3 := by omega
        exact ⟨rfl, hf, hou, fun x x1 x2 => hin x x1 (by omega), hvI⟩
      · exact loopk 8 0 (by omega) (by omega) (by omega)
  repeat' (first
    | (refine am_gp 80 [2] rfl (by first | trivial | exact Or.inl rfl | exact Or.inr rfl | (simp (decide := true) only [am_p, am_u_at, am_u_j, am_u_ne]; omega) | (simp (decide := true) only [am_p, and_true, true_and, true_or, or_true, am_u_at, am_u_j, am_u_ne]; omega) | (simp (decide := true) [am_p, am_u_at, am_u_j, am_u_ne]; omega)) ?_)
    | (show am_V _ _ _ _ _ _ _; simp only [Int.reduceToNat])
    | (refine am_bt rfl (by first | omega | (simp (decide := true) only [am_u_at, am_u_j, am_u_ne]; omega)) (by first | omega | (simp (decide := true) only [am_u_at, am_u_j, am_u_ne]; omega)) ?_)
    | (refine am_bf rfl (by first | omega | (simp (decide := true) only [am_u_at, am_u_j, am_u_ne]; omega)) (by first | omega | (simp (decide := true) only [am_u_at, am_u_j, am_u_ne]; omega)) ?_)
    | (refine am_br rfl (by first | omega | (simp (decide := true) only [am_u_at, am_u_j, am_u_ne]; omega)) (fun h => ?_) (fun h => ?_))
    | (refine am_rt rfl (by first | trivial | exact Or.inl rfl | exact Or.inr rfl) ?_))
  exact loopg 98 0 I0 (by omega) (by omega) (by omega) am_fr.rf (fun j _ => rfl) (fun x x1 x2 => by omega) hv
theorem es_bm {b g n : Int} (h1 : 0 ≤ g) (h2 : g < b) : (n * b + g) % b = g := by
  rw [Int.add_comm, Int.add_mul_emod_self_right]
  exact Int.emod_eq_of_lt h1 h2
theorem es_bl {b n m : Int} (h1 : n < m) (hb : 0 ≤ b) : n * b + b ≤ m * b := by
  have e3 : (n + 1) * b ≤ m * b := Int.mul_le_mul_of_nonneg_right (by omega) hb
  rw [Int.add_mul, Int.one_mul] at e3
  exact e3
theorem c_me_fill (d : Nat) (I0 : am_I) (hmb : es_mb I0) (hv : ∀ j : Nat, 0 ≤ I0 16 j ∧ I0 16 j ≤ 1000000000000000000) (hfl : I0 14 4 = 0 ∨ (I0 14 4 = 1 ∧ ∀ k : Int, 0 ≤ k → k ≤ 24 → es_rw (I0 16) (es_Sc I0) (I0 14 3) (I0 14 2 * I0 14 3) k)) : am_C (d + 4) Y_me_fill [.inr (.inr 14)] I0 (fun r I' => r = none ∧ am_fr I0 I' [14, 16] ∧ I' 14 = am_up (I0 14) 4 1 ∧ (∀ j : Nat, 0 ≤ I' 16 j ∧ I' 16 j ≤ 1000000000000000000) ∧ ∀ k : Int, 0 ≤ k → k ≤ 24 → es_rw (I' 16) (es_Sc I0) (I0 14 3) (I0 14 2 * I0 14 3) k) := by
  refine am_enter ok_me_fill rfl ?_
  obtain ⟨m1, m2, m3⟩ := id hmb
  have hall := es_all m1 m2
  have loopl : ∀ (m : Nat) (left : Int) (I : am_I), 0 ≤ left → left ≤ 25 → 25 - left < m → am_fr I0 I [16] → (∀ k : Int, 0 ≤ k → k < left → es_rw (I 16) (es_Sc I0) (I0 14 3) (I0 14 2 * I0 14 3) k) → (∀ j : Nat, 0 ≤ I 16 j ∧ I 16 j ≤ 1000000000000000000) → am_V (d + 4) Y_me_fill (fun r I' => r = none ∧ am_fr I0 I' [14, 16] ∧ I' 14 = am_up (I0 14) 4 1 ∧ (∀ j : Nat, 0 ≤ I' 16 j ∧ I' 16 j ≤ 1000000000000000000) ∧ ∀ k : Int, 0 ≤ k → k ≤ 24 → es_rw (I' 16) (es_Sc I0) (I0 14 3) (I0 14 2 * I0 14 3) k) 10 [(0, .inr (.inr 14)), (1, .inl left)] [] I := by
    intro m
    induction m with
    | zero => intro left I h1 h2 h3; omega
    | succ m ih =>
      intro left I h1 h2 h3 hf hrw hvI
      have loopb : ∀ (n : Nat) (b : Int) (I : am_I), left ≤ 24 → 0 ≤ b → b ≤ I0 14 2 → I0 14 2 - b < n → am_fr I0 I [16] → (∀ k : Int, 0 ≤ k → k < left → es_rw (I 16) (es_Sc I0) (I0 14 3) (I0 14 2 * I0 14 3) k) → (∀ t : Int, 0 ≤ t → t < b * I0 14 3 → I 16 (left * 577 + t).toNat = es_F (es_Sc I0) (I0 14 3) (I0 14 2 * I0 14 3) left.toNat t) → (∀ j : Nat, 0 ≤ I 16 j ∧ I 16 j ≤ 1000000000000000000) → am_V (d + 4) Y_me_fill (fun r I' => r = none ∧ am_fr I0 I' [14, 16] ∧ I' 14 = am_up (I0 14) 4 1 ∧ (∀ j : Nat, 0 ≤ I' 16 j ∧ I' 16 j ≤ 1000000000000000000) ∧ ∀ k : Int, 0 ≤ k → k ≤ 24 → es_rw (I' 16) (es_Sc I0) (I0 14 3) (I0 14 2 * I0 14 3) k) 18 [(0, .inr (.inr 14)), (1, .inl left), (2, .inl b)] [] I := by
        intro n
        induction n with
        | zero => intro b I g0 g1 g2 g3; omega
        | succ n ihb =>
          intro b I g0 g1 g2 g3 hf hrw hin hvI
          have e14 : I 14 = I0 14 := hf 14 rfl
          have e15 : I 15 = I0 15 := hf 15 rfl
          have b2 : I 14 2 = I0 14 2 := congrFun e14 2
          have b3 : I 14 3 = I0 14 3 := congrFun e14 3
          have hb0 : 0 ≤ b * I0 14 3 := Int.mul_nonneg g1 (by omega)
          have hbl : b < I0 14 2 → b * I0 14 3 + I0 14 3 ≤ I0 14 2 * I0 14 3 := fun h => es_bl h (by omega)
          have hmod : ∀ g : Int, 0 ≤ g → g < I0 14 3 → (b * I 14 3 + g) % I0 14 3 = g := by
            rw [b3]
            exact fun g h4 h5 => es_bm h4 h5
          have hbI : b * I 14 3 = b * I0 14 3 := by rw [b3]
          have hpI : I 14 2 * I 14 3 = I0 14 2 * I0 14 3 := by rw [b2, b3]
          have hrow : 0 < left → es_rw (I 16) (es_Sc I0) (I0 14 3) (I0 14 2 * I0 14 3) (left - 1) := fun h => hrw _ (by omega) (by omega)
          refine am_go 1 [] rfl trivial ?_
          repeat' (first
            | (refine am_gp 80 [26, 43] rfl (by first | trivial | exact Or.inl rfl | exact Or.inr rfl | (simp (decide := true) only [am_p, am_u_at, am_u_j, am_u_ne]; omega) | (simp (decide := true) only [am_p, and_true, true_and, true_or, or_true, am_u_at, am_u_j, am_u_ne]; omega) | (simp (decide := true) [am_p, am_u_at, am_u_j, am_u_ne]; omega)) ?_)
            | (show am_V _ _ _ _ _ _ _; simp only [Int.reduceToNat])
            | (refine am_bt rfl (by first | omega | (simp (decide := true) only [am_u_at, am_u_j, am_u_ne]; omega)) (by first | omega | (simp (decide := true) only [am_u_at, am_u_j, am_u_ne]; omega)) ?_)
            | (refine am_bf rfl (by first | omega | (simp (decide := true) only [am_u_at, am_u_j, am_u_ne]; omega)) (by first | omega | (simp (decide := true) only [am_u_at, am_u_j, am_u_ne]; omega)) ?_)
            | (refine am_br rfl (by first | omega | (simp (decide := true) only [am_u_at, am_u_j, am_u_ne]; omega)) (fun h => ?_) (fun h => ?_))
            | (refine am_rt rfl (by first | trivial | exact Or.inl rfl | exact Or.inr rfl) ?_))
          · refine am_wk [2] ?_
            have eb : b = I0 14 2 := by omega
            repeat' (first
              | (refine am_gp 80 [10] rfl (by first | trivial | exact Or.inl rfl | exact Or.inr rfl | (simp (decide := true) only [am_p, am_u_at, am_u_j, am_u_ne]; omega) | (simp (decide := true) only [am_p, and_true, true_and, true_or, or_true, am_u_at, am_u_j, am_u_ne]; omega) | (simp (decide := true) [am_p, am_u_at, am_u_j, am_u_ne]; omega)) ?_)
              | (show am_V _ _ _ _ _ _ _; simp only [Int.reduceToNat])
              | (refine am_bt rfl (by first | omega | (simp (decide := true) only [am_u_at, am_u_j, am_u_ne]; omega)) (by first | omega | (simp (decide := true) only [am_u_at, am_u_j, am_u_ne]; omega)) ?_)
              | (refine am_bf rfl (by first | omega | (simp (decide := true) only [am_u_at, am_u_j, am_u_ne]; omega)) (by first | omega | (simp (decide := true) only [am_u_at, am_u_j, am_u_ne]; omega)) ?_)
              | (refine am_br rfl (by first | omega | (simp (decide := true) only [am_u_at, am_u_j, am_u_ne]; omega)) (fun h => ?_) (fun h => ?_))
              | (refine am_cV (y' := Y_me_put) rfl lk_me_37 ok_me_put rfl rfl rfl (c_me_put _ _ _ _ _ (by first | omega | (simp (decide := true) only [am_u_at, am_u_j, am_u_ne]; omega))) ?_; rintro r I ⟨rfl, rfl⟩)
              | (refine am_rt rfl (by first | trivial | exact Or.inl rfl | exact Or.inr rfl) ?_))
            rw [hpI]
            refine ih (left + 1) _ (by omega) (by omega) (by omega) (hf.u _ _ rfl) ?_ ?_
            · intro k k1 k2 t t1 t2
              rw [am_u_eq]
              by_cases c : k = left
              · rw [c]
                by_cases c2 : t = I0 14 2 * I0 14 3
                · rw [c2, am_up_eq, es_F_all]
                · rw [am_up_ne (by omega)]
                  exact hin t t1 (by rw [eb]; omega)
              · rw [am_up_ne (by omega)]
                exact hrw k k1 (by omega) t t1 t2
            · intro j
              rw [am_u_eq]
              by_cases c : j = (left * 577 + I0 14 2 * I0 14 3).toNat
              · rw [c, am_up_eq]
                omega
              · rw [am_up_ne c]
                exact hvI j
          · have hbl2 := hbl (by omega)
            repeat' (first
              | (refine am_gp 80 [18] rfl (by first | trivial | exact Or.inl rfl | exact Or.inr rfl | (simp (decide := true) only [am_p, am_u_at, am_u_j, am_u_ne]; omega) | (simp (decide := true) only [am_p, and_true, true_and, true_or, or_true, am_u_at, am_u_j, am_u_ne]; omega) | (simp (decide := true) [am_p, am_u_at, am_u_j, am_u_ne]; omega)) ?_)
              | (show am_V _ _ _ _ _ _ _; simp only [Int.reduceToNat])
              | (refine am_bt rfl (by first | omega | (simp (decide := true) only [am_u_at, am_u_j, am_u_ne]; omega)) (by first | omega | (simp (decide := true) only [am_u_at, am_u_j, am_u_ne]; omega)) ?_)
              | (refine am_bf rfl (by first | omega | (simp (decide := true) only [am_u_at, am_u_j, am_u_ne]; omega)) (by first | omega | (simp (decide := true) only [am_u_at, am_u_j, am_u_ne]; omega)) ?_)
              | (refine am_br rfl (by first | omega | (simp (decide := true) only [am_u_at, am_u_j, am_u_ne]; omega)) (fun h => ?_) (fun h => ?_))
              | (refine am_cV (y' := Y_me_fillBar) rfl lk_me_33 ok_me_fillBar rfl rfl rfl (c_me_fillBar _ _ _ _ I0 (by assumption) (by assumption) hmb (by first | omega | (simp (decide := true) only [am_u_at, am_u_j, am_u_ne]; omega)) (by first | omega | (simp (decide := true) only [am_u_at, am_u_j, am_u_ne]; omega)) (by assumption) (by assumption) (by assumption)) ?_; rintro r I ⟨rfl, hfr, hou, hin2, hvn⟩)
              | (refine am_rt rfl (by first | trivial | exact Or.inl rfl | exact Or.inr rfl) ?_))
            rw [hbI] at hou hin2
            have eb1 : (b + 1) * I0 14 3 = b * I0 14 3 + I0 14 3 := by rw [Int.add_mul, Int.one_mul]
            refine ihb (b + 1) _ g0 (by omega) (by omega) (by omega) (hf.tr hfr) ?_ ?_ hvn
            · intro k k1 k2 t t1 t2
              rw [hou _ (by omega)]
              exact hrw k k1 k2 t t1 t2
            · intro t t1 t2
              by_cases c : t < b * I0 14 3
              · rw [hou _ (by omega)]
                exact hin t t1 c
              · have h5 := hin2 (t - b * I0 14 3) (by omega) (by omega)
                rw [show b * I0 14 3 + (t - b * I0 14 3) = t by omega] at h5
                exact h5
      refine am_go 1 [] rfl trivial ?_
      repeat' (first
        | (refine am_gp 80 [18] rfl (by first | trivial | exact Or.inl rfl | exact Or.inr rfl | (simp (decide := true) only [am_p, am_u_at, am_u_j, am_u_ne]; omega) | (simp (decide := true) only [am_p, and_true, true_and, true_or, or_true, am_u_at, am_u_j, am_u_ne]; omega) | (simp (decide := true) [am_p, am_u_at, am_u_j, am_u_ne]; omega)) ?_)
        | (show am_V _ _ _ _ _ _ _; simp only [Int.reduceToNat])
        | (refine am_bt rfl (by first | omega | (simp (decide := true) only [am_u_at, am_u_j, am_u_ne]; omega)) (by first | omega | (simp (decide := true) only [am_u_at, am_u_j, am_u_ne]; omega)) ?_)
        | (refine am_bf rfl (by first | omega | (simp (decide := true) only [am_u_at, am_u_j, am_u_ne]; omega)) (by first | omega | (simp (decide := true) only [am_u_at, am_u_j, am_u_ne]; omega)) ?_)
        | (refine am_br rfl (by first | omega | (simp (decide := true) only [am_u_at, am_u_j, am_u_ne]; omega)) (fun h => ?_) (fun h => ?_))
        | (refine am_rt rfl (by first | trivial | exact Or.inl rfl | exact Or.inr rfl) ?_))
      · refine ⟨rfl, (hf.wd rfl).u _ _ rfl, by rw [am_u_eq, hf 14 rfl], ?_, ?_⟩
        · intro j
          rw [am_u_ne (by decide)]
          exact hvI j
        · intro k k1 k2
          rw [am_u_ne (by decide)]
          exact hrw k k1 (by omega)
      · exact loopb 8 0 I (by omega) (by omega) (by omega) (by omega) hf hrw (fun t t1 t2 => by omega) hvI
  repeat' (first
    | (refine am_gp 80 [10] rfl (by first | trivial | exact Or.inl rfl | exact Or.inr rfl | (simp (decide := true) only [am_p, am_u_at, am_u_j, am_u_ne]; omega) | (simp (decide := true) only [am_p, and_true, true_and, true_or, or_true, am_u_at, am_u_j, am_u_ne]; omega) | (simp (decide := true) [am_p, am_u_at, am_u_j, am_u_ne]; omega)) ?_)
    | (show am_V _ _ _ _ _ _ _; simp only [Int.reduceToNat])
    | (refine am_bt rfl (by first | omega | (simp (decide := true) only [am_u_at, am_u_j, am_u_ne]; omega)) (by first | omega | (simp (decide := true) only [am_u_at, am_u_j, am_u_ne]; omega)) ?_)
    | (refine am_bf rfl (by first | omega | (simp (decide := true) only [am_u_at, am_u_j, am_u_ne]; omega)) (by first | omega | (simp (decide := true) only [am_u_at, am_u_j, am_u_ne]; omega)) ?_)
    | (refine am_br rfl (by first | omega | (simp (decide := true) only [am_u_at, am_u_j, am_u_ne]; omega)) (fun h => ?_) (fun h => ?_))
    | (refine am_rt rfl (by first | trivial | exact Or.inl rfl | exact Or.inr rfl) ?_))
  · exact loopl 27 0 I0 (by omega) (by omega) (by omega) am_fr.rf (fun k k1 k2 => by omega) hv
  · rcases hfl with hfl | hfl
    · omega
    · refine ⟨rfl, am_fr.rf, ?_, hv, hfl.2⟩
      funext j
      by_cases c : j = 4
      · rw [c, am_up_eq]; exact hfl.1
      · rw [am_up_ne c]
theorem c_me_total (d : Nat) (I : am_I) : am_C d Y_me_total [.inr (.inr 14)] I (fun r I' => I' = I ∧ r = some (.inr (.inl (I 16 13848)))) := by
  refine am_enter ok_me_total rfl ?_
  repeat' (first
    | (refine am_gp 80 [] rfl (by first | trivial | exact Or.inl rfl | exact Or.inr rfl | (simp (decide := true) only [am_p, am_u_at, am_u_j, am_u_ne]; omega) | (simp (decide := true) only [am_p, and_true, true_and, true_or, or_true, am_u_at, am_u_j, am_u_ne]; omega) | (simp (decide := true) [am_p, am_u_at, am_u_j, am_u_ne]; omega)) ?_)
    | (show am_V _ _ _ _ _ _ _; simp only [Int.reduceToNat])
    | (refine am_bt rfl (by first | omega | (simp (decide := true) only [am_u_at, am_u_j, am_u_ne]; omega)) (by first | omega | (simp (decide := true) only [am_u_at, am_u_j, am_u_ne]; omega)) ?_)
    | (refine am_bf rfl (by first | omega | (simp (decide := true) only [am_u_at, am_u_j, am_u_ne]; omega)) (by first | omega | (simp (decide := true) only [am_u_at, am_u_j, am_u_ne]; omega)) ?_)
    | (refine am_br rfl (by first | omega | (simp (decide := true) only [am_u_at, am_u_j, am_u_ne]; omega)) (fun h => ?_) (fun h => ?_))
    | (refine am_rt rfl (by first | trivial | exact Or.inl rfl | exact Or.inr rfl) ?_))
  exact ⟨rfl, rfl⟩
