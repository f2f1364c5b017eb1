def es_Lm (I : am_I) (i : Nat) : List (Int × Int × Int) := if i < 6 then es_tl (I 50 i) (I 51 0) (I 51 1) (I 51 2) else []
def es_hm (I : am_I) : Prop := (0 ≤ I 44 20 ∧ I 44 20 ≤ 6) ∧ (0 ≤ I 51 0 ∧ I 51 0 ≤ 116) ∧ (0 ≤ I 51 1 ∧ I 51 1 ≤ 116) ∧ (0 ≤ I 51 2 ∧ I 51 2 ≤ 116) ∧ (0 ≤ I 44 23 ∧ I 44 23 ≤ 12) ∧ ∀ j : Nat, (j : Int) < I 44 20 → es_hb (I 50 j)
def es_r3 (J I : am_I) (q : Nat) : Prop := es_ti (I 57 q) (I 56) (90 * (q : Int)) (es_Lm J q) ∧ ∀ t : Nat, t < (es_Lm J q).length → I 58 (30 * (q : Int) + (t : Int)).toNat = es_cw (J 44 23) (es_Lm J) (J 44 20).toNat ((J 44 20).toNat - 1 - q) t
theorem es_Lm_e {J : am_I} (h : es_hm J) {q : Nat} (hq : (q : Int) < J 44 20) : es_Lm J q = es_tl (J 50 q) (J 51 0) (J 51 1) (J 51 2) := by
  unfold es_Lm
  obtain ⟨h1, _⟩ := h
  exact if_pos (by omega)
theorem es_Lm_len {J : am_I} (h : es_hm J) {q : Nat} (hq : (q : Int) < J 44 20) : (es_Lm J q).length ≤ 6 := by
  rw [es_Lm_e h hq]
  obtain ⟨h1, h2, h3, h4, h5, h6⟩ := h
  have h7 := h6 q hq
  unfold es_hb at h7
  exact es_tl_len (by omega) h7.2 h2.1 h3.1 h4.1
theorem es_Lm_asc {J : am_I} (h : es_hm J) {q k : Nat} (hq : (q : Int) < J 44 20) (hk : k < (es_Lm J q).length) : es_asc (es_nth (es_Lm J q) k) := by
  rw [es_Lm_e h hq] at hk ⊢
  obtain ⟨h1, h2, h3, h4, h5, h6⟩ := h
  have h7 := es_tl_P hk
  unfold es_asc
  omega
theorem es_ti_v {cnt : Int} {T : Nat → Int} {B : Int} {L : List (Int × Int × Int)} (h : es_ti cnt T B L) {k : Nat} (hk : k < L.length) (v : Int) (h0 : 0 ≤ v) (h2 : v ≤ 2) : T (B + 3 * (k : Int) + v).toNat = es_v3 (es_nth L k) v := by
  have h3 := h.2 k hk
  unfold es_v3
  by_cases c0 : v = 0
  · rw [if_pos c0, c0, show B + 3 * (k : Int) + 0 = B + 3 * (k : Int) by omega]
    exact h3.1
  · by_cases c1 : v = 1
    · rw [if_neg c0, if_pos c1, c1]
      exact h3.2.1
    · rw [if_neg c0, if_neg c1, show v = 2 by omega]
      exact h3.2.2
theorem es_cq_t {most : Int} {Ls : Nat → List (Int × Int × Int)} {n p b j : Nat} (h : p = 0 ∨ es_fo most (es_nth (Ls (p - 1)) b) (es_nth (Ls p) j)) : es_cq most Ls n p b (j : Int) = es_cw most Ls n (n - 1 - p) j := by
  unfold es_cq
  rw [Int.toNat_natCast, es_if_t h]
theorem es_cq_f {most : Int} {Ls : Nat → List (Int × Int × Int)} {n p b j : Nat} (h : ¬ (p = 0 ∨ es_fo most (es_nth (Ls (p - 1)) b) (es_nth (Ls p) j))) : es_cq most Ls n p b (j : Int) = 0 := by
  unfold es_cq
  rw [Int.toNat_natCast, es_if_f h]
theorem c_countChords (d : Nat) (I0 : am_I) (hm : es_hm I0) : am_C (d + 2) Y_mo_countChords [.inr (.inr 44)] I0 (fun r I' => r = none ∧ am_fr I0 I' [56, 57, 58] ∧ ∀ q : Nat, (q : Int) < I0 44 20 → es_r3 I0 I' q) := by
  refine am_enter ok_mo_countChords rfl ?_
  obtain ⟨n1, n2, n3, n4, n5, n6⟩ := id hm
  have loopi : ∀ (m : Nat) (i : Int) (I : am_I), -1 ≤ i → i < I0 44 20 → i + 1 < m → am_fr I0 I [56, 57, 58] → (∀ q : Nat, i < (q : Int) → (q : Int) < I0 44 20 → es_r3 I0 I q) → am_V (d + 2) Y_mo_countChords (fun r I' => r = none ∧ am_fr I0 I' [56, 57, 58] ∧ ∀ q : Nat, (q : Int) < I0 44 20 → es_r3 I0 I' q) 7 [(0, .inr (.inr 44)), (1, .inl i)] [] I := by
    intro m
    induction m with
    | zero => intro i I h1 h2 h3; omega
    | succ m ih =>
      intro i I h1 h2 h3 hf hrw
      have loopk : ∀ (m2 t : Nat) (I : am_I), 0 ≤ i → t ≤ (es_Lm I0 i.toNat).length → (es_Lm I0 i.toNat).length - t < m2 → am_fr I0 I [56, 57, 58] → (∀ q : Nat, i < (q : Int) → (q : Int) < I0 44 20 → es_r3 I0 I q) → es_ti (I 57 i.toNat) (I 56) (90 * i) (es_Lm I0 i.toNat) → (∀ x : Nat, x < t → I 58 (30 * i + (x : Int)).toNat = es_cw (I0 44 23) (es_Lm I0) (I0 44 20).toNat ((I0 44 20).toNat - 1 - i.toNat) x) → am_V (d + 2) Y_mo_countChords (fun r I' => r = none ∧ am_fr I0 I' [56, 57, 58] ∧ ∀ q : Nat, (q : Int) < I0 44 20 → es_r3 I0 I' q) 18 [(0, .inr (.inr 44)), (1, .inl i), (2, .inl t)] [] I := by
        intro m2
        induction m2 with
        | zero => intro t I g0 g1 g2; omega
        | succ m2 ihk =>
          intro t I g0 g1 g2 hf hrw hti hin
          have e44 : I 44 = I0 44 := hf 44 rfl
          have b20 : I 44 20 = I0 44 20 := congrFun e44 20
          have b23 : I 44 23 = I0 44 23 := congrFun e44 23
          have hlen := es_Lm_len hm (q := i.toNat) (by omega)
          have hcnt := hti.1
          have step : ∀ s : Int, t < (es_Lm I0 i.toNat).length → s = es_cw (I0 44 23) (es_Lm I0) (I0 44 20).toNat ((I0 44 20).toNat - 1 - i.toNat) t → am_V (d + 2) Y_mo_countChords (fun r I' => r = none ∧ am_fr I0 I' [56, 57, 58] ∧ ∀ q : Nat, (q : Int) < I0 44 20 → es_r3 I0 I' q) 18 [(0, .inr (.inr 44)), (1, .inl i), (2, .inl ((t : Int) + 1))] [] (am_u I 58 (30 * i + (t : Int)).toNat s) := by
            intro s ht hs
            have h9 := ihk (t + 1) (am_u I 58 (30 * i + (t : Int)).toNat s) g0 (by omega) (by omega) (hf.u _ _ rfl) ?_ ?_ ?_
            · rw [show ((t + 1 : Nat) : Int) = (t : Int) + 1 by omega] at h9
              exact h9
            · intro q q1 q2
              have hq := hrw q q1 q2
              refine ⟨?_, fun x hx => ?_⟩
              · rw [am_u_ne (by decide), am_u_ne (by decide)]
                exact hq.1
              · have hl2 := es_Lm_len hm (q := q) q2
                rw [am_u_eq, am_up_ne (by omega)]
                exact hq.2 x hx
            · rw [am_u_ne (by decide), am_u_ne (by decide)]
              exact hti
            · intro x hx
              rw [am_u_eq]
              by_cases c : x = t
              · rw [c, am_up_eq]
                exact hs
              · rw [am_up_ne (by omega)]
                exact hin x (by omega)
          have loopj : ∀ (m3 j : Nat), t < (es_Lm I0 i.toNat).length → i + 1 < I0 44 20 → j ≤ (es_Lm I0 (i.toNat + 1)).length → (es_Lm I0 (i.toNat + 1)).length - j < m3 → am_V (d + 2) Y_mo_countChords (fun r I' => r = none ∧ am_fr I0 I' [56, 57, 58] ∧ ∀ q : Nat, (q : Int) < I0 44 20 → es_r3 I0 I' q) 47 [(0, .inr (.inr 44)), (1, .inl i), (2, .inl t), (3, .inr (.inl (es_fd es_oc 0 (es_cq (I0 44 23) (es_Lm I0) (I0 44 20).toNat (i.toNat + 1) t) 0 j))), (5, .inl j)] [] I := by
            intro m3
            induction m3 with
            | zero => intro j f0 f1 f2 f3; omega
            | succ m3 ihj =>
              intro j f0 f1 f2 f3
              have hrn := hrw (i.toNat + 1) (by omega) (by omega)
              have hl2 := es_Lm_len hm (q := i.toNat + 1) (by omega)
              have hc2 : I 57 (i + 1).toNat = ((es_Lm I0 (i.toNat + 1)).length : Int) := by
                rw [show (i + 1).toNat = i.toNat + 1 by omega]
                exact hrn.1.1
              have hk := es_fc_D (f := es_cq (I0 44 23) (es_Lm I0) (I0 44 20).toNat (i.toNat + 1) t) (fun x => es_cq_D _ _ _ _ _ _) 0 j
              have hqd := es_cq_D (I0 44 23) (es_Lm I0) (I0 44 20).toNat (i.toNat + 1) t (j : Int)
              have hqd2 : 0 ≤ es_cq (I0 44 23) (es_Lm I0) (I0 44 20).toNat (i.toNat + 1) t (j : Int) ∧ es_cq (I0 44 23) (es_Lm I0) (I0 44 20).toNat (i.toNat + 1) t (j : Int) ≤ 1000000000000000000 := hqd
              have e9 : es_fd es_oc 0 (es_cq (I0 44 23) (es_Lm I0) (I0 44 20).toNat (i.toNat + 1) t) 0 (j + 1) = es_oc (es_fd es_oc 0 (es_cq (I0 44 23) (es_Lm I0) (I0 44 20).toNat (i.toNat + 1) t) 0 j) (es_cq (I0 44 23) (es_Lm I0) (I0 44 20).toNat (i.toNat + 1) t (j : Int)) := by
                show es_oc _ (es_cq (I0 44 23) (es_Lm I0) (I0 44 20).toNat (i.toNat + 1) t (0 + (j : Int))) = _
                rw [show 0 + (j : Int) = j by omega]
              refine am_go 1 [] rfl trivial ?_
              repeat' (first
                | (refine am_gp 80 [18, 47, 70] rfl (by first | exact True.intro | (refine And.intro ?_ ?_ <;> decide) | exact Or.inl rfl | exact Or.inr rfl | (simp (decide := true) only [am_p, am_u_at, am_u_j, am_u_ne]; omega) | (simp (decide := true) only [am_p, and_true, true_and, true_or, or_true, am_u_at, am_u_j, am_u_ne]; omega) | (simp (decide := true) [am_p, am_u_at, am_u_j, am_u_ne]; omega)) ?_)
                | (show am_V _ _ _ _ _ _ _; simp only [Int.reduceToNat])
                | (refine am_bt rfl (by first | omega | (simp (decide := true) only [am_u_at, am_u_j, am_u_ne]; omega)) (by first | omega | (simp (decide := true) only [am_u_at, am_u_j, am_u_ne]; omega)) ?_)
                | (refine am_bf rfl (by first | omega | (simp (decide := true) only [am_u_at, am_u_j, am_u_ne]; omega)) (by first | omega | (simp (decide := true) only [am_u_at, am_u_j, am_u_ne]; omega)) ?_)
                | (refine am_br rfl (by first | omega | (simp (decide := true) only [am_u_at, am_u_j, am_u_ne]; omega)) (fun h => ?_) (fun h => ?_))
                | (refine am_rt rfl (by first | exact True.intro | (refine And.intro ?_ ?_ <;> decide) | exact Or.inl rfl | exact Or.inr rfl | (show _ ∨ _; omega)) ?_))
              · have ej : j = (es_Lm I0 (i.toNat + 1)).length := by omega
                refine am_wk [3, 5] ?_
                refine step _ f0 ?_
                rw [es_cw_sum (by omega), ← ej]
              · have hj : j < (es_Lm I0 (i.toNat + 1)).length := by omega
                have vx1 : ∀ v : Int, 0 ≤ v → v ≤ 2 → I 56 (90 * i + 3 * (t : Int) + v).toNat = es_v3 (es_nth (es_Lm I0 i.toNat) t) v := fun v v0 v2 => es_ti_v hti f0 v v0 v2
                have vy1 : ∀ v : Int, 0 ≤ v → v ≤ 2 → I 56 (90 * (i + 1) + 3 * (j : Int) + v).toNat = es_v3 (es_nth (es_Lm I0 (i.toNat + 1)) j) v := by
                  intro v v0 v2
                  have := es_ti_v hrn.1 hj v v0 v2
                  rw [show ((i.toNat + 1 : Nat) : Int) = i + 1 by omega] at this
                  exact this
                have ax := es_Lm_asc hm (q := i.toNat) (k := t) (by omega) f0
                have ay := es_Lm_asc hm (q := i.toNat + 1) (k := j) (by omega) hj
                have hent : I 58 (30 * (i + 1) + (j : Int)).toNat = es_cw (I0 44 23) (es_Lm I0) (I0 44 20).toNat ((I0 44 20).toNat - 1 - (i.toNat + 1)) j := by
                  have := hrn.2 j hj
                  rw [show ((i.toNat + 1 : Nat) : Int) = i + 1 by omega] at this
                  exact this
                have hcd := es_cw_D (most := (I0 44 23)) (Ls := (es_Lm I0)) (n := (I0 44 20).toNat) ((I0 44 20).toNat - 1 - (i.toNat + 1)) j
                have q1 : es_fo (I 44 23) (es_nth (es_Lm I0 i.toNat) t) (es_nth (es_Lm I0 (i.toNat + 1)) j) → I 58 (30 * (i + 1) + (j : Int)).toNat = es_cq (I0 44 23) (es_Lm I0) (I0 44 20).toNat (i.toNat + 1) t (j : Int) := by
                  intro hfo
                  rw [b23] at hfo
                  rw [hent]
                  exact (es_cq_t (Or.inr hfo)).symm
                have q2 : ¬ es_fo (I 44 23) (es_nth (es_Lm I0 i.toNat) t) (es_nth (es_Lm I0 (i.toNat + 1)) j) → es_cq (I0 44 23) (es_Lm I0) (I0 44 20).toNat (i.toNat + 1) t (j : Int) = 0 := by
                  intro hfo
                  rw [b23] at hfo
                  exact es_cq_f (fun z => z.elim (by omega) hfo)
                generalize hvx : es_nth (es_Lm I0 i.toNat) t = vx at *
                generalize hvy : es_nth (es_Lm I0 (i.toNat + 1)) j = vy at *
                repeat' (first
                  | (refine am_gp 80 [47] rfl (by first | exact True.intro | (refine And.intro ?_ ?_ <;> decide) | exact Or.inl rfl | exact Or.inr rfl | (simp (decide := true) only [am_p, am_u_at, am_u_j, am_u_ne]; omega) | (simp (decide := true) only [am_p, and_true, true_and, true_or, or_true, am_u_at, am_u_j, am_u_ne]; omega) | (simp (decide := true) [am_p, am_u_at, am_u_j, am_u_ne]; omega)) ?_)
                  | (show am_V _ _ _ _ _ _ _; simp only [Int.reduceToNat])
                  | (refine am_bt rfl (by first | omega | (simp (decide := true) only [am_u_at, am_u_j, am_u_ne]; omega)) (by first | omega | (simp (decide := true) only [am_u_at, am_u_j, am_u_ne]; omega)) ?_)
                  | (refine am_bf rfl (by first | omega | (simp (decide := true) only [am_u_at, am_u_j, am_u_ne]; omega)) (by first | omega | (simp (decide := true) only [am_u_at, am_u_j, am_u_ne]; omega)) ?_)
                  | (refine am_br rfl (by first | omega | (simp (decide := true) only [am_u_at, am_u_j, am_u_ne]; omega)) (fun h => ?_) (fun h => ?_))
                  | (refine am_cV (y' := Y_mo_follows) rfl lk_mo_208 ok_mo_follows rfl rfl rfl (c_follows _ _ _ _ _ vx vy (by first | omega | (simp (decide := true) only [am_u_at, am_u_j, am_u_ne]; omega)) (by first | omega | (simp (decide := true) only [am_u_at, am_u_j, am_u_ne]; omega)) (by first | omega | (simp (decide := true) only [am_u_at, am_u_j, am_u_ne]; omega)) (by assumption) (by assumption) (by assumption) (by assumption) (by first | omega | (simp (decide := true) only [am_u_at, am_u_j, am_u_ne]; omega))) ?_; rintro r I ⟨rfl, (⟨rfl, hfo⟩ | ⟨rfl, hfo⟩)⟩ <;> (try (exfalso; omega)))
                  | (refine am_cS (y' := Y_mo_plus) rfl lk_mo_162 ok_mo_plus rfl rfl (c_mo_plus _ _ _ _ (by first | omega | (simp (decide := true) only [am_u_at, am_u_j, am_u_ne]; omega)) (by first | omega | (simp (decide := true) only [am_u_at, am_u_j, am_u_ne]; omega))) ?_; rintro r I ⟨rfl, rfl⟩)
                  | (refine am_rt rfl (by first | exact True.intro | (refine And.intro ?_ ?_ <;> decide) | exact Or.inl rfl | exact Or.inr rfl | (show _ ∨ _; omega)) ?_))
                · have h9 := ihj (j + 1) f0 f1 (by omega) (by omega)
                  rw [e9, show ((j + 1 : Nat) : Int) = (j : Int) + 1 by omega, ← q1 hfo] at h9
                  exact h9
                · have h9 := ihj (j + 1) f0 f1 (by omega) (by omega)
                  rw [e9, q2 hfo, es_mn_r es_mc hk, show ((j + 1 : Nat) : Int) = (j : Int) + 1 by omega] at h9
                  exact h9
          refine am_go 1 [] rfl trivial ?_
          repeat' (first
            | (refine am_gp 80 [7, 47] rfl (by first | exact True.intro | (refine And.intro ?_ ?_ <;> decide) | exact Or.inl rfl | exact Or.inr rfl | (simp (decide := true) only [am_p, am_u_at, am_u_j, am_u_ne]; omega) | (simp (decide := true) only [am_p, and_true, true_and, true_or, or_true, am_u_at, am_u_j, am_u_ne]; omega) | (simp (decide := true) [am_p, am_u_at, am_u_j, am_u_ne]; omega)) ?_)
            | (show am_V _ _ _ _ _ _ _; simp only [Int.reduceToNat])
            | (refine am_bt rfl (by first | omega | (simp (decide := true) only [am_u_at, am_u_j, am_u_ne]; omega)) (by first | omega | (simp (decide := true) only [am_u_at, am_u_j, am_u_ne]; omega)) ?_)
            | (refine am_bf rfl (by first | omega | (simp (decide := true) only [am_u_at, am_u_j, am_u_ne]; omega)) (by first | omega | (simp (decide := true) only [am_u_at, am_u_j, am_u_ne]; omega)) ?_)
            | (refine am_br rfl (by first | omega | (simp (decide := true) only [am_u_at, am_u_j, am_u_ne]; omega)) (fun h => ?_) (fun h => ?_))
            | (refine am_rt rfl (by first | exact True.intro | (refine And.intro ?_ ?_ <;> decide) | exact Or.inl rfl | exact Or.inr rfl | (show _ ∨ _; omega)) ?_))
          · refine am_wk [2, 3, 5] ?_
            have et : t = (es_Lm I0 i.toNat).length := by omega
            refine ih (i - 1) I (by omega) (by omega) (by omega) hf ?_
            intro q q1 q2
            by_cases c : (q : Int) = i
            · have eq : q = i.toNat := by omega
              refine ⟨?_, fun x hx => ?_⟩
              · rw [eq, show ((i.toNat : Nat) : Int) = i by omega]
                exact hti
              · rw [eq] at hx ⊢
                rw [show ((i.toNat : Nat) : Int) = i by omega]
                exact hin x (by omega)
            · exact hrw q (by omega) q2
          · have hl2 := es_Lm_len hm (q := i.toNat + 1) (by omega)
            exact loopj 8 0 (by omega) (by omega) (by omega) (by omega)
          · refine am_go 1 [] rfl trivial ?_
            repeat' (first
              | (refine am_gp 80 [18] rfl (by first | exact True.intro | (refine And.intro ?_ ?_ <;> decide) | exact Or.inl rfl | exact Or.inr rfl | (simp (decide := true) only [am_p, am_u_at, am_u_j, am_u_ne]; omega) | (simp (decide := true) only [am_p, and_true, true_and, true_or, or_true, am_u_at, am_u_j, am_u_ne]; omega) | (simp (decide := true) [am_p, am_u_at, am_u_j, am_u_ne]; omega)) ?_)
              | (show am_V _ _ _ _ _ _ _; simp only [Int.reduceToNat])
              | (refine am_bt rfl (by first | omega | (simp (decide := true) only [am_u_at, am_u_j, am_u_ne]; omega)) (by first | omega | (simp (decide := true) only [am_u_at, am_u_j, am_u_ne]; omega)) ?_)
              | (refine am_bf rfl (by first | omega | (simp (decide := true) only [am_u_at, am_u_j, am_u_ne]; omega)) (by first | omega | (simp (decide := true) only [am_u_at, am_u_j, am_u_ne]; omega)) ?_)
              | (refine am_br rfl (by first | omega | (simp (decide := true) only [am_u_at, am_u_j, am_u_ne]; omega)) (fun h => ?_) (fun h => ?_))
              | (refine am_rt rfl (by first | exact True.intro | (refine And.intro ?_ ?_ <;> decide) | exact Or.inl rfl | exact Or.inr rfl | (show _ ∨ _; omega)) ?_))
            refine am_wk [3, 5] ?_
            refine step _ (by omega) ?_
            rw [show (I0 44 20).toNat - 1 - i.toNat = 0 by omega]
            rfl
      have hmi : 0 ≤ i → es_hb (I0 50 i.toNat) := fun h => n6 i.toNat (by omega)
      have e50 : I 50 = I0 50 := hf 50 rfl
      have e51 : I 51 = I0 51 := hf 51 rfl
      have d0 : I 51 0 = I0 51 0 := congrFun e51 0
      have d1 : I 51 1 = I0 51 1 := congrFun e51 1
      have d2 : I 51 2 = I0 51 2 := congrFun e51 2
      refine am_go 1 [] rfl trivial ?_
      repeat' (first
        | (refine am_gp 80 [11] rfl (by first | exact True.intro | (refine And.intro ?_ ?_ <;> decide) | exact Or.inl rfl | exact Or.inr rfl | (simp (decide := true) only [am_p, am_u_at, am_u_j, am_u_ne]; omega) | (simp (decide := true) only [am_p, and_true, true_and, true_or, or_true, am_u_at, am_u_j, am_u_ne]; omega) | (simp (decide := true) [am_p, am_u_at, am_u_j, am_u_ne]; omega)) ?_)
        | (show am_V _ _ _ _ _ _ _; simp only [Int.reduceToNat])
        | (refine am_bt rfl (by first | omega | (simp (decide := true) only [am_u_at, am_u_j, am_u_ne]; omega)) (by first | omega | (simp (decide := true) only [am_u_at, am_u_j, am_u_ne]; omega)) ?_)
        | (refine am_bf rfl (by first | omega | (simp (decide := true) only [am_u_at, am_u_j, am_u_ne]; omega)) (by first | omega | (simp (decide := true) only [am_u_at, am_u_j, am_u_ne]; omega)) ?_)
        | (refine am_br rfl (by first | omega | (simp (decide := true) only [am_u_at, am_u_j, am_u_ne]; omega)) (fun h => ?_) (fun h => ?_))
        | (refine am_rt rfl (by first | exact True.intro | (refine And.intro ?_ ?_ <;> decide) | exact Or.inl rfl | exact Or.inr rfl | (show _ ∨ _; omega)) ?_))
      · exact ⟨rfl, hf, fun q hq => hrw q (by omega) hq⟩
      · have hmi2 : es_hb (I 50 i.toNat) := by rw [e50]; exact hmi (by omega)
        repeat' (first
          | (refine am_gp 80 [18] rfl (by first | exact True.intro | (refine And.intro ?_ ?_ <;> decide) | exact Or.inl rfl | exact Or.inr rfl | (simp (decide := true) only [am_p, am_u_at, am_u_j, am_u_ne]; omega) | (simp (decide := true) only [am_p, and_true, true_and, true_or, or_true, am_u_at, am_u_j, am_u_ne]; omega) | (simp (decide := true) [am_p, am_u_at, am_u_j, am_u_ne]; omega)) ?_)
          | (show am_V _ _ _ _ _ _ _; simp only [Int.reduceToNat])
          | (refine am_bt rfl (by first | omega | (simp (decide := true) only [am_u_at, am_u_j, am_u_ne]; omega)) (by first | omega | (simp (decide := true) only [am_u_at, am_u_j, am_u_ne]; omega)) ?_)
          | (refine am_bf rfl (by first | omega | (simp (decide := true) only [am_u_at, am_u_j, am_u_ne]; omega)) (by first | omega | (simp (decide := true) only [am_u_at, am_u_j, am_u_ne]; omega)) ?_)
          | (refine am_br rfl (by first | omega | (simp (decide := true) only [am_u_at, am_u_j, am_u_ne]; omega)) (fun h => ?_) (fun h => ?_))
          | (refine am_cV (y' := Y_mo_findThrees) rfl lk_mo_205 ok_mo_findThrees rfl rfl rfl (c_mo_findThrees _ _ _ (by first | omega | (simp (decide := true) only [am_u_at, am_u_j, am_u_ne]; omega)) (by first | omega | (simp (decide := true) only [am_u_at, am_u_j, am_u_ne]; omega)) (by first | omega | (simp (decide := true) only [am_u_at, am_u_j, am_u_ne]; omega)) (by first | omega | (simp (decide := true) only [am_u_at, am_u_j, am_u_ne]; omega)) (by assumption)) ?_; rintro r I ⟨rfl, hfr, h57n, h56n, htin⟩)
          | (refine am_rt rfl (by first | exact True.intro | (refine And.intro ?_ ?_ <;> decide) | exact Or.inl rfl | exact Or.inr rfl | (show _ ∨ _; omega)) ?_))
        rw [e50, d0, d1, d2, ← es_Lm_e hm (q := i.toNat) (by omega)] at htin
        refine loopk 8 0 _ (by omega) (by omega) ?_ ((hf.wd rfl).tr (hfr.wd rfl)) ?_ htin (fun x hx => by omega)
        · have := es_Lm_len hm (q := i.toNat) (by omega)
          omega
        · intro q q1 q2
          have hq := hrw q q1 q2
          have hl2 := es_Lm_len hm (q := q) q2
          refine ⟨⟨?_, fun x hx => ?_⟩, fun x hx => ?_⟩
          · rw [h57n q (by omega)]
            exact hq.1.1
          · rw [h56n _ (by omega), h56n _ (by omega), h56n _ (by omega)]
            exact hq.1.2 x hx
          · rw [hfr 58 rfl]
            exact hq.2 x hx
  repeat' (first
    | (refine am_gp 80 [7] rfl (by first | exact True.intro | (refine And.intro ?_ ?_ <;> decide) | exact Or.inl rfl | exact Or.inr rfl | (simp (decide := true) only [am_p, am_u_at, am_u_j, am_u_ne]; omega) | (simp (decide := true) only [am_p, and_true, true_and, true_or, or_true, am_u_at, am_u_j, am_u_ne]; omega) | (simp (decide := true) [am_p, am_u_at, am_u_j, am_u_ne]; omega)) ?_)
    | (show am_V _ _ _ _ _ _ _; simp only [Int.reduceToNat])
    | (refine am_bt rfl (by first | omega | (simp (decide := true) only [am_u_at, am_u_j, am_u_ne]; omega)) (by first | omega | (simp (decide := true) only [am_u_at, am_u_j, am_u_ne]; omega)) ?_)
    | (refine am_bf rfl (by first | omega | (simp (decide := true) only [am_u_at, am_u_j, am_u_ne]; omega)) (by first | omega | (simp (decide := true) only [am_u_at, am_u_j, am_u_ne]; omega)) ?_)
    | (refine am_br rfl (by first | omega | (simp (decide := true) only [am_u_at, am_u_j, am_u_ne]; omega)) (fun h => ?_) (fun h => ?_))
    | (refine am_rt rfl (by first | exact True.intro | (refine And.intro ?_ ?_ <;> decide) | exact Or.inl rfl | exact Or.inr rfl | (show _ ∨ _; omega)) ?_))
  exact loopi 8 (I0 44 20 - 1) I0 (by omega) (by omega) (by omega) am_fr.rf (fun q q1 q2 => by omega)
theorem c_mo_chords (d : Nat) (I0 : am_I) (hm : es_hm I0) : am_C (d + 3) Y_mo_chords [.inr (.inr 44)] I0 (fun r I' => r = some (.inr (.inl (es_ctot (I0 44 23) (es_Lm I0) (I0 44 20).toNat))) ∧ am_fr I0 I' [56, 57, 58] ∧ ∀ q : Nat, (q : Int) < I0 44 20 → es_r3 I0 I' q) := by
  refine am_enter ok_mo_chords rfl ?_
  obtain ⟨n1, n2, n3, n4, n5, n6⟩ := id hm
  have loop : ∀ (m t : Nat) (I : am_I), am_fr I0 I [56, 57, 58] → (∀ q : Nat, (q : Int) < I0 44 20 → es_r3 I0 I q) → 0 < I0 44 20 → t ≤ (es_Lm I0 0).length → (es_Lm I0 0).length - t < m → am_V (d + 3) Y_mo_chords (fun r I' => r = some (.inr (.inl (es_ctot (I0 44 23) (es_Lm I0) (I0 44 20).toNat))) ∧ am_fr I0 I' [56, 57, 58] ∧ ∀ q : Nat, (q : Int) < I0 44 20 → es_r3 I0 I' q) 8 [(0, .inr (.inr 44)), (1, .inr (.inl (es_fd es_oc 0 (es_cq (I0 44 23) (es_Lm I0) (I0 44 20).toNat 0 0) 0 t))), (3, .inl t)] [] I := by
    intro m
    induction m with
    | zero => intro t I hf hrw hn h1 h2; omega
    | succ m ih =>
      intro t I hf hrw hn h1 h2
      have b20 : I 44 20 = I0 44 20 := by rw [hf 44 rfl]
      have hr0 := hrw 0 (by omega)
      have hcnt : I 57 0 = ((es_Lm I0 0).length : Int) := hr0.1.1
      have hlen := es_Lm_len hm (q := 0) (by omega)
      have hk := es_fc_D (f := es_cq (I0 44 23) (es_Lm I0) (I0 44 20).toNat 0 0) (fun x => es_cq_D _ _ _ _ _ _) 0 t
      have hqd := es_cq_D (I0 44 23) (es_Lm I0) (I0 44 20).toNat 0 0 (t : Int)
      have hqd2 : 0 ≤ es_cq (I0 44 23) (es_Lm I0) (I0 44 20).toNat 0 0 (t : Int) ∧ es_cq (I0 44 23) (es_Lm I0) (I0 44 20).toNat 0 0 (t : Int) ≤ 1000000000000000000 := hqd
      have hent : t < (es_Lm I0 0).length → I 58 (t : Int).toNat = es_cq (I0 44 23) (es_Lm I0) (I0 44 20).toNat 0 0 (t : Int) := by
        intro h
        have h5 := hr0.2 t h
        rw [show (30 * ((0 : Nat) : Int) + (t : Int)).toNat = (t : Int).toNat by omega] at h5
        rw [h5]
        exact (es_cq_t (Or.inl rfl)).symm
      have e9 : es_fd es_oc 0 (es_cq (I0 44 23) (es_Lm I0) (I0 44 20).toNat 0 0) 0 (t + 1) = es_oc (es_fd es_oc 0 (es_cq (I0 44 23) (es_Lm I0) (I0 44 20).toNat 0 0) 0 t) (es_cq (I0 44 23) (es_Lm I0) (I0 44 20).toNat 0 0 (t : Int)) := by
        show es_oc _ (es_cq (I0 44 23) (es_Lm I0) (I0 44 20).toNat 0 0 (0 + (t : Int))) = _
        rw [show 0 + (t : Int) = t by omega]
      refine am_go 1 [] rfl trivial ?_
      repeat' (first
        | (refine am_gp 80 [8, 25] rfl (by first | exact True.intro | (refine And.intro ?_ ?_ <;> decide) | exact Or.inl rfl | exact Or.inr rfl | (simp (decide := true) only [am_p, am_u_at, am_u_j, am_u_ne]; omega) | (simp (decide := true) only [am_p, and_true, true_and, true_or, or_true, am_u_at, am_u_j, am_u_ne]; omega) | (simp (decide := true) [am_p, am_u_at, am_u_j, am_u_ne]; omega)) ?_)
        | (show am_V _ _ _ _ _ _ _; simp only [Int.reduceToNat])
        | (refine am_bt rfl (by first | omega | (simp (decide := true) only [am_u_at, am_u_j, am_u_ne]; omega)) (by first | omega | (simp (decide := true) only [am_u_at, am_u_j, am_u_ne]; omega)) ?_)
        | (refine am_bf rfl (by first | omega | (simp (decide := true) only [am_u_at, am_u_j, am_u_ne]; omega)) (by first | omega | (simp (decide := true) only [am_u_at, am_u_j, am_u_ne]; omega)) ?_)
        | (refine am_br rfl (by first | omega | (simp (decide := true) only [am_u_at, am_u_j, am_u_ne]; omega)) (fun h => ?_) (fun h => ?_))
        | (refine am_rt rfl (by first | exact True.intro | (refine And.intro ?_ ?_ <;> decide) | exact Or.inl rfl | exact Or.inr rfl | (show _ ∨ _; omega)) ?_))
      · have et : t = (es_Lm I0 0).length := by omega
        refine ⟨?_, hf, hrw⟩
        unfold es_ctot
        rw [if_neg (by omega), ← et]
      · have hen := hent (by omega)
        repeat' (first
          | (refine am_gp 80 [8] rfl (by first | exact True.intro | (refine And.intro ?_ ?_ <;> decide) | exact Or.inl rfl | exact Or.inr rfl | (simp (decide := true) only [am_p, am_u_at, am_u_j, am_u_ne]; omega) | (simp (decide := true) only [am_p, and_true, true_and, true_or, or_true, am_u_at, am_u_j, am_u_ne]; omega) | (simp (decide := true) [am_p, am_u_at, am_u_j, am_u_ne]; omega)) ?_)
          | (show am_V _ _ _ _ _ _ _; simp only [Int.reduceToNat])
          | (refine am_bt rfl (by first | omega | (simp (decide := true) only [am_u_at, am_u_j, am_u_ne]; omega)) (by first | omega | (simp (decide := true) only [am_u_at, am_u_j, am_u_ne]; omega)) ?_)
          | (refine am_bf rfl (by first | omega | (simp (decide := true) only [am_u_at, am_u_j, am_u_ne]; omega)) (by first | omega | (simp (decide := true) only [am_u_at, am_u_j, am_u_ne]; omega)) ?_)
          | (refine am_br rfl (by first | omega | (simp (decide := true) only [am_u_at, am_u_j, am_u_ne]; omega)) (fun h => ?_) (fun h => ?_))
          | (refine am_cS (y' := Y_mo_plus) rfl lk_mo_162 ok_mo_plus rfl rfl (c_mo_plus _ _ _ _ (by first | omega | (simp (decide := true) only [am_u_at, am_u_j, am_u_ne]; omega)) (by first | omega | (simp (decide := true) only [am_u_at, am_u_j, am_u_ne]; omega))) ?_; rintro r I ⟨rfl, rfl⟩)
          | (refine am_rt rfl (by first | exact True.intro | (refine And.intro ?_ ?_ <;> decide) | exact Or.inl rfl | exact Or.inr rfl | (show _ ∨ _; omega)) ?_))
        have h9 := ih (t + 1) I hf hrw hn (by omega) (by omega)
        rw [e9, show ((t + 1 : Nat) : Int) = (t : Int) + 1 by omega, ← hen] at h9
        exact h9
  repeat' (first
    | (refine am_gp 80 [8] rfl (by first | exact True.intro | (refine And.intro ?_ ?_ <;> decide) | exact Or.inl rfl | exact Or.inr rfl | (simp (decide := true) only [am_p, am_u_at, am_u_j, am_u_ne]; omega) | (simp (decide := true) only [am_p, and_true, true_and, true_or, or_true, am_u_at, am_u_j, am_u_ne]; omega) | (simp (decide := true) [am_p, am_u_at, am_u_j, am_u_ne]; omega)) ?_)
    | (show am_V _ _ _ _ _ _ _; simp only [Int.reduceToNat])
    | (refine am_bt rfl (by first | omega | (simp (decide := true) only [am_u_at, am_u_j, am_u_ne]; omega)) (by first | omega | (simp (decide := true) only [am_u_at, am_u_j, am_u_ne]; omega)) ?_)
    | (refine am_bf rfl (by first | omega | (simp (decide := true) only [am_u_at, am_u_j, am_u_ne]; omega)) (by first | omega | (simp (decide := true) only [am_u_at, am_u_j, am_u_ne]; omega)) ?_)
    | (refine am_br rfl (by first | omega | (simp (decide := true) only [am_u_at, am_u_j, am_u_ne]; omega)) (fun h => ?_) (fun h => ?_))
    | (refine am_cV (y' := Y_mo_countChords) rfl lk_mo_212 ok_mo_countChords rfl rfl rfl (c_countChords _ I0 hm) ?_; rintro r I ⟨rfl, hfr, hrows⟩)
    | (refine am_rt rfl (by first | exact True.intro | (refine And.intro ?_ ?_ <;> decide) | exact Or.inl rfl | exact Or.inr rfl | (show _ ∨ _; omega)) ?_))
  by_cases c : 0 < I0 44 20
  · have hlen := es_Lm_len hm (q := 0) (by omega)
    exact loop 8 0 I hfr hrows c (by omega) (by omega)
  · have b20 : I 44 20 = I0 44 20 := by rw [hfr 44 rfl]
    refine am_go 1 [] rfl trivial ?_
    repeat' (first
      | (refine am_gp 80 [] rfl (by first | exact True.intro | (refine And.intro ?_ ?_ <;> decide) | exact Or.inl rfl | exact Or.inr rfl | (simp (decide := true) only [am_p, am_u_at, am_u_j, am_u_ne]; omega) | (simp (decide := true) only [am_p, and_true, true_and, true_or, or_true, am_u_at, am_u_j, am_u_ne]; omega) | (simp (decide := true) [am_p, am_u_at, am_u_j, am_u_ne]; omega)) ?_)
      | (show am_V _ _ _ _ _ _ _; simp only [Int.reduceToNat])
      | (refine am_bt rfl (by first | omega | (simp (decide := true) only [am_u_at, am_u_j, am_u_ne]; omega)) (by first | omega | (simp (decide := true) only [am_u_at, am_u_j, am_u_ne]; omega)) ?_)
      | (refine am_bf rfl (by first | omega | (simp (decide := true) only [am_u_at, am_u_j, am_u_ne]; omega)) (by first | omega | (simp (decide := true) only [am_u_at, am_u_j, am_u_ne]; omega)) ?_)
      | (refine am_br rfl (by first | omega | (simp (decide := true) only [am_u_at, am_u_j, am_u_ne]; omega)) (fun h => ?_) (fun h => ?_))
      | (refine am_rt rfl (by first | exact True.intro | (refine And.intro ?_ ?_ <;> decide) | exact Or.inl rfl | exact Or.inr rfl | (show _ ∨ _; omega)) ?_))
    refine ⟨?_, hfr, hrows⟩
    unfold es_ctot
    rw [if_pos (by omega)]
theorem c_mo_chord (d : Nat) (k i v : Int) (I0 : am_I) (hkr : -9223372036854775808 ≤ k ∧ k < 9223372036854775808) (hir : (-2147483648 ≤ i ∧ i < 2147483648)) (hvr : (-2147483648 ≤ v ∧ v < 2147483648)) (hm : es_hm I0) : am_C (d + 4) Y_mo_chord [.inr (.inr 44), .inr (.inl k), .inl i, .inl v] I0 (fun r I' => (¬ (0 ≤ k ∧ (0 ≤ i ∧ i < I0 44 20) ∧ (0 ≤ v ∧ v ≤ 2)) ∧ r = some (.inl (-2)) ∧ I' = I0) ∨ (((0 ≤ k ∧ (0 ≤ i ∧ i < I0 44 20) ∧ (0 ≤ v ∧ v ≤ 2)) ∧ es_ctot (I0 44 23) (es_Lm I0) (I0 44 20).toNat ≤ k) ∧ r = some (.inl (-1)) ∧ am_fr I0 I' [56, 57, 58]) ∨ (((0 ≤ k ∧ (0 ≤ i ∧ i < I0 44 20) ∧ (0 ≤ v ∧ v ≤ 2)) ∧ k < es_ctot (I0 44 23) (es_Lm I0) (I0 44 20).toNat) ∧ r = some (.inl (es_v3 (es_nth (es_Lm I0 i.toNat) (es_cs (I0 44 23) (es_Lm I0) (I0 44 20).toNat k (i.toNat + 1)).1) v)) ∧ am_fr I0 I' [56, 57, 58])) := by
  refine am_enter ok_mo_chord rfl ?_
  obtain ⟨n1, n2, n3, n4, n5, n6⟩ := id hm
  have htd : 0 ≤ es_ctot (I0 44 23) (es_Lm I0) (I0 44 20).toNat ∧ es_ctot (I0 44 23) (es_Lm I0) (I0 44 20).toNat ≤ 1000000000000000000 := by
    unfold es_ctot
    split
    · omega
    · exact es_fc_D (fun x => es_cq_D _ _ _ _ _ _) _ _
  have main : ∀ I1 : am_I, am_fr I0 I1 [56, 57, 58] → (∀ q : Nat, (q : Int) < I0 44 20 → es_r3 I0 I1 q) → (0 ≤ k ∧ (0 ≤ i ∧ i < I0 44 20) ∧ (0 ≤ v ∧ v ≤ 2)) → k < es_ctot (I0 44 23) (es_Lm I0) (I0 44 20).toNat → am_V (d + 4) Y_mo_chord (fun r I' => (¬ (0 ≤ k ∧ (0 ≤ i ∧ i < I0 44 20) ∧ (0 ≤ v ∧ v ≤ 2)) ∧ r = some (.inl (-2)) ∧ I' = I0) ∨ (((0 ≤ k ∧ (0 ≤ i ∧ i < I0 44 20) ∧ (0 ≤ v ∧ v ≤ 2)) ∧ es_ctot (I0 44 23) (es_Lm I0) (I0 44 20).toNat ≤ k) ∧ r = some (.inl (-1)) ∧ am_fr I0 I' [56, 57, 58]) ∨ (((0 ≤ k ∧ (0 ≤ i ∧ i < I0 44 20) ∧ (0 ≤ v ∧ v ≤ 2)) ∧ k < es_ctot (I0 44 23) (es_Lm I0) (I0 44 20).toNat) ∧ r = some (.inl (es_v3 (es_nth (es_Lm I0 i.toNat) (es_cs (I0 44 23) (es_Lm I0) (I0 44 20).toNat k (i.toNat + 1)).1) v)) ∧ am_fr I0 I' [56, 57, 58])) 66 [(0, .inr (.inr 44)), (1, .inr (.inl k)), (3, .inl i), (4, .inl v), (5, .inr (.inl k)), (7, .inl (-1)), (8, .inl 0)] [] I1 := by
    intro I hf hrows hok hkt
    have hal := es_cs_a (k := k) ⟨hok.1, hkt⟩
    have e44 : I 44 = I0 44 := hf 44 rfl
    have b20 : I 44 20 = I0 44 20 := congrFun e44 20
    have b23 : I 44 23 = I0 44 23 := congrFun e44 23
    have loopp : ∀ (m p : Nat) (at' : Int), (p : Int) ≤ i + 1 → i + 1 - p < m → ((p = 0 ∧ at' = -1) ∨ (0 < p ∧ at' = ((es_cs (I0 44 23) (es_Lm I0) (I0 44 20).toNat k p).1 : Int))) → am_V (d + 4) Y_mo_chord (fun r I' => (¬ (0 ≤ k ∧ (0 ≤ i ∧ i < I0 44 20) ∧ (0 ≤ v ∧ v ≤ 2)) ∧ r = some (.inl (-2)) ∧ I' = I0) ∨ (((0 ≤ k ∧ (0 ≤ i ∧ i < I0 44 20) ∧ (0 ≤ v ∧ v ≤ 2)) ∧ es_ctot (I0 44 23) (es_Lm I0) (I0 44 20).toNat ≤ k) ∧ r = some (.inl (-1)) ∧ am_fr I0 I' [56, 57, 58]) ∨ (((0 ≤ k ∧ (0 ≤ i ∧ i < I0 44 20) ∧ (0 ≤ v ∧ v ≤ 2)) ∧ k < es_ctot (I0 44 23) (es_Lm I0) (I0 44 20).toNat) ∧ r = some (.inl (es_v3 (es_nth (es_Lm I0 i.toNat) (es_cs (I0 44 23) (es_Lm I0) (I0 44 20).toNat k (i.toNat + 1)).1) v)) ∧ am_fr I0 I' [56, 57, 58])) 66 [(0, .inr (.inr 44)), (1, .inr (.inl k)), (3, .inl i), (4, .inl v), (5, .inr (.inl (es_cs (I0 44 23) (es_Lm I0) (I0 44 20).toNat k p).2)), (7, .inl at'), (8, .inl p)] [] I := by
      intro m
      induction m with
      | zero => intro p at' h1 h2; omega
      | succ m ih =>
        intro p at' h1 h2 hat
        have ha := hal p (by omega)
        have hprev : 0 < p → (es_cs (I0 44 23) (es_Lm I0) (I0 44 20).toNat k p).1 < (es_Lm I0 (p - 1)).length := fun h => (ha.2 (p - 1) (by omega)).1
        obtain ⟨a1, a2⟩ := ha.1
        have hcs : es_cs (I0 44 23) (es_Lm I0) (I0 44 20).toNat k (p + 1) = ((es_pk (es_cq (I0 44 23) (es_Lm I0) (I0 44 20).toNat p (es_cs (I0 44 23) (es_Lm I0) (I0 44 20).toNat k p).1) 0 (es_Lm I0 p).length (es_cs (I0 44 23) (es_Lm I0) (I0 44 20).toNat k p).2).1.toNat, (es_pk (es_cq (I0 44 23) (es_Lm I0) (I0 44 20).toNat p (es_cs (I0 44 23) (es_Lm I0) (I0 44 20).toNat k p).1) 0 (es_Lm I0 p).length (es_cs (I0 44 23) (es_Lm I0) (I0 44 20).toNat k p).2).2) := rfl
        have hx2 : (p : Int) < I0 44 20 → (es_cs (I0 44 23) (es_Lm I0) (I0 44 20).toNat k p).2 ≤ 1000000000000000000 := by
          intro h
          have h5 := a2 (by omega)
          have h6 := (es_fc_D (f := es_cq (I0 44 23) (es_Lm I0) (I0 44 20).toNat p (es_cs (I0 44 23) (es_Lm I0) (I0 44 20).toNat k p).1) (fun x => es_cq_D _ _ _ _ _ _) 0 (es_Lm I0 p).length).2
          omega
        have fin : ∀ (t q : Nat) (l : Int), (p : Int) ≤ i → t < (es_Lm I0 p).length → es_pk (es_cq (I0 44 23) (es_Lm I0) (I0 44 20).toNat p (es_cs (I0 44 23) (es_Lm I0) (I0 44 20).toNat k p).1) 0 (es_Lm I0 p).length (es_cs (I0 44 23) (es_Lm I0) (I0 44 20).toNat k p).2 = ((t : Int), l) → q ≤ (es_Lm I0 p).length → am_V (d + 4) Y_mo_chord (fun r I' => (¬ (0 ≤ k ∧ (0 ≤ i ∧ i < I0 44 20) ∧ (0 ≤ v ∧ v ≤ 2)) ∧ r = some (.inl (-2)) ∧ I' = I0) ∨ (((0 ≤ k ∧ (0 ≤ i ∧ i < I0 44 20) ∧ (0 ≤ v ∧ v ≤ 2)) ∧ es_ctot (I0 44 23) (es_Lm I0) (I0 44 20).toNat ≤ k) ∧ r = some (.inl (-1)) ∧ am_fr I0 I' [56, 57, 58]) ∨ (((0 ≤ k ∧ (0 ≤ i ∧ i < I0 44 20) ∧ (0 ≤ v ∧ v ≤ 2)) ∧ k < es_ctot (I0 44 23) (es_Lm I0) (I0 44 20).toNat) ∧ r = some (.inl (es_v3 (es_nth (es_Lm I0 i.toNat) (es_cs (I0 44 23) (es_Lm I0) (I0 44 20).toNat k (i.toNat + 1)).1) v)) ∧ am_fr I0 I' [56, 57, 58])) 78 [(0, .inr (.inr 44)), (1, .inr (.inl k)), (3, .inl i), (4, .inl v), (5, .inr (.inl l)), (7, .inl at'), (8, .inl p), (9, .inl t), (10, .inl q)] [] I := by
          intro t q l hpi ht hpk hq
          have hr3 := hrows p (by omega)
          have hcnt := hr3.1.1
          have hlen := es_Lm_len hm (q := p) (by omega)
          have h9 := ih (p + 1) (t : Int) (by omega) (by omega) (Or.inr ⟨by omega, by rw [hcs, hpk]; show (t : Int) = (((t : Int).toNat : Nat) : Int); omega⟩)
          rw [hcs, hpk, show ((p + 1 : Nat) : Int) = (p : Int) + 1 by omega] at h9
          clear hpk hcs
          have hg : am_V (d + 4) Y_mo_chord (fun r I' => (¬ (0 ≤ k ∧ (0 ≤ i ∧ i < I0 44 20) ∧ (0 ≤ v ∧ v ≤ 2)) ∧ r = some (.inl (-2)) ∧ I' = I0) ∨ (((0 ≤ k ∧ (0 ≤ i ∧ i < I0 44 20) ∧ (0 ≤ v ∧ v ≤ 2)) ∧ es_ctot (I0 44 23) (es_Lm I0) (I0 44 20).toNat ≤ k) ∧ r = some (.inl (-1)) ∧ am_fr I0 I' [56, 57, 58]) ∨ (((0 ≤ k ∧ (0 ≤ i ∧ i < I0 44 20) ∧ (0 ≤ v ∧ v ≤ 2)) ∧ k < es_ctot (I0 44 23) (es_Lm I0) (I0 44 20).toNat) ∧ r = some (.inl (es_v3 (es_nth (es_Lm I0 i.toNat) (es_cs (I0 44 23) (es_Lm I0) (I0 44 20).toNat k (i.toNat + 1)).1) v)) ∧ am_fr I0 I' [56, 57, 58])) 163 [(0, .inr (.inr 44)), (1, .inr (.inl k)), (3, .inl i), (4, .inl v), (5, .inr (.inl l)), (7, .inl at'), (8, .inl p), (9, .inl t)] [] I := by
            repeat' (first
              | (refine am_gp 80 [66] rfl (by first | exact True.intro | (refine And.intro ?_ ?_ <;> decide) | exact Or.inl rfl | exact Or.inr rfl | (simp (decide := true) only [am_p, am_u_at, am_u_j, am_u_ne]; omega) | (simp (decide := true) only [am_p, and_true, true_and, true_or, or_true, am_u_at, am_u_j, am_u_ne]; omega) | (simp (decide := true) [am_p, am_u_at, am_u_j, am_u_ne]; omega)) ?_)
              | (show am_V _ _ _ _ _ _ _; simp only [Int.reduceToNat])
              | (refine am_bt rfl (by first | omega | (simp (decide := true) only [am_u_at, am_u_j, am_u_ne]; omega)) (by first | omega | (simp (decide := true) only [am_u_at, am_u_j, am_u_ne]; omega)) ?_)
              | (refine am_bf rfl (by first | omega | (simp (decide := true) only [am_u_at, am_u_j, am_u_ne]; omega)) (by first | omega | (simp (decide := true) only [am_u_at, am_u_j, am_u_ne]; omega)) ?_)
              | (refine am_br rfl (by first | omega | (simp (decide := true) only [am_u_at, am_u_j, am_u_ne]; omega)) (fun h => ?_) (fun h => ?_))
              | (refine am_rt rfl (by first | exact True.intro | (refine And.intro ?_ ?_ <;> decide) | exact Or.inl rfl | exact Or.inr rfl | (show _ ∨ _; omega)) ?_))
            exact am_wk [9] h9
          have ep : (p : Int).toNat = p := by omega
          have hcnt2 : I 57 (p : Int).toNat = ((es_Lm I0 p).length : Int) := by rw [ep]; exact hcnt
          repeat' (first
            | (refine am_gp 80 [163] rfl (by first | exact True.intro | (refine And.intro ?_ ?_ <;> decide) | exact Or.inl rfl | exact Or.inr rfl | (simp (decide := true) only [am_p, am_u_at, am_u_j, am_u_ne]; omega) | (simp (decide := true) only [am_p, and_true, true_and, true_or, or_true, am_u_at, am_u_j, am_u_ne]; omega) | (simp (decide := true) [am_p, am_u_at, am_u_j, am_u_ne]; omega)) ?_)
            | (show am_V _ _ _ _ _ _ _; simp only [Int.reduceToNat])
            | (refine am_bt rfl (by first | omega | (simp (decide := true) only [am_u_at, am_u_j, am_u_ne]; omega)) (by first | omega | (simp (decide := true) only [am_u_at, am_u_j, am_u_ne]; omega)) ?_)
            | (refine am_bf rfl (by first | omega | (simp (decide := true) only [am_u_at, am_u_j, am_u_ne]; omega)) (by first | omega | (simp (decide := true) only [am_u_at, am_u_j, am_u_ne]; omega)) ?_)
            | (refine am_br rfl (by first | omega | (simp (decide := true) only [am_u_at, am_u_j, am_u_ne]; omega)) (fun h => ?_) (fun h => ?_))
            | (refine am_rt rfl (by first | exact True.intro | (refine And.intro ?_ ?_ <;> decide) | exact Or.inl rfl | exact Or.inr rfl | (show _ ∨ _; omega)) ?_))
          · exact am_wk [10] hg
          · exact am_wk [10] hg
        have loopj : ∀ (m2 j : Nat) (l : Int), (p : Int) ≤ i → j ≤ (es_Lm I0 p).length → (es_Lm I0 p).length - j < m2 → 0 ≤ l → l ≤ 1000000000000000000 → l < es_fd es_oc 0 (es_cq (I0 44 23) (es_Lm I0) (I0 44 20).toNat p (es_cs (I0 44 23) (es_Lm I0) (I0 44 20).toNat k p).1) (j : Int) ((es_Lm I0 p).length - j) → es_pk (es_cq (I0 44 23) (es_Lm I0) (I0 44 20).toNat p (es_cs (I0 44 23) (es_Lm I0) (I0 44 20).toNat k p).1) (j : Int) ((es_Lm I0 p).length - j) l = es_pk (es_cq (I0 44 23) (es_Lm I0) (I0 44 20).toNat p (es_cs (I0 44 23) (es_Lm I0) (I0 44 20).toNat k p).1) 0 (es_Lm I0 p).length (es_cs (I0 44 23) (es_Lm I0) (I0 44 20).toNat k p).2 → am_V (d + 4) Y_mo_chord (fun r I' => (¬ (0 ≤ k ∧ (0 ≤ i ∧ i < I0 44 20) ∧ (0 ≤ v ∧ v ≤ 2)) ∧ r = some (.inl (-2)) ∧ I' = I0) ∨ (((0 ≤ k ∧ (0 ≤ i ∧ i < I0 44 20) ∧ (0 ≤ v ∧ v ≤ 2)) ∧ es_ctot (I0 44 23) (es_Lm I0) (I0 44 20).toNat ≤ k) ∧ r = some (.inl (-1)) ∧ am_fr I0 I' [56, 57, 58]) ∨ (((0 ≤ k ∧ (0 ≤ i ∧ i < I0 44 20) ∧ (0 ≤ v ∧ v ≤ 2)) ∧ k < es_ctot (I0 44 23) (es_Lm I0) (I0 44 20).toNat) ∧ r = some (.inl (es_v3 (es_nth (es_Lm I0 i.toNat) (es_cs (I0 44 23) (es_Lm I0) (I0 44 20).toNat k (i.toNat + 1)).1) v)) ∧ am_fr I0 I' [56, 57, 58])) 78 [(0, .inr (.inr 44)), (1, .inr (.inl k)), (3, .inl i), (4, .inl v), (5, .inr (.inl l)), (7, .inl at'), (8, .inl p), (9, .inl (-1)), (10, .inl j)] [] I := by
          intro m2
          induction m2 with
          | zero => intro j l g0 g1 g2; omega
          | succ m2 ihj =>
            intro j l g0 g1 g2 g3 g4 g5 g6
            have hr3 := hrows p (by omega)
            have ep : (p : Int).toNat = p := by omega
            have hcnt2 : I 57 (p : Int).toNat = ((es_Lm I0 p).length : Int) := by rw [ep]; exact hr3.1.1
            have hlen := es_Lm_len hm (q := p) (by omega)
            have hj : j < (es_Lm I0 p).length := by
              refine Classical.byContradiction (fun c => ?_)
              rw [show (es_Lm I0 p).length - j = 0 by omega] at g5
              have e3 : es_fd es_oc 0 (es_cq (I0 44 23) (es_Lm I0) (I0 44 20).toNat p (es_cs (I0 44 23) (es_Lm I0) (I0 44 20).toNat k p).1) (j : Int) 0 = 0 := rfl
              omega
            have hwd := es_cq_D (I0 44 23) (es_Lm I0) (I0 44 20).toNat p (es_cs (I0 44 23) (es_Lm I0) (I0 44 20).toNat k p).1 (j : Int)
            unfold es_Dc at hwd
            have em : (es_Lm I0 p).length - j = ((es_Lm I0 p).length - (j + 1)) + 1 := by omega
            rw [em, es_fd_l es_mc (fun z => es_cq_D _ _ _ _ _ _)] at g5
            have g5' : l < min 1000000000000000000 (es_cq (I0 44 23) (es_Lm I0) (I0 44 20).toNat p (es_cs (I0 44 23) (es_Lm I0) (I0 44 20).toNat k p).1 (j : Int) + es_fd es_oc 0 (es_cq (I0 44 23) (es_Lm I0) (I0 44 20).toNat p (es_cs (I0 44 23) (es_Lm I0) (I0 44 20).toNat k p).1) ((j : Int) + 1) ((es_Lm I0 p).length - (j + 1))) := g5
            rw [em] at g6
            have done : l < es_cq (I0 44 23) (es_Lm I0) (I0 44 20).toNat p (es_cs (I0 44 23) (es_Lm I0) (I0 44 20).toNat k p).1 (j : Int) → es_pk (es_cq (I0 44 23) (es_Lm I0) (I0 44 20).toNat p (es_cs (I0 44 23) (es_Lm I0) (I0 44 20).toNat k p).1) 0 (es_Lm I0 p).length (es_cs (I0 44 23) (es_Lm I0) (I0 44 20).toNat k p).2 = ((j : Int), l) := by
              intro hl
              rw [← g6]
              show (if l < es_cq (I0 44 23) (es_Lm I0) (I0 44 20).toNat p (es_cs (I0 44 23) (es_Lm I0) (I0 44 20).toNat k p).1 (j : Int) then ((j : Int), l) else _) = _
              rw [if_pos hl]
            have cont : ¬ l < es_cq (I0 44 23) (es_Lm I0) (I0 44 20).toNat p (es_cs (I0 44 23) (es_Lm I0) (I0 44 20).toNat k p).1 (j : Int) → am_V (d + 4) Y_mo_chord (fun r I' => (¬ (0 ≤ k ∧ (0 ≤ i ∧ i < I0 44 20) ∧ (0 ≤ v ∧ v ≤ 2)) ∧ r = some (.inl (-2)) ∧ I' = I0) ∨ (((0 ≤ k ∧ (0 ≤ i ∧ i < I0 44 20) ∧ (0 ≤ v ∧ v ≤ 2)) ∧ es_ctot (I0 44 23) (es_Lm I0) (I0 44 20).toNat ≤ k) ∧ r = some (.inl (-1)) ∧ am_fr I0 I' [56, 57, 58]) ∨ (((0 ≤ k ∧ (0 ≤ i ∧ i < I0 44 20) ∧ (0 ≤ v ∧ v ≤ 2)) ∧ k < es_ctot (I0 44 23) (es_Lm I0) (I0 44 20).toNat) ∧ r = some (.inl (es_v3 (es_nth (es_Lm I0 i.toNat) (es_cs (I0 44 23) (es_Lm I0) (I0 44 20).toNat k (i.toNat + 1)).1) v)) ∧ am_fr I0 I' [56, 57, 58])) 78 [(0, .inr (.inr 44)), (1, .inr (.inl k)), (3, .inl i), (4, .inl v), (5, .inr (.inl (l - es_cq (I0 44 23) (es_Lm I0) (I0 44 20).toNat p (es_cs (I0 44 23) (es_Lm I0) (I0 44 20).toNat k p).1 (j : Int)))), (7, .inl at'), (8, .inl p), (9, .inl (-1)), (10, .inl ((j : Int) + 1))] [] I := by
              intro hl
              have g8 : es_pk (es_cq (I0 44 23) (es_Lm I0) (I0 44 20).toNat p (es_cs (I0 44 23) (es_Lm I0) (I0 44 20).toNat k p).1) (j : Int) (((es_Lm I0 p).length - (j + 1)) + 1) l = es_pk (es_cq (I0 44 23) (es_Lm I0) (I0 44 20).toNat p (es_cs (I0 44 23) (es_Lm I0) (I0 44 20).toNat k p).1) ((j : Int) + 1) ((es_Lm I0 p).length - (j + 1)) (l - es_cq (I0 44 23) (es_Lm I0) (I0 44 20).toNat p (es_cs (I0 44 23) (es_Lm I0) (I0 44 20).toNat k p).1 (j : Int)) := by
                show (if l < es_cq (I0 44 23) (es_Lm I0) (I0 44 20).toNat p (es_cs (I0 44 23) (es_Lm I0) (I0 44 20).toNat k p).1 (j : Int) then ((j : Int), l) else _) = _
                rw [if_neg hl]
              have h9 := ihj (j + 1) (l - es_cq (I0 44 23) (es_Lm I0) (I0 44 20).toNat p (es_cs (I0 44 23) (es_Lm I0) (I0 44 20).toNat k p).1 (j : Int)) g0 (by omega) (by omega) (by omega) (by omega)
              rw [show ((j + 1 : Nat) : Int) = (j : Int) + 1 by omega] at h9
              exact h9 (by omega) (g8.symm.trans g6)
            have hent : I 58 (30 * (p : Int) + (j : Int)).toNat = es_cw (I0 44 23) (es_Lm I0) (I0 44 20).toNat ((I0 44 20).toNat - 1 - p) j := hr3.2 j hj
            have hcd := es_cw_D (most := (I0 44 23)) (Ls := (es_Lm I0)) (n := (I0 44 20).toNat) ((I0 44 20).toNat - 1 - p) j
            have q0 : p = 0 → I 58 (30 * (p : Int) + (j : Int)).toNat = es_cq (I0 44 23) (es_Lm I0) (I0 44 20).toNat p (es_cs (I0 44 23) (es_Lm I0) (I0 44 20).toNat k p).1 (j : Int) := by
              intro h
              rw [hent]
              exact (es_cq_t (Or.inl h)).symm
            clear g6
            refine am_go 1 [] rfl trivial ?_
            repeat' (first
              | (refine am_gp 80 [101, 116, 163] rfl (by first | exact True.intro | (refine And.intro ?_ ?_ <;> decide) | exact Or.inl rfl | exact Or.inr rfl | (simp (decide := true) only [am_p, am_u_at, am_u_j, am_u_ne]; omega) | (simp (decide := true) only [am_p, and_true, true_and, true_or, or_true, am_u_at, am_u_j, am_u_ne]; omega) | (simp (decide := true) [am_p, am_u_at, am_u_j, am_u_ne]; omega)) ?_)
              | (show am_V _ _ _ _ _ _ _; simp only [Int.reduceToNat])
              | (refine am_bt rfl (by first | omega | (simp (decide := true) only [am_u_at, am_u_j, am_u_ne]; omega)) (by first | omega | (simp (decide := true) only [am_u_at, am_u_j, am_u_ne]; omega)) ?_)
              | (refine am_bf rfl (by first | omega | (simp (decide := true) only [am_u_at, am_u_j, am_u_ne]; omega)) (by first | omega | (simp (decide := true) only [am_u_at, am_u_j, am_u_ne]; omega)) ?_)
              | (refine am_br rfl (by first | omega | (simp (decide := true) only [am_u_at, am_u_j, am_u_ne]; omega)) (fun h => ?_) (fun h => ?_))
              | (refine am_rt rfl (by first | exact True.intro | (refine And.intro ?_ ?_ <;> decide) | exact Or.inl rfl | exact Or.inr rfl | (show _ ∨ _; omega)) ?_))
            · have q3 := q0 (by omega)
              repeat' (first
                | (refine am_gp 80 [78] rfl (by first | exact True.intro | (refine And.intro ?_ ?_ <;> decide) | exact Or.inl rfl | exact Or.inr rfl | (simp (decide := true) only [am_p, am_u_at, am_u_j, am_u_ne]; omega) | (simp (decide := true) only [am_p, and_true, true_and, true_or, or_true, am_u_at, am_u_j, am_u_ne]; omega) | (simp (decide := true) [am_p, am_u_at, am_u_j, am_u_ne]; omega)) ?_)
                | (show am_V _ _ _ _ _ _ _; simp only [Int.reduceToNat])
                | (refine am_bt rfl (by first | omega | (simp (decide := true) only [am_u_at, am_u_j, am_u_ne]; omega)) (by first | omega | (simp (decide := true) only [am_u_at, am_u_j, am_u_ne]; omega)) ?_)
                | (refine am_bf rfl (by first | omega | (simp (decide := true) only [am_u_at, am_u_j, am_u_ne]; omega)) (by first | omega | (simp (decide := true) only [am_u_at, am_u_j, am_u_ne]; omega)) ?_)
                | (refine am_br rfl (by first | omega | (simp (decide := true) only [am_u_at, am_u_j, am_u_ne]; omega)) (fun h => ?_) (fun h => ?_))
                | (refine am_rt rfl (by first | exact True.intro | (refine And.intro ?_ ?_ <;> decide) | exact Or.inl rfl | exact Or.inr rfl | (show _ ∨ _; omega)) ?_))
              · refine am_wk [11] ?_
                rw [q3]
                exact cont (by omega)
              · refine am_wk [11] ?_
                have h9 := fin j (j + 1) l g0 hj (done (by omega)) (by omega)
                rw [show ((j + 1 : Nat) : Int) = (j : Int) + 1 by omega] at h9
                exact h9
            · have hp0 : 0 < p := by omega
              have hat2 : at' = ((es_cs (I0 44 23) (es_Lm I0) (I0 44 20).toNat k p).1 : Int) := by
                rcases hat with c | c
                · omega
                · exact c.2
              have hpv := hprev hp0
              have hrp := hrows (p - 1) (by omega)
              have hlp := es_Lm_len hm (q := p - 1) (by omega)
              have vx1 : ∀ v : Int, 0 ≤ v → v ≤ 2 → I 56 (90 * ((p : Int) - 1) + 3 * at' + v).toNat = es_v3 (es_nth (es_Lm I0 (p - 1)) (es_cs (I0 44 23) (es_Lm I0) (I0 44 20).toNat k p).1) v := by
                intro v v0 v2
                have := es_ti_v hrp.1 hpv v v0 v2
                rw [show ((p - 1 : Nat) : Int) = (p : Int) - 1 by omega, ← hat2] at this
                exact this
              have vy1 : ∀ v : Int, 0 ≤ v → v ≤ 2 → I 56 (90 * ((p : Int) - 1 + 1) + 3 * (j : Int) + v).toNat = es_v3 (es_nth (es_Lm I0 p) j) v := by
                intro v v0 v2
                have := es_ti_v hr3.1 hj v v0 v2
                rw [show (p : Int) = (p : Int) - 1 + 1 by omega] at this
                exact this
              have ax := es_Lm_asc hm (q := p - 1) (k := (es_cs (I0 44 23) (es_Lm I0) (I0 44 20).toNat k p).1) (by omega) hpv
              have ay := es_Lm_asc hm (q := p) (k := j) (by omega) hj
              have q1 : es_fo (I 44 23) (es_nth (es_Lm I0 (p - 1)) (es_cs (I0 44 23) (es_Lm I0) (I0 44 20).toNat k p).1) (es_nth (es_Lm I0 p) j) → I 58 (30 * (p : Int) + (j : Int)).toNat = es_cq (I0 44 23) (es_Lm I0) (I0 44 20).toNat p (es_cs (I0 44 23) (es_Lm I0) (I0 44 20).toNat k p).1 (j : Int) := by
                intro hfo
                rw [b23] at hfo
                rw [hent]
                exact (es_cq_t (Or.inr hfo)).symm
              have q2 : ¬ es_fo (I 44 23) (es_nth (es_Lm I0 (p - 1)) (es_cs (I0 44 23) (es_Lm I0) (I0 44 20).toNat k p).1) (es_nth (es_Lm I0 p) j) → es_cq (I0 44 23) (es_Lm I0) (I0 44 20).toNat p (es_cs (I0 44 23) (es_Lm I0) (I0 44 20).toNat k p).1 (j : Int) = 0 := by
                intro hfo
                rw [b23] at hfo
                exact es_cq_f (fun z => z.elim (by omega) hfo)
              generalize hvx : es_nth (es_Lm I0 (p - 1)) (es_cs (I0 44 23) (es_Lm I0) (I0 44 20).toNat k p).1 = vx at *
              generalize hvy : es_nth (es_Lm I0 p) j = vy at *
              repeat' (first
                | (refine am_gp 80 [116, 132] rfl (by first | exact True.intro | (refine And.intro ?_ ?_ <;> decide) | exact Or.inl rfl | exact Or.inr rfl | (simp (decide := true) only [am_p, am_u_at, am_u_j, am_u_ne]; omega) | (simp (decide := true) only [am_p, and_true, true_and, true_or, or_true, am_u_at, am_u_j, am_u_ne]; omega) | (simp (decide := true) [am_p, am_u_at, am_u_j, am_u_ne]; omega)) ?_)
                | (show am_V _ _ _ _ _ _ _; simp only [Int.reduceToNat])
                | (refine am_bt rfl (by first | omega | (simp (decide := true) only [am_u_at, am_u_j, am_u_ne]; omega)) (by first | omega | (simp (decide := true) only [am_u_at, am_u_j, am_u_ne]; omega)) ?_)
                | (refine am_bf rfl (by first | omega | (simp (decide := true) only [am_u_at, am_u_j, am_u_ne]; omega)) (by first | omega | (simp (decide := true) only [am_u_at, am_u_j, am_u_ne]; omega)) ?_)
                | (refine am_br rfl (by first | omega | (simp (decide := true) only [am_u_at, am_u_j, am_u_ne]; omega)) (fun h => ?_) (fun h => ?_))
                | (refine am_cV (y' := Y_mo_follows) rfl lk_mo_208 ok_mo_follows rfl rfl rfl (c_follows _ _ _ _ _ vx vy (by first | omega | (simp (decide := true) only [am_u_at, am_u_j, am_u_ne]; omega)) (by first | omega | (simp (decide := true) only [am_u_at, am_u_j, am_u_ne]; omega)) (by first | omega | (simp (decide := true) only [am_u_at, am_u_j, am_u_ne]; omega)) (by assumption) (by assumption) (by assumption) (by assumption) (by first | omega | (simp (decide := true) only [am_u_at, am_u_j, am_u_ne]; omega))) ?_; rintro r I ⟨rfl, (⟨rfl, hfo⟩ | ⟨rfl, hfo⟩)⟩ <;> (try (exfalso; omega)))
                | (refine am_rt rfl (by first | exact True.intro | (refine And.intro ?_ ?_ <;> decide) | exact Or.inl rfl | exact Or.inr rfl | (show _ ∨ _; omega)) ?_))
              · have q3 := q1 hfo
                repeat' (first
                  | (refine am_gp 80 [78] rfl (by first | exact True.intro | (refine And.intro ?_ ?_ <;> decide) | exact Or.inl rfl | exact Or.inr rfl | (simp (decide := true) only [am_p, am_u_at, am_u_j, am_u_ne]; omega) | (simp (decide := true) only [am_p, and_true, true_and, true_or, or_true, am_u_at, am_u_j, am_u_ne]; omega) | (simp (decide := true) [am_p, am_u_at, am_u_j, am_u_ne]; omega)) ?_)
                  | (show am_V _ _ _ _ _ _ _; simp only [Int.reduceToNat])
                  | (refine am_bt rfl (by first | omega | (simp (decide := true) only [am_u_at, am_u_j, am_u_ne]; omega)) (by first | omega | (simp (decide := true) only [am_u_at, am_u_j, am_u_ne]; omega)) ?_)
                  | (refine am_bf rfl (by first | omega | (simp (decide := true) only [am_u_at, am_u_j, am_u_ne]; omega)) (by first | omega | (simp (decide := true) only [am_u_at, am_u_j, am_u_ne]; omega)) ?_)
                  | (refine am_br rfl (by first | omega | (simp (decide := true) only [am_u_at, am_u_j, am_u_ne]; omega)) (fun h => ?_) (fun h => ?_))
                  | (refine am_rt rfl (by first | exact True.intro | (refine And.intro ?_ ?_ <;> decide) | exact Or.inl rfl | exact Or.inr rfl | (show _ ∨ _; omega)) ?_))
                · refine am_wk [11] ?_
                  rw [q3]
                  exact cont (by omega)
                · refine am_wk [11] ?_
                  have h9 := fin j (j + 1) l g0 hj (done (by omega)) (by omega)
                  rw [show ((j + 1 : Nat) : Int) = (j : Int) + 1 by omega] at h9
                  exact h9
              · have q3 := q2 hfo
                repeat' (first
                  | (refine am_gp 80 [78] rfl (by first | exact True.intro | (refine And.intro ?_ ?_ <;> decide) | exact Or.inl rfl | exact Or.inr rfl | (simp (decide := true) only [am_p, am_u_at, am_u_j, am_u_ne]; omega) | (simp (decide := true) only [am_p, and_true, true_and, true_or, or_true, am_u_at, am_u_j, am_u_ne]; omega) | (simp (decide := true) [am_p, am_u_at, am_u_j, am_u_ne]; omega)) ?_)
                  | (show am_V _ _ _ _ _ _ _; simp only [Int.reduceToNat])
                  | (refine am_bt rfl (by first | omega | (simp (decide := true) only [am_u_at, am_u_j, am_u_ne]; omega)) (by first | omega | (simp (decide := true) only [am_u_at, am_u_j, am_u_ne]; omega)) ?_)
                  | (refine am_bf rfl (by first | omega | (simp (decide := true) only [am_u_at, am_u_j, am_u_ne]; omega)) (by first | omega | (simp (decide := true) only [am_u_at, am_u_j, am_u_ne]; omega)) ?_)
                  | (refine am_br rfl (by first | omega | (simp (decide := true) only [am_u_at, am_u_j, am_u_ne]; omega)) (fun h => ?_) (fun h => ?_))
                  | (refine am_rt rfl (by first | exact True.intro | (refine And.intro ?_ ?_ <;> decide) | exact Or.inl rfl | exact Or.inr rfl | (show _ ∨ _; omega)) ?_))
                refine am_wk [11] ?_
                have h9 := cont (by omega)
                rw [q3] at h9
                exact h9
        refine am_go 1 [] rfl trivial ?_
        clear hcs
        repeat' (first
          | (refine am_gp 80 [78, 173] rfl (by first | exact True.intro | (refine And.intro ?_ ?_ <;> decide) | exact Or.inl rfl | exact Or.inr rfl | (simp (decide := true) only [am_p, am_u_at, am_u_j, am_u_ne]; omega) | (simp (decide := true) only [am_p, and_true, true_and, true_or, or_true, am_u_at, am_u_j, am_u_ne]; omega) | (simp (decide := true) [am_p, am_u_at, am_u_j, am_u_ne]; omega)) ?_)
          | (show am_V _ _ _ _ _ _ _; simp only [Int.reduceToNat])
          | (refine am_bt rfl (by first | omega | (simp (decide := true) only [am_u_at, am_u_j, am_u_ne]; omega)) (by first | omega | (simp (decide := true) only [am_u_at, am_u_j, am_u_ne]; omega)) ?_)
          | (refine am_bf rfl (by first | omega | (simp (decide := true) only [am_u_at, am_u_j, am_u_ne]; omega)) (by first | omega | (simp (decide := true) only [am_u_at, am_u_j, am_u_ne]; omega)) ?_)
          | (refine am_br rfl (by first | omega | (simp (decide := true) only [am_u_at, am_u_j, am_u_ne]; omega)) (fun h => ?_) (fun h => ?_))
          | (refine am_rt rfl (by first | exact True.intro | (refine And.intro ?_ ?_ <;> decide) | exact Or.inl rfl | exact Or.inr rfl | (show _ ∨ _; omega)) ?_))
        · have epi : p = i.toNat + 1 := by omega
          have hat2 : at' = ((es_cs (I0 44 23) (es_Lm I0) (I0 44 20).toNat k p).1 : Int) := by
            rcases hat with c | c
            · omega
            · exact c.2
          have hpv := hprev (by omega)
          have hri := hrows i.toNat (by omega)
          rw [show p - 1 = i.toNat by omega] at hpv
          have hlp := es_Lm_len hm (q := i.toNat) (by omega)
          have hval := es_ti_v hri.1 hpv v hok.2.2.1 hok.2.2.2
          rw [show ((i.toNat : Nat) : Int) = i by omega, ← hat2] at hval
          repeat' (first
            | (refine am_gp 80 [] rfl (by first | exact True.intro | (refine And.intro ?_ ?_ <;> decide) | exact Or.inl rfl | exact Or.inr rfl | (simp (decide := true) only [am_p, am_u_at, am_u_j, am_u_ne]; omega) | (simp (decide := true) only [am_p, and_true, true_and, true_or, or_true, am_u_at, am_u_j, am_u_ne]; omega) | (simp (decide := true) [am_p, am_u_at, am_u_j, am_u_ne]; omega)) ?_)
            | (show am_V _ _ _ _ _ _ _; simp only [Int.reduceToNat])
            | (refine am_bt rfl (by first | omega | (simp (decide := true) only [am_u_at, am_u_j, am_u_ne]; omega)) (by first | omega | (simp (decide := true) only [am_u_at, am_u_j, am_u_ne]; omega)) ?_)
            | (refine am_bf rfl (by first | omega | (simp (decide := true) only [am_u_at, am_u_j, am_u_ne]; omega)) (by first | omega | (simp (decide := true) only [am_u_at, am_u_j, am_u_ne]; omega)) ?_)
            | (refine am_br rfl (by first | omega | (simp (decide := true) only [am_u_at, am_u_j, am_u_ne]; omega)) (fun h => ?_) (fun h => ?_))
            | (refine am_cV (y' := Y_mo_pitchOf) rfl lk_mo_202 ok_mo_pitchOf rfl rfl rfl (c_mo_pitchOf _ _ _ _ _ (by first | omega | (simp (decide := true) only [am_u_at, am_u_j, am_u_ne]; omega))) ?_; rintro r I ⟨rfl, rfl⟩)
            | (refine am_rt rfl (by first | exact True.intro | (refine And.intro ?_ ?_ <;> decide) | exact Or.inl rfl | exact Or.inr rfl | (show _ ∨ _; omega)) ?_))
          refine Or.inr (Or.inr ⟨⟨hok, hkt⟩, ?_, hf⟩)
          rw [hval, epi]
        · have h5 := a2 (by omega)
          have h9 := loopj 8 0 (es_cs (I0 44 23) (es_Lm I0) (I0 44 20).toNat k p).2 (by omega) (by omega) (by have := es_Lm_len hm (q := p) (by omega); omega) a1 (hx2 (by omega)) h5 rfl
          exact h9
    exact loopp 8 0 (-1) (by omega) (by omega) (Or.inl ⟨rfl, rfl⟩)
  repeat' (first
    | (refine am_gp 80 [66] rfl (by first | exact True.intro | (refine And.intro ?_ ?_ <;> decide) | exact Or.inl rfl | exact Or.inr rfl | (simp (decide := true) only [am_p, am_u_at, am_u_j, am_u_ne]; omega) | (simp (decide := true) only [am_p, and_true, true_and, true_or, or_true, am_u_at, am_u_j, am_u_ne]; omega) | (simp (decide := true) [am_p, am_u_at, am_u_j, am_u_ne]; omega)) ?_)
    | (show am_V _ _ _ _ _ _ _; simp only [Int.reduceToNat])
    | (refine am_bt rfl (by first | omega | (simp (decide := true) only [am_u_at, am_u_j, am_u_ne]; omega)) (by first | omega | (simp (decide := true) only [am_u_at, am_u_j, am_u_ne]; omega)) ?_)
    | (refine am_bf rfl (by first | omega | (simp (decide := true) only [am_u_at, am_u_j, am_u_ne]; omega)) (by first | omega | (simp (decide := true) only [am_u_at, am_u_j, am_u_ne]; omega)) ?_)
    | (refine am_br rfl (by first | omega | (simp (decide := true) only [am_u_at, am_u_j, am_u_ne]; omega)) (fun h => ?_) (fun h => ?_))
    | (refine am_cS (y' := Y_mo_in) rfl lk_mo_114 ok_mo_in rfl rfl (c_mo_in _ _ _ _ _ (by first | omega | (simp (decide := true) only [am_u_at, am_u_j, am_u_ne]; omega)) (by first | omega | (simp (decide := true) only [am_u_at, am_u_j, am_u_ne]; omega)) (by first | omega | (simp (decide := true) only [am_u_at, am_u_j, am_u_ne]; omega))) ?_; rintro r I0 ⟨rfl, (⟨rfl, h⟩ | ⟨rfl, h⟩)⟩ <;> (try (exfalso; omega)))
    | (refine am_cV (y' := Y_mo_chords) rfl lk_mo_217 ok_mo_chords rfl rfl rfl (c_mo_chords _ I0 hm) ?_; rintro r I0 ⟨rfl, hfr, hrows⟩)
    | (refine am_rt rfl (by first | exact True.intro | (refine And.intro ?_ ?_ <;> decide) | exact Or.inl rfl | exact Or.inr rfl | (show _ ∨ _; omega)) ?_))
  all_goals first
    | exact Or.inl ⟨by omega, rfl, rfl⟩
    | exact Or.inr (Or.inl ⟨⟨by omega, by omega⟩, rfl, hfr⟩)
    | exact main _ hfr hrows (by omega) (by omega)
