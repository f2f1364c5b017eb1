def es_Dt (T : Nat → Int) (Q : Nat → Nat → Int) (M N : Nat) (i j : Int) : Prop := ∀ (i' j' : Nat) (c' : Int), i' ≤ M → j' ≤ N → -12 ≤ c' → c' ≤ 12 → (i < (i' : Int) ∨ (i = (i' : Int) ∧ j < (j' : Int))) → T (((i' : Int) * 25 + (j' : Int)) * 25 + c' + 12).toNat = es_k0 Q M N (M - i') (N - j') c'
theorem es_Dt_w {T : Nat → Int} {Q : Nat → Nat → Int} {M N : Nat} {i j i2 j2 : Int} (h : es_Dt T Q M N i j) (hw : ∀ (i' j' : Nat), i' ≤ M → j' ≤ N → (i2 < (i' : Int) ∨ (i2 = (i' : Int) ∧ j2 < (j' : Int))) → (i < (i' : Int) ∨ (i = (i' : Int) ∧ j < (j' : Int)))) : es_Dt T Q M N i2 j2 := fun i' j' c' h1 h2 h4 h5 h6 => h i' j' c' h1 h2 h4 h5 (hw i' j' h1 h2 h6)
theorem es_Dt_h3 {T : Nat → Int} {Q : Nat → Nat → Int} {M N i j : Nat} (h : es_Dt T Q M N i j) (hi : i ≤ M) (hj : j ≤ N) : es_h3 T Q M N i j := by
  intro c h1 h2
  refine ⟨fun a b => ?_, fun a => ?_, fun a => ?_⟩
  · have h5 := h (i + 1) (j + 1) c (by omega) (by omega) h1 h2 (Or.inl (by omega))
    rw [show ((i + 1 : Nat) : Int) = (i : Int) + 1 by omega, show ((j + 1 : Nat) : Int) = (j : Int) + 1 by omega, show M - (i + 1) = M - i - 1 by omega, show N - (j + 1) = N - j - 1 by omega] at h5
    exact h5
  · have h5 := h (i + 1) j c (by omega) (by omega) h1 h2 (Or.inl (by omega))
    rw [show ((i + 1 : Nat) : Int) = (i : Int) + 1 by omega, show M - (i + 1) = M - i - 1 by omega] at h5
    exact h5
  · have h5 := h i (j + 1) c hi (by omega) h1 h2 (Or.inr ⟨rfl, by omega⟩)
    rw [show ((j + 1 : Nat) : Int) = (j : Int) + 1 by omega, show N - (j + 1) = N - j - 1 by omega] at h5
    exact h5
theorem es_Dt_s {T T' : Nat → Int} {Q : Nat → Nat → Int} {M N i j : Nat} (hM : M ≤ 24) (hN : N ≤ 24) (h : es_Dt T Q M N i j) (hi : i ≤ M) (hj : j ≤ N) (hou : ∀ x : Nat, ¬ (((i : Int) * 25 + (j : Int)) * 25 ≤ (x : Int) ∧ (x : Int) < ((i : Int) * 25 + (j : Int)) * 25 + 25) → T' x = T x) (hin : ∀ c : Int, -12 ≤ c → c ≤ 12 → T' (((i : Int) * 25 + (j : Int)) * 25 + c + 12).toNat = es_k0 Q M N (M - i) (N - j) c) : es_Dt T' Q M N i ((j : Int) - 1) := by
  intro i' j' c' h1 h2 h4 h5 h6
  by_cases e : i' = i ∧ j' = j
  · obtain ⟨e1, e2⟩ := e
    rw [e1, e2]
    exact hin c' h4 h5
  · rw [hou _ (by omega)]
    exact h i' j' c' h1 h2 h4 h5 (by omega)
def es_axc (Q : Nat → Nat → Int) (M N : Nat) (I : am_I) (k : Nat) : Prop := I 25 k = es_ja Q M N (es_js Q M N k) ∧ I 26 k = es_a1 (es_js Q M N k) (es_ja Q M N (es_js Q M N k)) ∧ I 27 k = es_a2 (es_js Q M N k) (es_ja Q M N (es_js Q M N k)) ∧ I 28 k = es_a3 Q (es_js Q M N k) (es_ja Q M N (es_js Q M N k))
theorem c_ju_read (d : Nat) (I0 J : am_I) (M N : Nat) (heq : es_eqc I0 J) (hn : es_nc J) (hM : J 4 2 = (M : Int)) (hN : J 1 2 = (N : Int)) (hD : es_Dt (I0 24) (es_Qc J) M N (-1) 0) : am_C (d + 5) Y_ju_readActs [.inr (.inr 23)] I0 (fun r I' => r = none ∧ am_fr I0 I' [23, 25, 26, 27, 28] ∧ es_exN (fun T => T ≤ 96 ∧ es_jT (es_Qc J) M N T ∧ I' 23 = am_up (I0 23) 7 (T : Int) ∧ ∀ k : Nat, k < T → es_axc (es_Qc J) M N I' k)) := by
  refine am_enter ok_ju_readActs rfl ?_
  have hM4 : M ≤ 24 := by have := hn.1; omega
  have hN4 : N ≤ 24 := by have := hn.2.1; omega
  have loopk : ∀ (m k : Nat) (I : am_I), am_fr I0 I [23, 25, 26, 27, 28] → I 23 = am_up (I0 23) 7 (k : Int) → (∀ x : Nat, x < k → es_axc (es_Qc J) M N I x) → (∀ x : Nat, x < k → ¬ es_je M N (es_js (es_Qc J) M N x)) → 97 - k < m → k ≤ 96 → am_V (d + 5) Y_ju_readActs (fun r I' => r = none ∧ am_fr I0 I' [23, 25, 26, 27, 28] ∧ es_exN (fun T => T ≤ 96 ∧ es_jT (es_Qc J) M N T ∧ I' 23 = am_up (I0 23) 7 (T : Int) ∧ ∀ k : Nat, k < T → es_axc (es_Qc J) M N I' k)) 17 [(0, .inr (.inr 23)), (1, .inl ((es_js (es_Qc J) M N k).1 : Int)), (2, .inl ((es_js (es_Qc J) M N k).2.1 : Int)), (3, .inl (es_js (es_Qc J) M N k).2.2.1), (4, .inl (es_js (es_Qc J) M N k).2.2.2), (5, .inl (k : Int))] [] I := by
    intro m
    induction m with
    | zero => intro k I hf h23 hax hne h1 h2; omega
    | succ m ih =>
      intro k I hf h23 hax hne h1 h2
      have heq1 : es_eqc I J := by
        obtain ⟨⟨q1, q2, q3, q4⟩, q5, q6⟩ := heq
        exact ⟨⟨(hf 2 rfl).trans q1, (hf 3 rfl).trans q2, (hf 5 rfl).trans q3, (hf 6 rfl).trans q4⟩, by rw [hf 1 rfl]; exact q5, by rw [hf 4 rfl]; exact q6⟩
      have b1 : I 1 2 = (N : Int) := heq1.2.1.trans hN
      have b4 : I 4 2 = (M : Int) := heq1.2.2.trans hM
      have b7 : I 23 7 = (k : Int) := by rw [h23, am_up_eq]
      have hv := es_js_v (Q := es_Qc J) hM4 hN4 k hne
      have hjs : es_js (es_Qc J) M N (k + 1) = es_jx (es_js (es_Qc J) M N k) (es_ja (es_Qc J) M N (es_js (es_Qc J) M N k)) := rfl
      have haxk : ∀ I2 : am_I, I2 25 = am_up (I 25) k (es_ja (es_Qc J) M N (es_js (es_Qc J) M N k)) → I2 26 = am_up (I 26) k (es_a1 (es_js (es_Qc J) M N k) (es_ja (es_Qc J) M N (es_js (es_Qc J) M N k))) → I2 27 = am_up (I 27) k (es_a2 (es_js (es_Qc J) M N k) (es_ja (es_Qc J) M N (es_js (es_Qc J) M N k))) → I2 28 = am_up (I 28) k (es_a3 (es_Qc J) (es_js (es_Qc J) M N k) (es_ja (es_Qc J) M N (es_js (es_Qc J) M N k))) → ∀ x : Nat, x < k + 1 → es_axc (es_Qc J) M N I2 x := by
        intro I2 g0 g1 g2 g3 x hx
        unfold es_axc
        rw [g0, g1, g2, g3]
        by_cases c : x = k
        · rw [c, am_up_eq, am_up_eq, am_up_eq, am_up_eq]
          exact ⟨rfl, rfl, rfl, rfl⟩
        · rw [am_up_ne c, am_up_ne c, am_up_ne c, am_up_ne c]
          exact hax x (by omega)
      have hne2 : ¬ es_je M N (es_js (es_Qc J) M N k) → ∀ x : Nat, x < k + 1 → ¬ es_je M N (es_js (es_Qc J) M N x) := by
        intro h x hx
        by_cases c : x = k
        · rw [c]; exact h
        · exact hne x (by omega)
      have hok : ¬ es_je M N (es_js (es_Qc J) M N k) → _ := fun h => es_ja_ok (Q := es_Qc J) hM4 hN4 hv.1 h
      have hk96 : ¬ es_je M N (es_js (es_Qc J) M N k) → k ≤ 95 := by
        intro h
        have h5 := hv.2
        obtain ⟨⟨v1, v2⟩, v3, v4⟩ := hv.1
        have h6 : ¬ ((es_js (es_Qc J) M N k).1 = M ∧ (es_js (es_Qc J) M N k).2.1 = N) := h
        omega
      obtain ⟨⟨v1, v2⟩, v3, v4⟩ := hv.1
      have e24 : I 24 = I0 24 := hf 24 rfl
      have hDk : I 24 ((((es_js (es_Qc J) M N k).1 : Int) * 25 + ((es_js (es_Qc J) M N k).2.1 : Int)) * 25 + (es_js (es_Qc J) M N k).2.2.1 + 12).toNat = es_k0 (es_Qc J) M N (M - (es_js (es_Qc J) M N k).1) (N - (es_js (es_Qc J) M N k).2.1) (es_js (es_Qc J) M N k).2.2.1 := by
        rw [e24]
        exact hD _ _ _ v1 v2 v3.1 v3.2 (Or.inl (by omega))
      have h3 : es_h3 (I 24) (es_Qc J) M N (es_js (es_Qc J) M N k).1 (es_js (es_Qc J) M N k).2.1 := by
        rw [e24]
        exact es_Dt_h3 (es_Dt_w hD (fun i' j' _ _ _ => Or.inl (by omega))) v1 v2
      generalize hs : es_js (es_Qc J) M N k = s at *
      obtain ⟨si, sj, sc, st⟩ := s
      replace hDk : I 24 (((si : Int) * 25 + (sj : Int)) * 25 + sc + 12).toNat = es_k0 (es_Qc J) M N (M - si) (N - sj) sc := hDk
      replace v1 : si ≤ M := v1
      replace v2 : sj ≤ N := v2
      replace v3 : -12 ≤ sc ∧ sc ≤ 12 := v3
      replace v4 : st = 0 ∨ st = 1 := v4
      replace h3 : es_h3 (I 24) (es_Qc J) M N si sj := h3
      clear hv
      by_cases g0 : es_je M N (si, sj, sc, st)
      · have hend : es_je M N (es_js (es_Qc J) M N k) := by rw [hs]; exact g0
        have g1 : si = M := g0.1
        have g2 : sj = N := g0.2
        refine am_go 1 [] rfl trivial ?_
        clear hok hk96 haxk hjs hDk h3 hne2 ih hD
        repeat' (first
          | (refine am_gp 80 [] rfl (by first | exact True.intro | (refine And.intro ?_ ?_ <;> decide) | exact Or.inl rfl | exact Or.inr rfl | (simp (decide := true) only [am_p, am_u_at, am_u_j, am_u_ne]; omega) | (simp (decide := true) only [am_p, and_true, true_and, true_or, or_true, am_u_at, am_u_j, am_u_ne]; omega) | (simp (decide := true) [am_p, am_u_at, am_u_j, am_u_ne]; omega)) ?_)
          | (show am_V _ _ _ _ _ _ _; simp only [Int.reduceToNat])
          | (refine am_bt rfl (by first | omega | (simp (decide := true) only [am_u_at, am_u_j, am_u_ne]; omega)) (by first | omega | (simp (decide := true) only [am_u_at, am_u_j, am_u_ne]; omega)) ?_)
          | (refine am_bf rfl (by first | omega | (simp (decide := true) only [am_u_at, am_u_j, am_u_ne]; omega)) (by first | omega | (simp (decide := true) only [am_u_at, am_u_j, am_u_ne]; omega)) ?_)
          | (refine am_br rfl (by first | omega | (simp (decide := true) only [am_u_at, am_u_j, am_u_ne]; omega)) (fun h => ?_) (fun h => ?_))
          | (refine am_rt rfl (by first | exact True.intro | (refine And.intro ?_ ?_ <;> decide) | exact Or.inl rfl | exact Or.inr rfl | (show _ ∨ _; omega)) ?_))
        all_goals exact ⟨rfl, hf, k, h2, ⟨hend, hne⟩, h23, hax⟩
      · have hne3 : ¬ (si = M ∧ sj = N) := g0
        have hk5 := hk96 g0
        obtain ⟨o1, o2, o3, o4, o5, o6⟩ := hok g0
        have ek : (I 23 7).toNat = k := by omega
        have lay : ∀ (w1 w2 cost : Int), w1 = es_a1 (si, sj, sc, st) (es_ja (es_Qc J) M N (si, sj, sc, st)) → w2 = es_a2 (si, sj, sc, st) (es_ja (es_Qc J) M N (si, sj, sc, st)) → cost = es_a3 (es_Qc J) (si, sj, sc, st) (es_ja (es_Qc J) M N (si, sj, sc, st)) → ∀ (i2 j2 : Nat) (c2 t2 : Int), es_jx (si, sj, sc, st) (es_ja (es_Qc J) M N (si, sj, sc, st)) = (i2, j2, c2, t2) → am_V (d + 5) Y_ju_readActs (fun r I' => r = none ∧ am_fr I0 I' [23, 25, 26, 27, 28] ∧ es_exN (fun T => T ≤ 96 ∧ es_jT (es_Qc J) M N T ∧ I' 23 = am_up (I0 23) 7 (T : Int) ∧ ∀ k : Nat, k < T → es_axc (es_Qc J) M N I' k)) 17 [(0, .inr (.inr 23)), (1, .inl (i2 : Int)), (2, .inl (j2 : Int)), (3, .inl c2), (4, .inl t2), (5, .inl ((k : Int) + 1))] [] (am_u (am_u (am_u (am_u (am_u I 25 (I 23 7).toNat (es_ja (es_Qc J) M N (si, sj, sc, st))) 26 (I 23 7).toNat w1) 27 (I 23 7).toNat w2) 28 (I 23 7).toNat cost) 23 7 (I 23 7 + 1)) := by
          intro w1 w2 cost hw1 hw2 hcost i2 j2 c2 t2 hx
          have h9 := ih (k + 1) (am_u (am_u (am_u (am_u (am_u I 25 (I 23 7).toNat (es_ja (es_Qc J) M N (si, sj, sc, st))) 26 (I 23 7).toNat w1) 27 (I 23 7).toNat w2) 28 (I 23 7).toNat cost) 23 7 (I 23 7 + 1)) (((((hf.u _ _ rfl).u _ _ rfl).u _ _ rfl).u _ _ rfl).u _ _ rfl) ?_ ?_ (hne2 g0) (by omega) (by omega)
          · rw [hjs, hx, show ((k + 1 : Nat) : Int) = (k : Int) + 1 by omega] at h9
            exact h9
          · rw [am_u_eq, am_u_ne (by decide), am_u_ne (by decide), am_u_ne (by decide), am_u_ne (by decide), h23, am_up_up, am_up_eq, show ((k + 1 : Nat) : Int) = (k : Int) + 1 by omega]
          · refine haxk _ ?_ ?_ ?_ ?_
            · rw [am_u_ne (by decide), am_u_ne (by decide), am_u_ne (by decide), am_u_ne (by decide), am_u_eq, ek]
            · rw [am_u_ne (by decide), am_u_ne (by decide), am_u_ne (by decide), am_u_eq, am_u_ne (by decide), ek, hw1]
            · rw [am_u_ne (by decide), am_u_ne (by decide), am_u_eq, am_u_ne (by decide), am_u_ne (by decide), ek, hw2]
            · rw [am_u_ne (by decide), am_u_eq, am_u_ne (by decide), am_u_ne (by decide), am_u_ne (by decide), ek, hcost]
        have o1' : 0 ≤ es_ja (es_Qc J) M N (si, sj, sc, st) ∧ es_ja (es_Qc J) M N (si, sj, sc, st) < 28 := o1
        have o3' : es_ja (es_Qc J) M N (si, sj, sc, st) = 0 → si < M ∧ sj < N := o3
        have o4' : es_ja (es_Qc J) M N (si, sj, sc, st) = 1 → si < M := o4
        have o5' : es_ja (es_Qc J) M N (si, sj, sc, st) = 2 → sj < N := o5
        clear hok hk96 haxk hjs hne2 ih hD o1 o2 o3 o4 o5 o6 hax hne
        have cont : am_V (d + 5) Y_ju_readActs (fun r I' => r = none ∧ am_fr I0 I' [23, 25, 26, 27, 28] ∧ es_exN (fun T => T ≤ 96 ∧ es_jT (es_Qc J) M N T ∧ I' 23 = am_up (I0 23) 7 (T : Int) ∧ ∀ k : Nat, k < T → es_axc (es_Qc J) M N I' k)) 46 [(0, .inr (.inr 23)), (1, .inl (si : Int)), (2, .inl (sj : Int)), (3, .inl sc), (4, .inl st), (5, .inl (k : Int))] [] I := by
          have heq := heq1
          by_cases c0 : es_ja (es_Qc J) M N (si, sj, sc, st) = 0
          · have hlt := o3' c0
            have h9 := lay si sj (es_jh (es_Qc J) si sj sc) (by unfold es_a1; rw [if_pos (by omega)]) (by unfold es_a2; rw [if_pos (Or.inl c0)]) (by unfold es_a3; rw [if_pos c0]) (si + 1) (sj + 1) sc 0 (by unfold es_jx; rw [if_pos (by omega), if_pos (Or.inl c0), if_neg (by omega), if_neg (by omega)])
            rw [show ((si + 1 : Nat) : Int) = (si : Int) + 1 by omega, show ((sj + 1 : Nat) : Int) = (sj : Int) + 1 by omega] at h9
            clear lay
            repeat' (first
              | (refine am_gp 80 [17] rfl (by first | exact True.intro | (refine And.intro ?_ ?_ <;> decide) | exact Or.inl rfl | exact Or.inr rfl | (simp (decide := true) only [am_p, am_u_at, am_u_j, am_u_ne]; omega) | (simp (decide := true) only [am_p, and_true, true_and, true_or, or_true, am_u_at, am_u_j, am_u_ne]; omega) | (simp (decide := true) [am_p, am_u_at, am_u_j, am_u_ne]; omega)) ?_)
              | (show am_V _ _ _ _ _ _ _; simp only [Int.reduceToNat])
              | (refine am_bt rfl (by first | omega | (simp (decide := true) only [am_u_at, am_u_j, am_u_ne]; omega)) (by first | omega | (simp (decide := true) only [am_u_at, am_u_j, am_u_ne]; omega)) ?_)
              | (refine am_bf rfl (by first | omega | (simp (decide := true) only [am_u_at, am_u_j, am_u_ne]; omega)) (by first | omega | (simp (decide := true) only [am_u_at, am_u_j, am_u_ne]; omega)) ?_)
              | (refine am_br rfl (by first | omega | (simp (decide := true) only [am_u_at, am_u_j, am_u_ne]; omega)) (fun h => ?_) (fun h => ?_))
              | (refine am_cV (y' := Y_ju_nextAct) rfl lk_ju_104 ok_ju_nextAct rfl rfl rfl (c_ju_next _ _ _ _ _ _ J M N heq hn hM hN (by first | omega | (simp (decide := true) only [am_u_at, am_u_j, am_u_ne]; omega)) (by first | omega | (simp (decide := true) only [am_u_at, am_u_j, am_u_ne]; omega)) (by first | omega | (simp (decide := true) only [am_u_at, am_u_j, am_u_ne]; omega)) (by first | omega | (simp (decide := true) only [am_u_at, am_u_j, am_u_ne]; omega)) (by assumption) h3 (by assumption)) ?_; rintro r I ⟨rfl, rfl⟩)
              | (refine am_cV (y' := Y_ju_hitCost) rfl lk_ju_98 ok_ju_hitCost rfl rfl rfl (c_ju_hit _ _ _ _ _ J heq hn (by first | omega | (simp (decide := true) only [am_u_at, am_u_j, am_u_ne]; omega)) (by first | omega | (simp (decide := true) only [am_u_at, am_u_j, am_u_ne]; omega)) (by first | omega | (simp (decide := true) only [am_u_at, am_u_j, am_u_ne]; omega))) ?_; rintro r I ⟨rfl, rfl⟩)
              | (refine am_cV (y' := Y_ju_push) rfl lk_ju_108 ok_ju_push rfl rfl rfl (c_ju_push _ _ _ _ _ _ (by first | omega | (simp (decide := true) only [am_u_at, am_u_j, am_u_ne]; omega))) ?_; rintro r I ⟨rfl, rfl⟩)
              | (refine am_rt rfl (by first | exact True.intro | (refine And.intro ?_ ?_ <;> decide) | exact Or.inl rfl | exact Or.inr rfl | (show _ ∨ _; omega)) ?_))
            exact am_wk [6] h9
          · by_cases c1 : es_ja (es_Qc J) M N (si, sj, sc, st) = 1
            · have hlt := o4' c1
              have h9 := lay si (-1) 3 (by unfold es_a1; rw [if_pos (by omega)]) (by unfold es_a2; rw [if_neg (by omega)]) (by unfold es_a3; rw [if_neg (by omega), if_neg (by omega)]) (si + 1) sj sc 0 (by unfold es_jx; rw [if_pos (by omega), if_neg (by omega), if_neg (by omega), if_neg (by omega)]; rfl)
              rw [show ((si + 1 : Nat) : Int) = (si : Int) + 1 by omega] at h9
              clear lay
              repeat' (first
                | (refine am_gp 80 [17] rfl (by first | exact True.intro | (refine And.intro ?_ ?_ <;> decide) | exact Or.inl rfl | exact Or.inr rfl | (simp (decide := true) only [am_p, am_u_at, am_u_j, am_u_ne]; omega) | (simp (decide := true) only [am_p, and_true, true_and, true_or, or_true, am_u_at, am_u_j, am_u_ne]; omega) | (simp (decide := true) [am_p, am_u_at, am_u_j, am_u_ne]; omega)) ?_)
                | (show am_V _ _ _ _ _ _ _; simp only [Int.reduceToNat])
                | (refine am_bt rfl (by first | omega | (simp (decide := true) only [am_u_at, am_u_j, am_u_ne]; omega)) (by first | omega | (simp (decide := true) only [am_u_at, am_u_j, am_u_ne]; omega)) ?_)
                | (refine am_bf rfl (by first | omega | (simp (decide := true) only [am_u_at, am_u_j, am_u_ne]; omega)) (by first | omega | (simp (decide := true) only [am_u_at, am_u_j, am_u_ne]; omega)) ?_)
                | (refine am_br rfl (by first | omega | (simp (decide := true) only [am_u_at, am_u_j, am_u_ne]; omega)) (fun h => ?_) (fun h => ?_))
                | (refine am_cV (y' := Y_ju_nextAct) rfl lk_ju_104 ok_ju_nextAct rfl rfl rfl (c_ju_next _ _ _ _ _ _ J M N heq hn hM hN (by first | omega | (simp (decide := true) only [am_u_at, am_u_j, am_u_ne]; omega)) (by first | omega | (simp (decide := true) only [am_u_at, am_u_j, am_u_ne]; omega)) (by first | omega | (simp (decide := true) only [am_u_at, am_u_j, am_u_ne]; omega)) (by first | omega | (simp (decide := true) only [am_u_at, am_u_j, am_u_ne]; omega)) (by assumption) h3 (by assumption)) ?_; rintro r I ⟨rfl, rfl⟩)
                | (refine am_cV (y' := Y_ju_push) rfl lk_ju_108 ok_ju_push rfl rfl rfl (c_ju_push _ _ _ _ _ _ (by first | omega | (simp (decide := true) only [am_u_at, am_u_j, am_u_ne]; omega))) ?_; rintro r I ⟨rfl, rfl⟩)
                | (refine am_rt rfl (by first | exact True.intro | (refine And.intro ?_ ?_ <;> decide) | exact Or.inl rfl | exact Or.inr rfl | (show _ ∨ _; omega)) ?_))
              exact am_wk [6] h9
            · by_cases c2 : es_ja (es_Qc J) M N (si, sj, sc, st) = 2
              · have hlt := o5' c2
                have h9 := lay (-1) sj (es_jm (es_Qc J) sj) (by unfold es_a1; rw [if_neg (by omega)]) (by unfold es_a2; rw [if_pos (Or.inr c2)]) (by unfold es_a3; rw [if_neg (by omega), if_pos c2]) si (sj + 1) sc 0 (by unfold es_jx; rw [if_neg (by omega), if_pos (Or.inr c2), if_neg (by omega), if_neg (by omega)]; rfl)
                rw [show ((sj + 1 : Nat) : Int) = (sj : Int) + 1 by omega] at h9
                clear lay
                repeat' (first
                  | (refine am_gp 80 [17] rfl (by first | exact True.intro | (refine And.intro ?_ ?_ <;> decide) | exact Or.inl rfl | exact Or.inr rfl | (simp (decide := true) only [am_p, am_u_at, am_u_j, am_u_ne]; omega) | (simp (decide := true) only [am_p, and_true, true_and, true_or, or_true, am_u_at, am_u_j, am_u_ne]; omega) | (simp (decide := true) [am_p, am_u_at, am_u_j, am_u_ne]; omega)) ?_)
                  | (show am_V _ _ _ _ _ _ _; simp only [Int.reduceToNat])
                  | (refine am_bt rfl (by first | omega | (simp (decide := true) only [am_u_at, am_u_j, am_u_ne]; omega)) (by first | omega | (simp (decide := true) only [am_u_at, am_u_j, am_u_ne]; omega)) ?_)
                  | (refine am_bf rfl (by first | omega | (simp (decide := true) only [am_u_at, am_u_j, am_u_ne]; omega)) (by first | omega | (simp (decide := true) only [am_u_at, am_u_j, am_u_ne]; omega)) ?_)
                  | (refine am_br rfl (by first | omega | (simp (decide := true) only [am_u_at, am_u_j, am_u_ne]; omega)) (fun h => ?_) (fun h => ?_))
                  | (refine am_cV (y' := Y_ju_nextAct) rfl lk_ju_104 ok_ju_nextAct rfl rfl rfl (c_ju_next _ _ _ _ _ _ J M N heq hn hM hN (by first | omega | (simp (decide := true) only [am_u_at, am_u_j, am_u_ne]; omega)) (by first | omega | (simp (decide := true) only [am_u_at, am_u_j, am_u_ne]; omega)) (by first | omega | (simp (decide := true) only [am_u_at, am_u_j, am_u_ne]; omega)) (by first | omega | (simp (decide := true) only [am_u_at, am_u_j, am_u_ne]; omega)) (by assumption) h3 (by assumption)) ?_; rintro r I ⟨rfl, rfl⟩)
                  | (refine am_cV (y' := Y_ju_moreCost) rfl lk_ju_75 ok_ju_moreCost rfl rfl rfl (c_ju_more _ _ _ J heq hn (by first | omega | (simp (decide := true) only [am_u_at, am_u_j, am_u_ne]; omega))) ?_; rintro r I ⟨rfl, rfl⟩)
                  | (refine am_cV (y' := Y_ju_push) rfl lk_ju_108 ok_ju_push rfl rfl rfl (c_ju_push _ _ _ _ _ _ (by first | omega | (simp (decide := true) only [am_u_at, am_u_j, am_u_ne]; omega))) ?_; rintro r I ⟨rfl, rfl⟩)
                  | (refine am_rt rfl (by first | exact True.intro | (refine And.intro ?_ ?_ <;> decide) | exact Or.inl rfl | exact Or.inr rfl | (show _ ∨ _; omega)) ?_))
                exact am_wk [6] h9
              · have h9 := lay (-1) (-1) 3 (by unfold es_a1; rw [if_neg (by omega)]) (by unfold es_a2; rw [if_neg (by omega)]) (by unfold es_a3; rw [if_neg (by omega), if_neg (by omega)]) si sj (es_ja (es_Qc J) M N (si, sj, sc, st) - 15) 1 (by unfold es_jx; rw [if_neg (by omega), if_neg (by omega), if_pos (by omega), if_pos (by omega)]; rfl)
                clear lay
                repeat' (first
                  | (refine am_gp 80 [17] rfl (by first | exact True.intro | (refine And.intro ?_ ?_ <;> decide) | exact Or.inl rfl | exact Or.inr rfl | (simp (decide := true) only [am_p, am_u_at, am_u_j, am_u_ne]; omega) | (simp (decide := true) only [am_p, and_true, true_and, true_or, or_true, am_u_at, am_u_j, am_u_ne]; omega) | (simp (decide := true) [am_p, am_u_at, am_u_j, am_u_ne]; omega)) ?_)
                  | (show am_V _ _ _ _ _ _ _; simp only [Int.reduceToNat])
                  | (refine am_bt rfl (by first | omega | (simp (decide := true) only [am_u_at, am_u_j, am_u_ne]; omega)) (by first | omega | (simp (decide := true) only [am_u_at, am_u_j, am_u_ne]; omega)) ?_)
                  | (refine am_bf rfl (by first | omega | (simp (decide := true) only [am_u_at, am_u_j, am_u_ne]; omega)) (by first | omega | (simp (decide := true) only [am_u_at, am_u_j, am_u_ne]; omega)) ?_)
                  | (refine am_br rfl (by first | omega | (simp (decide := true) only [am_u_at, am_u_j, am_u_ne]; omega)) (fun h => ?_) (fun h => ?_))
                  | (refine am_cV (y' := Y_ju_nextAct) rfl lk_ju_104 ok_ju_nextAct rfl rfl rfl (c_ju_next _ _ _ _ _ _ J M N heq hn hM hN (by first | omega | (simp (decide := true) only [am_u_at, am_u_j, am_u_ne]; omega)) (by first | omega | (simp (decide := true) only [am_u_at, am_u_j, am_u_ne]; omega)) (by first | omega | (simp (decide := true) only [am_u_at, am_u_j, am_u_ne]; omega)) (by first | omega | (simp (decide := true) only [am_u_at, am_u_j, am_u_ne]; omega)) (by assumption) h3 (by assumption)) ?_; rintro r I ⟨rfl, rfl⟩)
                  | (refine am_cV (y' := Y_ju_push) rfl lk_ju_108 ok_ju_push rfl rfl rfl (c_ju_push _ _ _ _ _ _ (by first | omega | (simp (decide := true) only [am_u_at, am_u_j, am_u_ne]; omega))) ?_; rintro r I ⟨rfl, rfl⟩)
                  | (refine am_rt rfl (by first | exact True.intro | (refine And.intro ?_ ?_ <;> decide) | exact Or.inl rfl | exact Or.inr rfl | (show _ ∨ _; omega)) ?_))
                exact am_wk [6] h9
        clear lay hDk h3
        refine am_go 1 [] rfl trivial ?_
        repeat' (first
          | (refine am_gp 80 [46] rfl (by first | exact True.intro | (refine And.intro ?_ ?_ <;> decide) | exact Or.inl rfl | exact Or.inr rfl | (simp (decide := true) only [am_p, am_u_at, am_u_j, am_u_ne]; omega) | (simp (decide := true) only [am_p, and_true, true_and, true_or, or_true, am_u_at, am_u_j, am_u_ne]; omega) | (simp (decide := true) [am_p, am_u_at, am_u_j, am_u_ne]; omega)) ?_)
          | (show am_V _ _ _ _ _ _ _; simp only [Int.reduceToNat])
          | (refine am_bt rfl (by first | omega | (simp (decide := true) only [am_u_at, am_u_j, am_u_ne]; omega)) (by first | omega | (simp (decide := true) only [am_u_at, am_u_j, am_u_ne]; omega)) ?_)
          | (refine am_bf rfl (by first | omega | (simp (decide := true) only [am_u_at, am_u_j, am_u_ne]; omega)) (by first | omega | (simp (decide := true) only [am_u_at, am_u_j, am_u_ne]; omega)) ?_)
          | (refine am_br rfl (by first | omega | (simp (decide := true) only [am_u_at, am_u_j, am_u_ne]; omega)) (fun h => ?_) (fun h => ?_))
          | (refine am_rt rfl (by first | exact True.intro | (refine And.intro ?_ ?_ <;> decide) | exact Or.inl rfl | exact Or.inr rfl | (show _ ∨ _; omega)) ?_))
        all_goals exact cont
  repeat' (first
    | (refine am_gp 80 [17] rfl (by first | exact True.intro | (refine And.intro ?_ ?_ <;> decide) | exact Or.inl rfl | exact Or.inr rfl | (simp (decide := true) only [am_p, am_u_at, am_u_j, am_u_ne]; omega) | (simp (decide := true) only [am_p, and_true, true_and, true_or, or_true, am_u_at, am_u_j, am_u_ne]; omega) | (simp (decide := true) [am_p, am_u_at, am_u_j, am_u_ne]; omega)) ?_)
    | (show am_V _ _ _ _ _ _ _; simp only [Int.reduceToNat])
    | (refine am_bt rfl (by first | omega | (simp (decide := true) only [am_u_at, am_u_j, am_u_ne]; omega)) (by first | omega | (simp (decide := true) only [am_u_at, am_u_j, am_u_ne]; omega)) ?_)
    | (refine am_bf rfl (by first | omega | (simp (decide := true) only [am_u_at, am_u_j, am_u_ne]; omega)) (by first | omega | (simp (decide := true) only [am_u_at, am_u_j, am_u_ne]; omega)) ?_)
    | (refine am_br rfl (by first | omega | (simp (decide := true) only [am_u_at, am_u_j, am_u_ne]; omega)) (fun h => ?_) (fun h => ?_))
    | (refine am_rt rfl (by first | exact True.intro | (refine And.intro ?_ ?_ <;> decide) | exact Or.inl rfl | exact Or.inr rfl | (show _ ∨ _; omega)) ?_))
  exact loopk 98 0 _ (am_fr.rf.u _ _ rfl) (by rw [am_u_eq]; rfl) (fun x hx => by omega) (fun x hx => by omega) (by omega) (by omega)
