theorem am_up_up {f : Nat → Int} {k : Nat} {x y : Int} : am_up (am_up f k x) k y = am_up f k y := by
  funext j
  by_cases c : j = k
  · rw [c, am_up_eq, am_up_eq]
  · rw [am_up_ne c, am_up_ne c, am_up_ne c]
def es_D (T : Nat → Int) (Q : Nat → Nat → Int) (M N : Nat) (i j t c0 : Int) : Prop := ∀ (i' j' : Nat) (t' c' : Int), i' ≤ M → j' ≤ N → (t' = 0 ∨ t' = 1) → -12 ≤ c' → c' ≤ 12 → (i < (i' : Int) ∨ (i = (i' : Int) ∧ (j < (j' : Int) ∨ (j = (j' : Int) ∧ (t < t' ∨ (t = t' ∧ c' < c0)))))) → T (((25 * (i' : Int) + (j' : Int)) * 25 + c' + 12) * 2 + t').toNat = es_kt Q M N t' (M - i') (N - j') c'
theorem es_D_w {T : Nat → Int} {Q : Nat → Nat → Int} {M N : Nat} {i j t c0 i2 j2 t2 c2 : Int} (h : es_D T Q M N i j t c0) (hw : ∀ (i' j' : Nat) (t' c' : Int), i' ≤ M → j' ≤ N → (t' = 0 ∨ t' = 1) → -12 ≤ c' → c' ≤ 12 → (i2 < (i' : Int) ∨ (i2 = (i' : Int) ∧ (j2 < (j' : Int) ∨ (j2 = (j' : Int) ∧ (t2 < t' ∨ (t2 = t' ∧ c' < c2)))))) → (i < (i' : Int) ∨ (i = (i' : Int) ∧ (j < (j' : Int) ∨ (j = (j' : Int) ∧ (t < t' ∨ (t = t' ∧ c' < c0))))))) : es_D T Q M N i2 j2 t2 c2 := fun i' j' t' c' h1 h2 h3 h4 h5 h6 => h i' j' t' c' h1 h2 h3 h4 h5 (hw i' j' t' c' h1 h2 h3 h4 h5 h6)
theorem es_D_h4 {T : Nat → Int} {Q : Nat → Nat → Int} {M N i j : Nat} {t c0 : Int} (h : es_D T Q M N i j t c0) (ht : t = 0 ∨ t = 1) (hi : i ≤ M) (hj : j ≤ N) : es_h4 T Q M N i j t := by
  intro c h1 h2
  refine ⟨fun a b => ?_, fun a => ?_, fun a => ?_, fun a b => ?_⟩
  · have h5 := h (i + 1) (j + 1) 0 c (by omega) (by omega) (Or.inl rfl) h1 h2 (Or.inl (by omega))
    rw [show ((i + 1 : Nat) : Int) = (i : Int) + 1 by omega, show ((j + 1 : Nat) : Int) = (j : Int) + 1 by omega, show M - (i + 1) = M - i - 1 by omega, show N - (j + 1) = N - j - 1 by omega] at h5
    exact h5
  · have h5 := h (i + 1) j 0 c (by omega) (by omega) (Or.inl rfl) h1 h2 (Or.inl (by omega))
    rw [show ((i + 1 : Nat) : Int) = (i : Int) + 1 by omega, show M - (i + 1) = M - i - 1 by omega] at h5
    exact h5
  · have h5 := h i (j + 1) 0 c hi (by omega) (Or.inl rfl) h1 h2 (Or.inr ⟨rfl, Or.inl (by omega)⟩)
    rw [show ((j + 1 : Nat) : Int) = (j : Int) + 1 by omega, show N - (j + 1) = N - j - 1 by omega] at h5
    exact h5
  · exact h i j 1 c hi hj (Or.inr rfl) h1 h2 (Or.inr ⟨rfl, Or.inr ⟨rfl, Or.inl (by omega)⟩⟩)
theorem es_D_s {T : Nat → Int} {Q : Nat → Nat → Int} {M N i j : Nat} {t c v : Int} (hM : M ≤ 24) (hN : N ≤ 24) (h : es_D T Q M N i j t c) (ht : t = 0 ∨ t = 1) (hi : i ≤ M) (hj : j ≤ N) (hc : -12 ≤ c ∧ c ≤ 12) (hv : v = es_kt Q M N t (M - i) (N - j) c) : es_D (am_up T (((25 * (i : Int) + (j : Int)) * 25 + c + 12) * 2 + t).toNat v) Q M N i j t (c + 1) := by
  intro i' j' t' c' h1 h2 h3 h4 h5 h6
  by_cases e : i' = i ∧ j' = j ∧ t' = t ∧ c' = c
  · obtain ⟨e1, e2, e3, e4⟩ := e
    rw [e1, e2, e3, e4, am_up_eq]
    exact hv
  · rw [am_up_ne (by omega)]
    exact h i' j' t' c' h1 h2 h3 h4 h5 (by omega)
def es_ax (Q : Nat → Nat → Int) (M N : Nat) (I : am_I) (k : Nat) : Prop := I 60 k = es_ja Q M N (es_js Q M N k) ∧ I 61 k = es_a1 (es_js Q M N k) (es_ja Q M N (es_js Q M N k)) ∧ I 62 k = es_a2 (es_js Q M N k) (es_ja Q M N (es_js Q M N k)) ∧ I 63 k = es_a3 Q (es_js Q M N k) (es_ja Q M N (es_js Q M N k)) ∧ I 64 k = (es_js Q M N k).2.2.1
theorem c_mo_judge (d : Nat) (J : am_I) (M N : Nat) (hn : es_nm J) (hM : J 44 3 = (M : Int)) (hN : J 44 0 = (N : Int)) : am_C (d + 3) Y_mo_judge [.inr (.inr 44)] J (fun r I' => r = some (.inl (es_k0 (es_Qm J) M N M N 0)) ∧ am_fr J I' [44, 59, 60, 61, 62, 63, 64] ∧ es_exN (fun T => T ≤ 96 ∧ es_jT (es_Qm J) M N T ∧ I' 44 = am_up (am_up (J 44) 32 (T : Int)) 6 1 ∧ ∀ k : Nat, k < T → es_ax (es_Qm J) M N I' k)) := by
  refine am_enter ok_mo_judge rfl ?_
  have hM4 : M ≤ 24 := by have := hn.1; omega
  have hN4 : N ≤ 24 := by have := hn.2.1; omega
  have loopk : ∀ (m k : Nat) (I : am_I), am_fr J I [44, 59, 60, 61, 62, 63, 64] → I 44 = am_up (J 44) 32 (k : Int) → es_D (I 59) (es_Qm J) M N (-1) 0 0 0 → (∀ x : Nat, x < k → es_ax (es_Qm J) M N I x) → (∀ x : Nat, x < k → ¬ es_je M N (es_js (es_Qm J) M N x)) → 97 - k < m → k ≤ 96 → am_V (d + 3) Y_mo_judge (fun r I' => r = some (.inl (es_k0 (es_Qm J) M N M N 0)) ∧ am_fr J I' [44, 59, 60, 61, 62, 63, 64] ∧ es_exN (fun T => T ≤ 96 ∧ es_jT (es_Qm J) M N T ∧ I' 44 = am_up (am_up (J 44) 32 (T : Int)) 6 1 ∧ ∀ k : Nat, k < T → es_ax (es_Qm J) M N I' k)) 95 [(0, .inr (.inr 44)), (1, .inl ((es_js (es_Qm J) M N k).1 : Int)), (2, .inl ((es_js (es_Qm J) M N k).2.1 : Int)), (3, .inl (es_js (es_Qm J) M N k).2.2.1), (4, .inl (es_js (es_Qm J) M N k).2.2.2)] [] I := by
    intro m
    induction m with
    | zero => intro k I hf h44 hD hax hne h1 h2; omega
    | succ m ih =>
      intro k I hf h44 hD hax hne h1 h2
      have heq : es_eqm I J := ⟨⟨hf 45 rfl, hf 46 rfl, hf 47 rfl, hf 48 rfl⟩, by rw [h44, am_up_ne (by decide)], by rw [h44, am_up_ne (by decide)]⟩
      have b0 : I 44 0 = (N : Int) := heq.2.1.trans hN
      have b3 : I 44 3 = (M : Int) := heq.2.2.trans hM
      have b32 : I 44 32 = (k : Int) := by rw [h44, am_up_eq]
      have hv := es_js_v (Q := es_Qm J) hM4 hN4 k hne
      have hjs : es_js (es_Qm J) M N (k + 1) = es_jx (es_js (es_Qm J) M N k) (es_ja (es_Qm J) M N (es_js (es_Qm J) M N k)) := rfl
      have haxk : ∀ I2 : am_I, I2 60 = am_up (I 60) k (es_ja (es_Qm J) M N (es_js (es_Qm J) M N k)) → I2 61 = am_up (I 61) k (es_a1 (es_js (es_Qm J) M N k) (es_ja (es_Qm J) M N (es_js (es_Qm J) M N k))) → I2 62 = am_up (I 62) k (es_a2 (es_js (es_Qm J) M N k) (es_ja (es_Qm J) M N (es_js (es_Qm J) M N k))) → I2 63 = am_up (I 63) k (es_a3 (es_Qm J) (es_js (es_Qm J) M N k) (es_ja (es_Qm J) M N (es_js (es_Qm J) M N k))) → I2 64 = am_up (I 64) k (es_js (es_Qm J) M N k).2.2.1 → ∀ x : Nat, x < k + 1 → es_ax (es_Qm J) M N I2 x := by
        intro I2 g0 g1 g2 g3 g4 x hx
        unfold es_ax
        rw [g0, g1, g2, g3, g4]
        by_cases c : x = k
        · rw [c, am_up_eq, am_up_eq, am_up_eq, am_up_eq, am_up_eq]
          exact ⟨rfl, rfl, rfl, rfl, rfl⟩
        · rw [am_up_ne c, am_up_ne c, am_up_ne c, am_up_ne c, am_up_ne c]
          exact hax x (by omega)
      have hne2 : ¬ es_je M N (es_js (es_Qm J) M N k) → ∀ x : Nat, x < k + 1 → ¬ es_je M N (es_js (es_Qm J) M N x) := by
        intro h x hx
        by_cases c : x = k
        · rw [c]; exact h
        · exact hne x (by omega)
      have hok : ¬ es_je M N (es_js (es_Qm J) M N k) → _ := fun h => es_ja_ok (Q := es_Qm J) hM4 hN4 hv.1 h
      have hk96 : ¬ es_je M N (es_js (es_Qm J) M N k) → k ≤ 95 := by
        intro h
        have h5 := hv.2
        obtain ⟨⟨v1, v2⟩, v3, v4⟩ := hv.1
        have h6 : ¬ ((es_js (es_Qm J) M N k).1 = M ∧ (es_js (es_Qm J) M N k).2.1 = N) := h
        omega
      obtain ⟨⟨v1, v2⟩, v3, v4⟩ := hv.1
      have hDk : I 59 (((25 * ((es_js (es_Qm J) M N k).1 : Int) + ((es_js (es_Qm J) M N k).2.1 : Int)) * 25 + (es_js (es_Qm J) M N k).2.2.1 + 12) * 2 + (es_js (es_Qm J) M N k).2.2.2).toNat = es_kt (es_Qm J) M N (es_js (es_Qm J) M N k).2.2.2 (M - (es_js (es_Qm J) M N k).1) (N - (es_js (es_Qm J) M N k).2.1) (es_js (es_Qm J) M N k).2.2.1 := hD _ _ _ _ v1 v2 v4 v3.1 v3.2 (Or.inl (by omega))
      have h4 : es_h4 (I 59) (es_Qm J) M N (es_js (es_Qm J) M N k).1 (es_js (es_Qm J) M N k).2.1 (es_js (es_Qm J) M N k).2.2.2 := by
        refine es_D_h4 (c0 := -12) (es_D_w hD (fun i' j' t' c' _ _ _ _ _ _ => Or.inl (by omega))) v4 v1 v2
      have hktr := es_kt_r (es_Qm J) (M := M) (N := N) (i := (es_js (es_Qm J) M N k).1) (j := (es_js (es_Qm J) M N k).2.1) hM4 hN4 (es_js (es_Qm J) M N k).2.2.1 (es_js (es_Qm J) M N k).2.2.2
      generalize hs : es_js (es_Qm J) M N k = s at *
      obtain ⟨si, sj, sc, st⟩ := s
      replace hDk : I 59 (((25 * (si : Int) + (sj : Int)) * 25 + sc + 12) * 2 + st).toNat = es_kt (es_Qm J) M N st (M - si) (N - sj) sc := hDk
      replace v1 : si ≤ M := v1
      replace v2 : sj ≤ N := v2
      replace v3 : -12 ≤ sc ∧ sc ≤ 12 := v3
      replace v4 : st = 0 ∨ st = 1 := v4
      replace h4 : es_h4 (I 59) (es_Qm J) M N si sj st := h4
      replace hktr : 0 ≤ es_kt (es_Qm J) M N st (M - si) (N - sj) sc ∧ es_kt (es_Qm J) M N st (M - si) (N - sj) sc ≤ 144 := hktr
      clear hv
      have loopa : ∀ (m2 : Nat) (a : Int), ¬ es_je M N (si, sj, sc, st) → 0 ≤ a → a ≤ 27 → 28 - a < m2 → a ≤ es_ja (es_Qm J) M N (si, sj, sc, st) → (∀ y : Int, 0 ≤ y → y < a → es_jb (es_Qm J) M N si sj sc st y ≠ es_kt (es_Qm J) M N st (M - si) (N - sj) sc) → am_V (d + 3) Y_mo_judge (fun r I' => r = some (.inl (es_k0 (es_Qm J) M N M N 0)) ∧ am_fr J I' [44, 59, 60, 61, 62, 63, 64] ∧ es_exN (fun T => T ≤ 96 ∧ es_jT (es_Qm J) M N T ∧ I' 44 = am_up (am_up (J 44) 32 (T : Int)) 6 1 ∧ ∀ k : Nat, k < T → es_ax (es_Qm J) M N I' k)) 114 [(0, .inr (.inr 44)), (1, .inl (si : Int)), (2, .inl (sj : Int)), (3, .inl sc), (4, .inl st), (5, .inl a)] [] I := by
        intro m2
        induction m2 with
        | zero => intro a g0 g1 g2 g3; omega
        | succ m2 iha =>
          intro a g0 g1 g2 g3 g4 g5
          obtain ⟨o1, o2, o3, o4, o5, o6⟩ := hok g0
          have hk5 := hk96 g0
          have hbr := es_jb_le (Q := es_Qm J) (i := si) (j := sj) hM4 hN4 sc st a
          refine am_go 1 [] rfl trivial ?_
          repeat' (first
            | (refine am_gp 80 [114, 147] rfl (by first | exact True.intro | (refine And.intro ?_ ?_ <;> decide) | exact Or.inl rfl | exact Or.inr rfl | (simp (decide := true) only [am_p, am_u_at, am_u_j, am_u_ne]; omega) | (simp (decide := true) only [am_p, and_true, true_and, true_or, or_true, am_u_at, am_u_j, am_u_ne]; omega) | (simp (decide := true) [am_p, am_u_at, am_u_j, am_u_ne]; omega)) ?_)
            | (show am_V _ _ _ _ _ _ _; simp only [Int.reduceToNat])
            | (refine am_bt rfl (by first | omega | (simp (decide := true) only [am_u_at, am_u_j, am_u_ne]; omega)) (by first | omega | (simp (decide := true) only [am_u_at, am_u_j, am_u_ne]; omega)) ?_)
            | (refine am_bf rfl (by first | omega | (simp (decide := true) only [am_u_at, am_u_j, am_u_ne]; omega)) (by first | omega | (simp (decide := true) only [am_u_at, am_u_j, am_u_ne]; omega)) ?_)
            | (refine am_br rfl (by first | omega | (simp (decide := true) only [am_u_at, am_u_j, am_u_ne]; omega)) (fun h => ?_) (fun h => ?_))
            | (refine am_cV (y' := Y_mo_by) rfl lk_mo_234 ok_mo_by rfl rfl rfl (c_mo_by _ _ _ _ _ _ _ J M N heq hn hM hN (by first | omega | (simp (decide := true) only [am_u_at, am_u_j, am_u_ne]; omega)) (by first | omega | (simp (decide := true) only [am_u_at, am_u_j, am_u_ne]; omega)) (by first | omega | (simp (decide := true) only [am_u_at, am_u_j, am_u_ne]; omega)) (by first | omega | (simp (decide := true) only [am_u_at, am_u_j, am_u_ne]; omega)) (by first | omega | (simp (decide := true) only [am_u_at, am_u_j, am_u_ne]; omega)) h4) ?_; rintro r I ⟨rfl, rfl⟩)
            | (refine am_cS (y' := Y_mo_costAt) rfl lk_mo_226 ok_mo_costAt rfl rfl (c_costAt _ _ _ _ _ _) ?_; rintro r I ⟨rfl, rfl⟩)
            | (refine am_rt rfl (by first | exact True.intro | (refine And.intro ?_ ?_ <;> decide) | exact Or.inl rfl | exact Or.inr rfl | (show _ ∨ _; omega)) ?_))
          · have hba : es_jb (es_Qm J) M N si sj sc st a = es_kt (es_Qm J) M N st (M - si) (N - sj) sc := by omega
            have ea : es_ja (es_Qm J) M N (si, sj, sc, st) = a := es_fst_eq 28 0 a g1 (by omega) hba g5
            rw [ea] at haxk hjs
            have o3' : a = 0 → si < M ∧ sj < N := fun e => o3 (ea.trans e)
            have o4' : a = 1 → si < M := fun e => o4 (ea.trans e)
            have o5' : a = 2 → sj < N := fun e => o5 (ea.trans e)
            have o6' : 2 < a → st = 0 ∧ si < M := fun e => o6 (by rw [ea]; exact e)
            have ek : (I 44 32).toNat = k := by omega
            have lay : ∀ cost : Int, cost = es_a3 (es_Qm J) (si, sj, sc, st) a → ∀ (i2 j2 : Nat) (c2 t2 : Int), es_jx (si, sj, sc, st) a = (i2, j2, c2, t2) → am_V (d + 3) Y_mo_judge (fun r I' => r = some (.inl (es_k0 (es_Qm J) M N M N 0)) ∧ am_fr J I' [44, 59, 60, 61, 62, 63, 64] ∧ es_exN (fun T => T ≤ 96 ∧ es_jT (es_Qm J) M N T ∧ I' 44 = am_up (am_up (J 44) 32 (T : Int)) 6 1 ∧ ∀ k : Nat, k < T → es_ax (es_Qm J) M N I' k)) 95 [(0, .inr (.inr 44)), (1, .inl (i2 : Int)), (2, .inl (j2 : Int)), (3, .inl c2), (4, .inl t2)] [] (am_u (am_u (am_u (am_u (am_u (am_u I 60 (I 44 32).toNat a) 61 (I 44 32).toNat (if a < 2 then (si : Int) else -1)) 62 (I 44 32).toNat (if a = 0 ∨ a = 2 then (sj : Int) else -1)) 63 (I 44 32).toNat cost) 64 (I 44 32).toNat sc) 44 32 (I 44 32 + 1)) := by
              intro cost hcost i2 j2 c2 t2 hx
              have h9 := ih (k + 1) (am_u (am_u (am_u (am_u (am_u (am_u I 60 (I 44 32).toNat a) 61 (I 44 32).toNat (if a < 2 then (si : Int) else -1)) 62 (I 44 32).toNat (if a = 0 ∨ a = 2 then (sj : Int) else -1)) 63 (I 44 32).toNat cost) 64 (I 44 32).toNat sc) 44 32 (I 44 32 + 1)) ((((((hf.u _ _ rfl).u _ _ rfl).u _ _ rfl).u _ _ rfl).u _ _ rfl).u _ _ rfl) ?_ ?_ ?_ (hne2 g0) (by omega) (by omega)
              · rw [hjs, hx] at h9
                exact h9
              · rw [am_u_eq, am_u_ne (by decide), am_u_ne (by decide), am_u_ne (by decide), am_u_ne (by decide), am_u_ne (by decide), h44, am_up_up, am_up_eq, show ((k + 1 : Nat) : Int) = (k : Int) + 1 by omega]
              · rw [am_u_ne (by decide), am_u_ne (by decide), am_u_ne (by decide), am_u_ne (by decide), am_u_ne (by decide), am_u_ne (by decide)]
                exact hD
              · refine haxk _ ?_ ?_ ?_ ?_ ?_
                · rw [am_u_ne (by decide), am_u_ne (by decide), am_u_ne (by decide), am_u_ne (by decide), am_u_ne (by decide), am_u_eq, ek]
                · rw [am_u_ne (by decide), am_u_ne (by decide), am_u_ne (by decide), am_u_ne (by decide), am_u_eq, am_u_ne (by decide), ek]
                  rfl
                · rw [am_u_ne (by decide), am_u_ne (by decide), am_u_ne (by decide), am_u_eq, am_u_ne (by decide), am_u_ne (by decide), ek]
                  rfl
                · rw [am_u_ne (by decide), am_u_ne (by decide), am_u_eq, am_u_ne (by decide), am_u_ne (by decide), am_u_ne (by decide), ek, hcost]
                · rw [am_u_ne (by decide), am_u_eq, am_u_ne (by decide), am_u_ne (by decide), am_u_ne (by decide), am_u_ne (by decide), ek]
            have q1 : (si : Int) < J 44 3 ∨ ¬ si < M := by omega
            have q2 : (sj : Int) < J 44 0 ∨ ¬ sj < N := by omega
            clear iha ih hok hk96 haxk hjs g5 hD h4 hax hne hne2 o2
            by_cases c0 : a = 0
            · have hlt := o3' c0
              have h9 := lay (es_jh (es_Qm J) si sj sc) (by unfold es_a3; rw [if_pos c0]) (si + 1) (sj + 1) sc 0 (by unfold es_jx; rw [if_pos (by omega), if_pos (Or.inl c0), if_neg (by omega), if_neg (by omega)])
              rw [show ((si + 1 : Nat) : Int) = (si : Int) + 1 by omega, show ((sj + 1 : Nat) : Int) = (sj : Int) + 1 by omega] at h9
              clear lay
              repeat' (first
                | (refine am_gp 80 [95] rfl (by first | exact True.intro | (refine And.intro ?_ ?_ <;> decide) | exact Or.inl rfl | exact Or.inr rfl | (simp (decide := true) only [am_p, am_u_at, am_u_j, am_u_ne]; omega) | (simp (decide := true) only [am_p, and_true, true_and, true_or, or_true, am_u_at, am_u_j, am_u_ne]; omega) | (simp (decide := true) [am_p, am_u_at, am_u_j, am_u_ne]; omega)) ?_)
                | (show am_V _ _ _ _ _ _ _; simp only [Int.reduceToNat])
                | (refine am_bt rfl (by first | omega | (simp (decide := true) only [am_u_at, am_u_j, am_u_ne]; omega)) (by first | omega | (simp (decide := true) only [am_u_at, am_u_j, am_u_ne]; omega)) ?_)
                | (refine am_bf rfl (by first | omega | (simp (decide := true) only [am_u_at, am_u_j, am_u_ne]; omega)) (by first | omega | (simp (decide := true) only [am_u_at, am_u_j, am_u_ne]; omega)) ?_)
                | (refine am_br rfl (by first | omega | (simp (decide := true) only [am_u_at, am_u_j, am_u_ne]; omega)) (fun h => ?_) (fun h => ?_))
                | (refine am_cV (y' := Y_mo_hitCost) rfl lk_mo_223 ok_mo_hitCost rfl rfl rfl (c_mo_hit _ _ _ _ _ J heq hn (by first | omega | (simp (decide := true) only [am_u_at, am_u_j, am_u_ne]; omega)) (by first | omega | (simp (decide := true) only [am_u_at, am_u_j, am_u_ne]; omega)) (by first | omega | (simp (decide := true) only [am_u_at, am_u_j, am_u_ne]; omega))) ?_; rintro r I ⟨rfl, rfl⟩)
                | (refine am_cV (y' := Y_mo_layAct) rfl lk_mo_244 ok_mo_layAct rfl rfl rfl (c_layAct _ _ _ _ _ _ _ (by first | omega | (simp (decide := true) only [am_u_at, am_u_j, am_u_ne]; omega)) (by first | omega | (simp (decide := true) only [am_u_at, am_u_j, am_u_ne]; omega))) ?_; rintro r I ⟨rfl, rfl⟩)
                | (refine am_rt rfl (by first | exact True.intro | (refine And.intro ?_ ?_ <;> decide) | exact Or.inl rfl | exact Or.inr rfl | (show _ ∨ _; omega)) ?_))
              exact am_wk [5] h9
            · by_cases c1 : a = 1
              · have hlt := o4' c1
                have h9 := lay 3 (by unfold es_a3; rw [if_neg (by omega), if_neg (by omega)]) (si + 1) sj sc 0 (by unfold es_jx; rw [if_pos (by omega), if_neg (by omega), if_neg (by omega), if_neg (by omega)]; rfl)
                rw [show ((si + 1 : Nat) : Int) = (si : Int) + 1 by omega] at h9
                clear lay
                repeat' (first
                  | (refine am_gp 80 [95] rfl (by first | exact True.intro | (refine And.intro ?_ ?_ <;> decide) | exact Or.inl rfl | exact Or.inr rfl | (simp (decide := true) only [am_p, am_u_at, am_u_j, am_u_ne]; omega) | (simp (decide := true) only [am_p, and_true, true_and, true_or, or_true, am_u_at, am_u_j, am_u_ne]; omega) | (simp (decide := true) [am_p, am_u_at, am_u_j, am_u_ne]; omega)) ?_)
                  | (show am_V _ _ _ _ _ _ _; simp only [Int.reduceToNat])
                  | (refine am_bt rfl (by first | omega | (simp (decide := true) only [am_u_at, am_u_j, am_u_ne]; omega)) (by first | omega | (simp (decide := true) only [am_u_at, am_u_j, am_u_ne]; omega)) ?_)
                  | (refine am_bf rfl (by first | omega | (simp (decide := true) only [am_u_at, am_u_j, am_u_ne]; omega)) (by first | omega | (simp (decide := true) only [am_u_at, am_u_j, am_u_ne]; omega)) ?_)
                  | (refine am_br rfl (by first | omega | (simp (decide := true) only [am_u_at, am_u_j, am_u_ne]; omega)) (fun h => ?_) (fun h => ?_))
                  | (refine am_cV (y' := Y_mo_layAct) rfl lk_mo_244 ok_mo_layAct rfl rfl rfl (c_layAct _ _ _ _ _ _ _ (by first | omega | (simp (decide := true) only [am_u_at, am_u_j, am_u_ne]; omega)) (by first | omega | (simp (decide := true) only [am_u_at, am_u_j, am_u_ne]; omega))) ?_; rintro r I ⟨rfl, rfl⟩)
                  | (refine am_rt rfl (by first | exact True.intro | (refine And.intro ?_ ?_ <;> decide) | exact Or.inl rfl | exact Or.inr rfl | (show _ ∨ _; omega)) ?_))
                rw [show (sj : Int) + 0 = sj by omega]
                exact am_wk [5] h9
              · by_cases c2 : a = 2
                · have hlt := o5' c2
                  have h9 := lay (es_jm (es_Qm J) sj) (by unfold es_a3; rw [if_neg (by omega), if_pos c2]) si (sj + 1) sc 0 (by unfold es_jx; rw [if_neg (by omega), if_pos (Or.inr c2), if_neg (by omega), if_neg (by omega)]; rfl)
                  rw [show ((sj + 1 : Nat) : Int) = (sj : Int) + 1 by omega] at h9
                  clear lay
                  repeat' (first
                    | (refine am_gp 80 [95] rfl (by first | exact True.intro | (refine And.intro ?_ ?_ <;> decide) | exact Or.inl rfl | exact Or.inr rfl | (simp (decide := true) only [am_p, am_u_at, am_u_j, am_u_ne]; omega) | (simp (decide := true) only [am_p, and_true, true_and, true_or, or_true, am_u_at, am_u_j, am_u_ne]; omega) | (simp (decide := true) [am_p, am_u_at, am_u_j, am_u_ne]; omega)) ?_)
                    | (show am_V _ _ _ _ _ _ _; simp only [Int.reduceToNat])
                    | (refine am_bt rfl (by first | omega | (simp (decide := true) only [am_u_at, am_u_j, am_u_ne]; omega)) (by first | omega | (simp (decide := true) only [am_u_at, am_u_j, am_u_ne]; omega)) ?_)
                    | (refine am_bf rfl (by first | omega | (simp (decide := true) only [am_u_at, am_u_j, am_u_ne]; omega)) (by first | omega | (simp (decide := true) only [am_u_at, am_u_j, am_u_ne]; omega)) ?_)
                    | (refine am_br rfl (by first | omega | (simp (decide := true) only [am_u_at, am_u_j, am_u_ne]; omega)) (fun h => ?_) (fun h => ?_))
                    | (refine am_cV (y' := Y_mo_moreCost) rfl lk_mo_230 ok_mo_moreCost rfl rfl rfl (c_mo_more _ _ _ J heq hn (by first | omega | (simp (decide := true) only [am_u_at, am_u_j, am_u_ne]; omega))) ?_; rintro r I ⟨rfl, rfl⟩)
                    | (refine am_cV (y' := Y_mo_layAct) rfl lk_mo_244 ok_mo_layAct rfl rfl rfl (c_layAct _ _ _ _ _ _ _ (by first | omega | (simp (decide := true) only [am_u_at, am_u_j, am_u_ne]; omega)) (by first | omega | (simp (decide := true) only [am_u_at, am_u_j, am_u_ne]; omega))) ?_; rintro r I ⟨rfl, rfl⟩)
                    | (refine am_rt rfl (by first | exact True.intro | (refine And.intro ?_ ?_ <;> decide) | exact Or.inl rfl | exact Or.inr rfl | (show _ ∨ _; omega)) ?_))
                  rw [show (si : Int) + 0 = si by omega]
                  exact am_wk [5] h9
                · have h9 := lay 3 (by unfold es_a3; rw [if_neg (by omega), if_neg (by omega)]) si sj (a - 15) 1 (by unfold es_jx; rw [if_neg (by omega), if_neg (by omega), if_pos (by omega), if_pos (by omega)]; rfl)
                  clear lay
                  repeat' (first
                    | (refine am_gp 80 [95] rfl (by first | exact True.intro | (refine And.intro ?_ ?_ <;> decide) | exact Or.inl rfl | exact Or.inr rfl | (simp (decide := true) only [am_p, am_u_at, am_u_j, am_u_ne]; omega) | (simp (decide := true) only [am_p, and_true, true_and, true_or, or_true, am_u_at, am_u_j, am_u_ne]; omega) | (simp (decide := true) [am_p, am_u_at, am_u_j, am_u_ne]; omega)) ?_)
                    | (show am_V _ _ _ _ _ _ _; simp only [Int.reduceToNat])
                    | (refine am_bt rfl (by first | omega | (simp (decide := true) only [am_u_at, am_u_j, am_u_ne]; omega)) (by first | omega | (simp (decide := true) only [am_u_at, am_u_j, am_u_ne]; omega)) ?_)
                    | (refine am_bf rfl (by first | omega | (simp (decide := true) only [am_u_at, am_u_j, am_u_ne]; omega)) (by first | omega | (simp (decide := true) only [am_u_at, am_u_j, am_u_ne]; omega)) ?_)
                    | (refine am_br rfl (by first | omega | (simp (decide := true) only [am_u_at, am_u_j, am_u_ne]; omega)) (fun h => ?_) (fun h => ?_))
                    | (refine am_cV (y' := Y_mo_layAct) rfl lk_mo_244 ok_mo_layAct rfl rfl rfl (c_layAct _ _ _ _ _ _ _ (by first | omega | (simp (decide := true) only [am_u_at, am_u_j, am_u_ne]; omega)) (by first | omega | (simp (decide := true) only [am_u_at, am_u_j, am_u_ne]; omega))) ?_; rintro r I ⟨rfl, rfl⟩)
                    | (refine am_rt rfl (by first | exact True.intro | (refine And.intro ?_ ?_ <;> decide) | exact Or.inl rfl | exact Or.inr rfl | (show _ ∨ _; omega)) ?_))
                  rw [show (si : Int) + 0 = si by omega, show (sj : Int) + 0 = sj by omega]
                  exact am_wk [5] h9
          · have hba : es_jb (es_Qm J) M N si sj sc st a ≠ es_kt (es_Qm J) M N st (M - si) (N - sj) sc := by omega
            have hja : a ≠ es_ja (es_Qm J) M N (si, sj, sc, st) := fun e => hba (by rw [e]; exact o2)
            refine iha (a + 1) g0 (by omega) (by omega) (by omega) (by omega) ?_
            intro y y1 y2
            by_cases c : y = a
            · rw [c]; exact hba
            · exact g5 y y1 (by omega)
      have hje : ¬ es_je M N (si, sj, sc, st) ↔ ¬ (si = M ∧ sj = N) := Iff.rfl
      have v1' : si ≤ M := v1
      have v2' : sj ≤ N := v2
      refine am_go 1 [] rfl trivial ?_
      repeat' (first
        | (refine am_gp 80 [114, 251] rfl (by first | exact True.intro | (refine And.intro ?_ ?_ <;> decide) | exact Or.inl rfl | exact Or.inr rfl | (simp (decide := true) only [am_p, am_u_at, am_u_j, am_u_ne]; omega) | (simp (decide := true) only [am_p, and_true, true_and, true_or, or_true, am_u_at, am_u_j, am_u_ne]; omega) | (simp (decide := true) [am_p, am_u_at, am_u_j, am_u_ne]; omega)) ?_)
        | (show am_V _ _ _ _ _ _ _; simp only [Int.reduceToNat])
        | (refine am_bt rfl (by first | omega | (simp (decide := true) only [am_u_at, am_u_j, am_u_ne]; omega)) (by first | omega | (simp (decide := true) only [am_u_at, am_u_j, am_u_ne]; omega)) ?_)
        | (refine am_bf rfl (by first | omega | (simp (decide := true) only [am_u_at, am_u_j, am_u_ne]; omega)) (by first | omega | (simp (decide := true) only [am_u_at, am_u_j, am_u_ne]; omega)) ?_)
        | (refine am_br rfl (by first | omega | (simp (decide := true) only [am_u_at, am_u_j, am_u_ne]; omega)) (fun h => ?_) (fun h => ?_))
        | (refine am_rt rfl (by first | exact True.intro | (refine And.intro ?_ ?_ <;> decide) | exact Or.inl rfl | exact Or.inr rfl | (show _ ∨ _; omega)) ?_))
      · have g0 : ¬ es_je M N (si, sj, sc, st) := hje.2 (by omega)
        exact loopa 30 0 g0 (by omega) (by omega) (by omega) (hok g0).1.1 (fun y y1 y2 => by omega)
      · have hend : es_je M N (es_js (es_Qm J) M N k) := by rw [hs]; exact ⟨by show si = M; omega, by show sj = N; omega⟩
        have h5 : I 59 24 = es_k0 (es_Qm J) M N M N 0 := hD 0 0 0 0 (by omega) (by omega) (Or.inl rfl) (by omega) (by omega) (Or.inl (by omega))
        have hDD := hD
        clear loopa hok hk96 haxk hDk h4 hktr
        repeat' (first
          | (refine am_gp 80 [] rfl (by first | exact True.intro | (refine And.intro ?_ ?_ <;> decide) | exact Or.inl rfl | exact Or.inr rfl | (simp (decide := true) only [am_p, am_u_at, am_u_j, am_u_ne]; omega) | (simp (decide := true) only [am_p, and_true, true_and, true_or, or_true, am_u_at, am_u_j, am_u_ne]; omega) | (simp (decide := true) [am_p, am_u_at, am_u_j, am_u_ne]; omega)) ?_)
          | (show am_V _ _ _ _ _ _ _; simp only [Int.reduceToNat])
          | (refine am_bt rfl (by first | omega | (simp (decide := true) only [am_u_at, am_u_j, am_u_ne]; omega)) (by first | omega | (simp (decide := true) only [am_u_at, am_u_j, am_u_ne]; omega)) ?_)
          | (refine am_bf rfl (by first | omega | (simp (decide := true) only [am_u_at, am_u_j, am_u_ne]; omega)) (by first | omega | (simp (decide := true) only [am_u_at, am_u_j, am_u_ne]; omega)) ?_)
          | (refine am_br rfl (by first | omega | (simp (decide := true) only [am_u_at, am_u_j, am_u_ne]; omega)) (fun h => ?_) (fun h => ?_))
          | (refine am_cS (y' := Y_mo_costAt) rfl lk_mo_226 ok_mo_costAt rfl rfl (c_costAt _ _ _ _ _ _) ?_; rintro r I ⟨rfl, rfl⟩)
          | (refine am_rt rfl (by first | exact True.intro | (refine And.intro ?_ ?_ <;> decide) | exact Or.inl rfl | exact Or.inr rfl | (show _ ∨ _; omega)) ?_))
        refine ⟨?_, hf.u _ _ rfl, k, h2, ⟨hend, hne⟩, ?_, ?_⟩
        · show some (Sum.inl ((am_u I 44 6 1) 59 24)) = _
          rw [am_u_ne (by decide), h5]
        · rw [am_u_eq, h44]
        · intro x hx
          have h6 := hax x hx
          unfold es_ax at h6 ⊢
          rw [am_u_ne (by decide), am_u_ne (by decide), am_u_ne (by decide), am_u_ne (by decide), am_u_ne (by decide)]
          exact h6
      · have g0 : ¬ es_je M N (si, sj, sc, st) := hje.2 (by omega)
        exact loopa 30 0 g0 (by omega) (by omega) (by omega) (hok g0).1.1 (fun y y1 y2 => by omega)
  have mid : ∀ I : am_I, am_fr J I [59] → es_D (I 59) (es_Qm J) M N (-1) 0 0 0 → am_V (d + 3) Y_mo_judge (fun r I' => r = some (.inl (es_k0 (es_Qm J) M N M N 0)) ∧ am_fr J I' [44, 59, 60, 61, 62, 63, 64] ∧ es_exN (fun T => T ≤ 96 ∧ es_jT (es_Qm J) M N T ∧ I' 44 = am_up (am_up (J 44) 32 (T : Int)) 6 1 ∧ ∀ k : Nat, k < T → es_ax (es_Qm J) M N I' k)) 81 [(0, .inr (.inr 44))] [] I := by
    intro I hf hD
    repeat' (first
      | (refine am_gp 80 [95] rfl (by first | exact True.intro | (refine And.intro ?_ ?_ <;> decide) | exact Or.inl rfl | exact Or.inr rfl | (simp (decide := true) only [am_p, am_u_at, am_u_j, am_u_ne]; omega) | (simp (decide := true) only [am_p, and_true, true_and, true_or, or_true, am_u_at, am_u_j, am_u_ne]; omega) | (simp (decide := true) [am_p, am_u_at, am_u_j, am_u_ne]; omega)) ?_)
      | (show am_V _ _ _ _ _ _ _; simp only [Int.reduceToNat])
      | (refine am_bt rfl (by first | omega | (simp (decide := true) only [am_u_at, am_u_j, am_u_ne]; omega)) (by first | omega | (simp (decide := true) only [am_u_at, am_u_j, am_u_ne]; omega)) ?_)
      | (refine am_bf rfl (by first | omega | (simp (decide := true) only [am_u_at, am_u_j, am_u_ne]; omega)) (by first | omega | (simp (decide := true) only [am_u_at, am_u_j, am_u_ne]; omega)) ?_)
      | (refine am_br rfl (by first | omega | (simp (decide := true) only [am_u_at, am_u_j, am_u_ne]; omega)) (fun h => ?_) (fun h => ?_))
      | (refine am_rt rfl (by first | exact True.intro | (refine And.intro ?_ ?_ <;> decide) | exact Or.inl rfl | exact Or.inr rfl | (show _ ∨ _; omega)) ?_))
    exact loopk 98 0 (am_u I 44 32 0) ((hf.wd rfl).u _ _ rfl) (by rw [am_u_eq, hf 44 rfl]; rfl) (by rw [am_u_ne (by decide)]; exact hD) (fun x hx => by omega) (fun x hx => by omega) (by omega) (by omega)
  have loopi : ∀ (m : Nat) (i : Int) (I : am_I), -1 ≤ i → i ≤ M → i + 1 < m → am_fr J I [59] → es_D (I 59) (es_Qm J) M N i N 1 (-12) → am_V (d + 3) Y_mo_judge (fun r I' => r = some (.inl (es_k0 (es_Qm J) M N M N 0)) ∧ am_fr J I' [44, 59, 60, 61, 62, 63, 64] ∧ es_exN (fun T => T ≤ 96 ∧ es_jT (es_Qm J) M N T ∧ I' 44 = am_up (am_up (J 44) 32 (T : Int)) 6 1 ∧ ∀ k : Nat, k < T → es_ax (es_Qm J) M N I' k)) 5 [(0, .inr (.inr 44)), (1, .inl i)] [] I := by
    intro m
    induction m with
    | zero => intro i I h1 h2 h3; omega
    | succ m ih =>
      intro i I h1 h2 h3 hf hD
      have loopj : ∀ (m2 : Nat) (j : Int) (I : am_I), 0 ≤ i → -1 ≤ j → j ≤ N → j + 1 < m2 → am_fr J I [59] → es_D (I 59) (es_Qm J) M N i j 1 (-12) → am_V (d + 3) Y_mo_judge (fun r I' => r = some (.inl (es_k0 (es_Qm J) M N M N 0)) ∧ am_fr J I' [44, 59, 60, 61, 62, 63, 64] ∧ es_exN (fun T => T ≤ 96 ∧ es_jT (es_Qm J) M N T ∧ I' 44 = am_up (am_up (J 44) 32 (T : Int)) 6 1 ∧ ∀ k : Nat, k < T → es_ax (es_Qm J) M N I' k)) 14 [(0, .inr (.inr 44)), (1, .inl i), (2, .inl j)] [] I := by
        intro m2
        induction m2 with
        | zero => intro j I g0 g1 g2 g3; omega
        | succ m2 ihj =>
          intro j I g0 g1 g2 g3 hf hD
          have loopt : ∀ (m3 : Nat) (t : Int) (I : am_I), 0 ≤ j → -1 ≤ t → t ≤ 1 → t + 1 < m3 → am_fr J I [59] → es_D (I 59) (es_Qm J) M N i j t (-12) → am_V (d + 3) Y_mo_judge (fun r I' => r = some (.inl (es_k0 (es_Qm J) M N M N 0)) ∧ am_fr J I' [44, 59, 60, 61, 62, 63, 64] ∧ es_exN (fun T => T ≤ 96 ∧ es_jT (es_Qm J) M N T ∧ I' 44 = am_up (am_up (J 44) 32 (T : Int)) 6 1 ∧ ∀ k : Nat, k < T → es_ax (es_Qm J) M N I' k)) 20 [(0, .inr (.inr 44)), (1, .inl i), (2, .inl j), (3, .inl t)] [] I := by
            intro m3
            induction m3 with
            | zero => intro t I f0 f1 f2 f3; omega
            | succ m3 iht =>
              intro t I f0 f1 f2 f3 hf hD
              have loopc : ∀ (m4 : Nat) (c : Int) (I : am_I), 0 ≤ t → -12 ≤ c → c ≤ 13 → 13 - c < m4 → am_fr J I [59] → es_D (I 59) (es_Qm J) M N i j t c → am_V (d + 3) Y_mo_judge (fun r I' => r = some (.inl (es_k0 (es_Qm J) M N M N 0)) ∧ am_fr J I' [44, 59, 60, 61, 62, 63, 64] ∧ es_exN (fun T => T ≤ 96 ∧ es_jT (es_Qm J) M N T ∧ I' 44 = am_up (am_up (J 44) 32 (T : Int)) 6 1 ∧ ∀ k : Nat, k < T → es_ax (es_Qm J) M N I' k)) 28 [(0, .inr (.inr 44)), (1, .inl i), (2, .inl j), (3, .inl t), (4, .inl c)] [] I := by
                intro m4
                induction m4 with
                | zero => intro c I e0 e1 e2 e3; omega
                | succ m4 ihc =>
                  intro c I e0 e1 e2 e3 hf hD
                  obtain ⟨ii, hii⟩ : ∃ n : Nat, i = (n : Int) := ⟨i.toNat, by omega⟩
                  obtain ⟨jj, hjj⟩ : ∃ n : Nat, j = (n : Int) := ⟨j.toNat, by omega⟩
                  have heq : es_eqm I J := ⟨⟨hf 45 rfl, hf 46 rfl, hf 47 rfl, hf 48 rfl⟩, by rw [hf 44 rfl], by rw [hf 44 rfl]⟩
                  have ht01 : t = 0 ∨ t = 1 := by omega
                  have hii2 : ii ≤ M := by omega
                  have hjj2 : jj ≤ N := by omega
                  rw [hii, hjj] at hD
                  have h4 := es_D_h4 hD ht01 hii2 hjj2
                  have hst : -12 ≤ c ∧ c ≤ 12 → _ := fun hc => es_D_s (v := es_kt (es_Qm J) M N t (M - ii) (N - jj) c) hM4 hN4 hD ht01 hii2 hjj2 hc rfl
                  rw [hii, hjj]
                  refine am_go 1 [] rfl trivial ?_
                  clear loopk mid
                  repeat' (first
                    | (refine am_gp 80 [20, 28] rfl (by first | exact True.intro | (refine And.intro ?_ ?_ <;> decide) | exact Or.inl rfl | exact Or.inr rfl | (simp (decide := true) only [am_p, am_u_at, am_u_j, am_u_ne]; omega) | (simp (decide := true) only [am_p, and_true, true_and, true_or, or_true, am_u_at, am_u_j, am_u_ne]; omega) | (simp (decide := true) [am_p, am_u_at, am_u_j, am_u_ne]; omega)) ?_)
                    | (show am_V _ _ _ _ _ _ _; simp only [Int.reduceToNat])
                    | (refine am_bt rfl (by first | omega | (simp (decide := true) only [am_u_at, am_u_j, am_u_ne]; omega)) (by first | omega | (simp (decide := true) only [am_u_at, am_u_j, am_u_ne]; omega)) ?_)
                    | (refine am_bf rfl (by first | omega | (simp (decide := true) only [am_u_at, am_u_j, am_u_ne]; omega)) (by first | omega | (simp (decide := true) only [am_u_at, am_u_j, am_u_ne]; omega)) ?_)
                    | (refine am_br rfl (by first | omega | (simp (decide := true) only [am_u_at, am_u_j, am_u_ne]; omega)) (fun h => ?_) (fun h => ?_))
                    | (refine am_cV (y' := Y_mo_leastAt) rfl lk_mo_241 ok_mo_leastAt rfl rfl rfl (c_mo_least _ _ _ _ _ _ J M N heq hn hM hN (by first | omega | (simp (decide := true) only [am_u_at, am_u_j, am_u_ne]; omega)) (by first | omega | (simp (decide := true) only [am_u_at, am_u_j, am_u_ne]; omega)) (by first | omega | (simp (decide := true) only [am_u_at, am_u_j, am_u_ne]; omega)) (by first | omega | (simp (decide := true) only [am_u_at, am_u_j, am_u_ne]; omega)) h4) ?_; rintro r I ⟨rfl, rfl⟩)
                    | (refine am_cS (y' := Y_mo_costAt) rfl lk_mo_226 ok_mo_costAt rfl rfl (c_costAt _ _ _ _ _ _) ?_; rintro r I ⟨rfl, rfl⟩)
                    | (refine am_rt rfl (by first | exact True.intro | (refine And.intro ?_ ?_ <;> decide) | exact Or.inl rfl | exact Or.inr rfl | (show _ ∨ _; omega)) ?_))
                  · refine am_wk [4] ?_
                    rw [← hii, ← hjj] at hD ⊢
                    exact iht (t - 1) I f0 (by omega) (by omega) (by omega) hf (es_D_w hD (fun i' j' t' c' _ _ _ _ _ _ => by omega))
                  · have h5 := hst (by omega)
                    rw [← hii, ← hjj] at h5 ⊢
                    exact ihc (c + 1) _ e0 (by omega) (by omega) (by omega) (hf.u _ _ rfl) (by rw [am_u_eq]; exact h5)
              refine am_go 1 [] rfl trivial ?_
              repeat' (first
                | (refine am_gp 80 [14, 28] rfl (by first | exact True.intro | (refine And.intro ?_ ?_ <;> decide) | exact Or.inl rfl | exact Or.inr rfl | (simp (decide := true) only [am_p, am_u_at, am_u_j, am_u_ne]; omega) | (simp (decide := true) only [am_p, and_true, true_and, true_or, or_true, am_u_at, am_u_j, am_u_ne]; omega) | (simp (decide := true) [am_p, am_u_at, am_u_j, am_u_ne]; omega)) ?_)
                | (show am_V _ _ _ _ _ _ _; simp only [Int.reduceToNat])
                | (refine am_bt rfl (by first | omega | (simp (decide := true) only [am_u_at, am_u_j, am_u_ne]; omega)) (by first | omega | (simp (decide := true) only [am_u_at, am_u_j, am_u_ne]; omega)) ?_)
                | (refine am_bf rfl (by first | omega | (simp (decide := true) only [am_u_at, am_u_j, am_u_ne]; omega)) (by first | omega | (simp (decide := true) only [am_u_at, am_u_j, am_u_ne]; omega)) ?_)
                | (refine am_br rfl (by first | omega | (simp (decide := true) only [am_u_at, am_u_j, am_u_ne]; omega)) (fun h => ?_) (fun h => ?_))
                | (refine am_rt rfl (by first | exact True.intro | (refine And.intro ?_ ?_ <;> decide) | exact Or.inl rfl | exact Or.inr rfl | (show _ ∨ _; omega)) ?_))
              · refine am_wk [3] ?_
                exact ihj (j - 1) I g0 (by omega) (by omega) (by omega) hf (es_D_w hD (fun i' j' t' c' _ _ _ _ _ _ => by omega))
              · exact loopc 26 (-12) I (by omega) (by omega) (by omega) (by omega) hf hD
          refine am_go 1 [] rfl trivial ?_
          repeat' (first
            | (refine am_gp 80 [5, 20] rfl (by first | exact True.intro | (refine And.intro ?_ ?_ <;> decide) | exact Or.inl rfl | exact Or.inr rfl | (simp (decide := true) only [am_p, am_u_at, am_u_j, am_u_ne]; omega) | (simp (decide := true) only [am_p, and_true, true_and, true_or, or_true, am_u_at, am_u_j, am_u_ne]; omega) | (simp (decide := true) [am_p, am_u_at, am_u_j, am_u_ne]; omega)) ?_)
            | (show am_V _ _ _ _ _ _ _; simp only [Int.reduceToNat])
            | (refine am_bt rfl (by first | omega | (simp (decide := true) only [am_u_at, am_u_j, am_u_ne]; omega)) (by first | omega | (simp (decide := true) only [am_u_at, am_u_j, am_u_ne]; omega)) ?_)
            | (refine am_bf rfl (by first | omega | (simp (decide := true) only [am_u_at, am_u_j, am_u_ne]; omega)) (by first | omega | (simp (decide := true) only [am_u_at, am_u_j, am_u_ne]; omega)) ?_)
            | (refine am_br rfl (by first | omega | (simp (decide := true) only [am_u_at, am_u_j, am_u_ne]; omega)) (fun h => ?_) (fun h => ?_))
            | (refine am_rt rfl (by first | exact True.intro | (refine And.intro ?_ ?_ <;> decide) | exact Or.inl rfl | exact Or.inr rfl | (show _ ∨ _; omega)) ?_))
          · refine am_wk [2] ?_
            exact ih (i - 1) I (by omega) (by omega) (by omega) hf (es_D_w hD (fun i' j' t' c' _ _ _ _ _ _ => by omega))
          · exact loopt 3 1 I (by omega) (by omega) (by omega) (by omega) hf hD
      have b0 : I 44 0 = (N : Int) := by rw [hf 44 rfl]; exact hN
      refine am_go 1 [] rfl trivial ?_
      repeat' (first
        | (refine am_gp 80 [14, 81] rfl (by first | exact True.intro | (refine And.intro ?_ ?_ <;> decide) | exact Or.inl rfl | exact Or.inr rfl | (simp (decide := true) only [am_p, am_u_at, am_u_j, am_u_ne]; omega) | (simp (decide := true) only [am_p, and_true, true_and, true_or, or_true, am_u_at, am_u_j, am_u_ne]; omega) | (simp (decide := true) [am_p, am_u_at, am_u_j, am_u_ne]; omega)) ?_)
        | (show am_V _ _ _ _ _ _ _; simp only [Int.reduceToNat])
        | (refine am_bt rfl (by first | omega | (simp (decide := true) only [am_u_at, am_u_j, am_u_ne]; omega)) (by first | omega | (simp (decide := true) only [am_u_at, am_u_j, am_u_ne]; omega)) ?_)
        | (refine am_bf rfl (by first | omega | (simp (decide := true) only [am_u_at, am_u_j, am_u_ne]; omega)) (by first | omega | (simp (decide := true) only [am_u_at, am_u_j, am_u_ne]; omega)) ?_)
        | (refine am_br rfl (by first | omega | (simp (decide := true) only [am_u_at, am_u_j, am_u_ne]; omega)) (fun h => ?_) (fun h => ?_))
        | (refine am_rt rfl (by first | exact True.intro | (refine And.intro ?_ ?_ <;> decide) | exact Or.inl rfl | exact Or.inr rfl | (show _ ∨ _; omega)) ?_))
      · refine am_wk [1] ?_
        exact mid I hf (es_D_w hD (fun i' j' t' c' _ _ _ _ _ _ => by omega))
      · rw [b0]
        exact loopj 26 (N : Int) I (by omega) (by omega) (by omega) (by omega) hf hD
  repeat' (first
    | (refine am_gp 80 [5] rfl (by first | exact True.intro | (refine And.intro ?_ ?_ <;> decide) | exact Or.inl rfl | exact Or.inr rfl | (simp (decide := true) only [am_p, am_u_at, am_u_j, am_u_ne]; omega) | (simp (decide := true) only [am_p, and_true, true_and, true_or, or_true, am_u_at, am_u_j, am_u_ne]; omega) | (simp (decide := true) [am_p, am_u_at, am_u_j, am_u_ne]; omega)) ?_)
    | (show am_V _ _ _ _ _ _ _; simp only [Int.reduceToNat])
    | (refine am_bt rfl (by first | omega | (simp (decide := true) only [am_u_at, am_u_j, am_u_ne]; omega)) (by first | omega | (simp (decide := true) only [am_u_at, am_u_j, am_u_ne]; omega)) ?_)
    | (refine am_bf rfl (by first | omega | (simp (decide := true) only [am_u_at, am_u_j, am_u_ne]; omega)) (by first | omega | (simp (decide := true) only [am_u_at, am_u_j, am_u_ne]; omega)) ?_)
    | (refine am_br rfl (by first | omega | (simp (decide := true) only [am_u_at, am_u_j, am_u_ne]; omega)) (fun h => ?_) (fun h => ?_))
    | (refine am_rt rfl (by first | exact True.intro | (refine And.intro ?_ ?_ <;> decide) | exact Or.inl rfl | exact Or.inr rfl | (show _ ∨ _; omega)) ?_))
  rw [hM]
  exact loopi 27 (M : Int) J (by omega) (by omega) (by omega) am_fr.rf (fun i' j' t' c' _ _ _ _ _ h => by omega)
