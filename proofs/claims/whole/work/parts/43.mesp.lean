theorem es_go_rf {S : Int → Prop} {beat all t l : Int} {i : Nat} (hi : i < 24) (hl : S l) : es_go S beat all (24 - (i : Int)) t l = es_rf S beat all (23 - i) t l := by
  unfold es_go es_rf
  rw [if_neg (by omega), show (24 - (i : Int) - 1).toNat = 23 - i by omega]
  exact es_if_c ⟨fun z => ⟨hl, z⟩, fun z => z.2⟩
theorem c_me_spell (d : Nat) (k : Int) (I0 : am_I) (hmb : es_mb I0) (hrows : ∀ k : Int, 0 ≤ k → k ≤ 24 → es_rw (I0 16) (es_Sc I0) (I0 14 3) (I0 14 2 * I0 14 3) k) (hkt : 0 ≤ k ∧ k < es_F (es_Sc I0) (I0 14 3) (I0 14 2 * I0 14 3) 24 0) : am_C (d + 2) Y_me_spell [.inr (.inr 14), .inr (.inl k), .inr (.inr 1)] I0 (fun r I' => r = none ∧ am_fr I0 I' [1, 2, 3] ∧ es_exN (fun N => N ≤ 24 ∧ es_rN (es_Sc I0) (I0 14 3) (I0 14 2 * I0 14 3) k N ∧ I' 1 2 = (N : Int) ∧ ∀ j : Nat, j < N → I' 2 j = 60 ∧ I' 3 j = (es_rs (es_Sc I0) (I0 14 3) (I0 14 2 * I0 14 3) k (j + 1)).1 - (es_rs (es_Sc I0) (I0 14 3) (I0 14 2 * I0 14 3) k j).1)) := by
  refine am_enter ok_me_spell rfl ?_
  obtain ⟨m1, m2, m3⟩ := id hmb
  obtain ⟨s1, s2, s3⟩ := id m3
  have hall := es_all m1 m2
  have hS : ∀ l, es_Sc I0 l → 1 ≤ l ∧ l ≤ 96 := fun l h => h.1
  have loopi : ∀ (m i : Nat) (room : Int) (I : am_I), i ≤ 24 → 24 - i < m → am_fr I0 I [1, 2, 3] → I 1 2 = i → es_ra (es_Sc I0) (I0 14 3) (I0 14 2 * I0 14 3) i (es_rs (es_Sc I0) (I0 14 3) (I0 14 2 * I0 14 3) k i) → (∀ j : Nat, j < i → (es_rs (es_Sc I0) (I0 14 3) (I0 14 2 * I0 14 3) k j).1 ≠ (I0 14 2 * I0 14 3)) → (∀ j : Nat, j < i → I 2 j = 60 ∧ I 3 j = (es_rs (es_Sc I0) (I0 14 3) (I0 14 2 * I0 14 3) k (j + 1)).1 - (es_rs (es_Sc I0) (I0 14 3) (I0 14 2 * I0 14 3) k j).1) → ((es_rs (es_Sc I0) (I0 14 3) (I0 14 2 * I0 14 3) k i).1 ≠ (I0 14 2 * I0 14 3) → room = (I0 14 3) - (es_rs (es_Sc I0) (I0 14 3) (I0 14 2 * I0 14 3) k i).1 % (I0 14 3)) → (0 ≤ room ∧ room ≤ 96) → am_V (d + 2) Y_me_spell (fun r I' => r = none ∧ am_fr I0 I' [1, 2, 3] ∧ es_exN (fun N => N ≤ 24 ∧ es_rN (es_Sc I0) (I0 14 3) (I0 14 2 * I0 14 3) k N ∧ I' 1 2 = (N : Int) ∧ ∀ j : Nat, j < N → I' 2 j = 60 ∧ I' 3 j = (es_rs (es_Sc I0) (I0 14 3) (I0 14 2 * I0 14 3) k (j + 1)).1 - (es_rs (es_Sc I0) (I0 14 3) (I0 14 2 * I0 14 3) k j).1)) 21 [(0, .inr (.inr 14)), (1, .inr (.inl k)), (3, .inr (.inr 1)), (4, .inr (.inl (es_rs (es_Sc I0) (I0 14 3) (I0 14 2 * I0 14 3) k i).2)), (6, .inl (es_rs (es_Sc I0) (I0 14 3) (I0 14 2 * I0 14 3) k i).1), (7, .inl room), (8, .inl (24 - (i : Int)))] [] I := by
    intro m
    induction m with
    | zero => intro i room I h1 h2; omega
    | succ m ih =>
      intro i room I h1 h2 hf hsz ha hne hin hroom hroom2
      have e14 : I 14 = I0 14 := hf 14 rfl
      have e15 : I 15 = I0 15 := hf 15 rfl
      have e16 : I 16 = I0 16 := hf 16 rfl
      have b1 : I 14 1 = I0 14 1 := congrFun e14 1
      have b2 : I 14 2 = I0 14 2 := congrFun e14 2
      have b3 : I 14 3 = I0 14 3 := congrFun e14 3
      have bA : I 14 2 * I 14 3 = (I0 14 2 * I0 14 3) := by rw [b2, b3]
      have hst : (es_rs (es_Sc I0) (I0 14 3) (I0 14 2 * I0 14 3) k i).1 ≠ (I0 14 2 * I0 14 3) → _ := fun h => es_rs_st (n := I0 14 2) (k := k) (by omega) hS h1 ha h
      have hrs : es_rs (es_Sc I0) (I0 14 3) (I0 14 2 * I0 14 3) k (i + 1) = ((es_rs (es_Sc I0) (I0 14 3) (I0 14 2 * I0 14 3) k i).1 + (es_pk (es_rf (es_Sc I0) (I0 14 3) (I0 14 2 * I0 14 3) (23 - i) (es_rs (es_Sc I0) (I0 14 3) (I0 14 2 * I0 14 3) k i).1) 1 96 (es_rs (es_Sc I0) (I0 14 3) (I0 14 2 * I0 14 3) k i).2).1, (es_pk (es_rf (es_Sc I0) (I0 14 3) (I0 14 2 * I0 14 3) (23 - i) (es_rs (es_Sc I0) (I0 14 3) (I0 14 2 * I0 14 3) k i).1) 1 96 (es_rs (es_Sc I0) (I0 14 3) (I0 14 2 * I0 14 3) k i).2).2) := rfl
      have hne2 : (es_rs (es_Sc I0) (I0 14 3) (I0 14 2 * I0 14 3) k i).1 ≠ (I0 14 2 * I0 14 3) → ∀ j : Nat, j < i + 1 → (es_rs (es_Sc I0) (I0 14 3) (I0 14 2 * I0 14 3) k j).1 ≠ (I0 14 2 * I0 14 3) := by
        intro h j hj
        by_cases c : j = i
        · rw [c]; exact h
        · exact hne j (by omega)
      obtain ⟨a1, a2, a3⟩ := ha
      have hx2 : (es_rs (es_Sc I0) (I0 14 3) (I0 14 2 * I0 14 3) k i).2 ≤ 1000000000000000000 := by
        have := (es_F_D (S := (es_Sc I0)) (beat := (I0 14 3)) (all := (I0 14 2 * I0 14 3)) (24 - i) (es_rs (es_Sc I0) (I0 14 3) (I0 14 2 * I0 14 3) k i).1).2
        omega
      have em0 := Int.emod_nonneg (es_rs (es_Sc I0) (I0 14 3) (I0 14 2 * I0 14 3) k i).1 (show I0 14 3 ≠ 0 by omega)
      have em1 := Int.emod_lt_of_pos (es_rs (es_Sc I0) (I0 14 3) (I0 14 2 * I0 14 3) k i).1 (show 0 < I0 14 3 by omega)
      have hrw' : 0 < 24 - (i : Int) → es_rw (I 16) (es_Sc I0) (I0 14 3) (I0 14 2 * I0 14 3) (24 - (i : Int) - 1) := by
        intro h
        rw [e16]
        exact hrows _ (by omega) (by omega)
      have hlj : ∀ j : Nat, (j : Int) < I0 14 1 → (1 ≤ I 15 (j : Int).toNat ∧ I 15 (j : Int).toNat ≤ 96) ∧ es_Sc I0 (I 15 (j : Int).toNat) := by
        intro j hj
        rw [e15, show (j : Int).toNat = j by omega]
        exact ⟨s2 j hj, s2 j hj, j, hj, rfl⟩
      have hzero : ∀ x : Int, ¬ es_Sc I0 x → es_rf (es_Sc I0) (I0 14 3) (I0 14 2 * I0 14 3) (23 - i) (es_rs (es_Sc I0) (I0 14 3) (I0 14 2 * I0 14 3) k i).1 x = 0 := by
        intro x hx
        unfold es_rf
        exact es_if_f (fun z => hx z.1)
      have fin : ∀ (j : Nat) (l here : Int), (es_rs (es_Sc I0) (I0 14 3) (I0 14 2 * I0 14 3) k i).1 ≠ (I0 14 2 * I0 14 3) → (j : Int) < I0 14 1 → es_pk (es_rf (es_Sc I0) (I0 14 3) (I0 14 2 * I0 14 3) (23 - i) (es_rs (es_Sc I0) (I0 14 3) (I0 14 2 * I0 14 3) k i).1) 1 96 (es_rs (es_Sc I0) (I0 14 3) (I0 14 2 * I0 14 3) k i).2 = (I 15 (j : Int).toNat, l) → am_V (d + 2) Y_me_spell (fun r I' => r = none ∧ am_fr I0 I' [1, 2, 3] ∧ es_exN (fun N => N ≤ 24 ∧ es_rN (es_Sc I0) (I0 14 3) (I0 14 2 * I0 14 3) k N ∧ I' 1 2 = (N : Int) ∧ ∀ j : Nat, j < N → I' 2 j = 60 ∧ I' 3 j = (es_rs (es_Sc I0) (I0 14 3) (I0 14 2 * I0 14 3) k (j + 1)).1 - (es_rs (es_Sc I0) (I0 14 3) (I0 14 2 * I0 14 3) k j).1)) 113 [(0, .inr (.inr 14)), (1, .inr (.inl k)), (3, .inr (.inr 1)), (4, .inr (.inl l)), (6, .inl (es_rs (es_Sc I0) (I0 14 3) (I0 14 2 * I0 14 3) k i).1), (7, .inl room), (8, .inl (24 - (i : Int))), (9, .inl j), (10, .inr (.inl here))] [] I := by
        intro j l here hxa hj hpk
        obtain ⟨t1, t2, t3, t4, t5⟩ := hst hxa
        rw [hpk] at hrs t2 t3
        have hr2 := hroom hxa
        have hlen := (hlj j hj).1
        have t3' : (es_rs (es_Sc I0) (I0 14 3) (I0 14 2 * I0 14 3) k i).1 % (I0 14 3) + I 15 (j : Int).toNat ≤ (I0 14 3) := t3.2
        have hem := es_em (b := I0 14 3) (t := (es_rs (es_Sc I0) (I0 14 3) (I0 14 2 * I0 14 3) k i).1) (l := I 15 (j : Int).toNat) (by omega) a1.1 (by omega) t3'
        clear hpk t2 t3
        have ei : (i : Int).toNat = i := by omega
        have nxt : ∀ room2 : Int, ((es_rs (es_Sc I0) (I0 14 3) (I0 14 2 * I0 14 3) k i).1 + I 15 (j : Int).toNat ≠ (I0 14 2 * I0 14 3) → room2 = (I0 14 3) - ((es_rs (es_Sc I0) (I0 14 3) (I0 14 2 * I0 14 3) k i).1 + I 15 (j : Int).toNat) % (I0 14 3)) → (0 ≤ room2 ∧ room2 ≤ 96) → am_V (d + 2) Y_me_spell (fun r I' => r = none ∧ am_fr I0 I' [1, 2, 3] ∧ es_exN (fun N => N ≤ 24 ∧ es_rN (es_Sc I0) (I0 14 3) (I0 14 2 * I0 14 3) k N ∧ I' 1 2 = (N : Int) ∧ ∀ j : Nat, j < N → I' 2 j = 60 ∧ I' 3 j = (es_rs (es_Sc I0) (I0 14 3) (I0 14 2 * I0 14 3) k (j + 1)).1 - (es_rs (es_Sc I0) (I0 14 3) (I0 14 2 * I0 14 3) k j).1)) 21 [(0, .inr (.inr 14)), (1, .inr (.inl k)), (3, .inr (.inr 1)), (4, .inr (.inl l)), (6, .inl ((es_rs (es_Sc I0) (I0 14 3) (I0 14 2 * I0 14 3) k i).1 + I 15 (j : Int).toNat)), (7, .inl room2), (8, .inl (24 - (i : Int) - 1))] [] (am_u (am_u (am_u I 2 (I 1 2).toNat 60) 3 (I 1 2).toNat (I 15 (j : Int).toNat)) 1 2 (I 1 2 + 1)) := by
          intro room2 hr3 hr4
          have h9 := ih (i + 1) room2 (am_u (am_u (am_u I 2 (I 1 2).toNat 60) 3 (I 1 2).toNat (I 15 (j : Int).toNat)) 1 2 (I 1 2 + 1)) (by omega) (by omega) (((hf.u _ _ rfl).u _ _ rfl).u _ _ rfl) ?_ t5 (hne2 hxa) ?_ ?_ hr4
          · rw [hrs, show 24 - ((i + 1 : Nat) : Int) = 24 - (i : Int) - 1 by omega] at h9
            exact h9
          · simp (decide := true) only [am_u_at, am_u_j, am_u_ne]; omega
          · intro x hx
            simp (decide := true) only [am_u_at, am_u_j, am_u_ne]
            rw [am_u_eq, am_u_eq, hsz, ei]
            by_cases c : x = i
            · rw [c, am_up_eq, am_up_eq, hrs]
              refine ⟨rfl, ?_⟩
              show I 15 (j : Int).toNat = (es_rs (es_Sc I0) (I0 14 3) (I0 14 2 * I0 14 3) k i).1 + I 15 (j : Int).toNat - (es_rs (es_Sc I0) (I0 14 3) (I0 14 2 * I0 14 3) k i).1
              omega
            · rw [am_up_ne c, am_up_ne c]
              exact hin x (by omega)
          · rw [hrs]
            exact hr3
        repeat' (first
          | (refine am_gp 80 [21] rfl (by first | exact True.intro | (refine And.intro ?_ ?_ <;> decide) | exact Or.inl rfl | exact Or.inr rfl | (simp (decide := true) only [am_p, am_u_at, am_u_j, am_u_ne]; omega) | (simp (decide := true) only [am_p, and_true, true_and, true_or, or_true, am_u_at, am_u_j, am_u_ne]; omega) | (simp (decide := true) [am_p, am_u_at, am_u_j, am_u_ne]; omega)) ?_)
          | (show am_V _ _ _ _ _ _ _; simp only [Int.reduceToNat])
          | (refine am_bt rfl (by first | omega | (simp (decide := true) only [am_u_at, am_u_j, am_u_ne]; omega)) (by first | omega | (simp (decide := true) only [am_u_at, am_u_j, am_u_ne]; omega)) ?_)
          | (refine am_bf rfl (by first | omega | (simp (decide := true) only [am_u_at, am_u_j, am_u_ne]; omega)) (by first | omega | (simp (decide := true) only [am_u_at, am_u_j, am_u_ne]; omega)) ?_)
          | (refine am_br rfl (by first | omega | (simp (decide := true) only [am_u_at, am_u_j, am_u_ne]; omega)) (fun h => ?_) (fun h => ?_))
          | (refine am_cV (y' := Y_no_push) rfl lk_me_56 ok_no_push rfl rfl rfl (c_push_row _ _ _ _ (by first | omega | (simp (decide := true) only [am_u_at, am_u_j, am_u_ne]; omega))) ?_; rintro r I ⟨rfl, rfl⟩)
          | (refine am_rt rfl (by first | exact True.intro | (refine And.intro ?_ ?_ <;> decide) | exact Or.inl rfl | exact Or.inr rfl) ?_))
        · refine am_wk [9, 10] ?_
          simp (decide := true) only [am_u_at, am_u_j, am_u_ne] at h
          exact nxt (I 14 3) (fun _ => by omega) (by omega)
        · refine am_wk [9, 10] ?_
          simp (decide := true) only [am_u_at, am_u_j, am_u_ne] at h
          exact nxt (room - I 15 (j : Int).toNat) (fun _ => by omega) (by omega)
      have loopj : ∀ (n j : Nat) (l : Int), (es_rs (es_Sc I0) (I0 14 3) (I0 14 2 * I0 14 3) k i).1 ≠ (I0 14 2 * I0 14 3) → (j : Int) < I0 14 1 → I0 14 1 - j < n → 0 ≤ l → l ≤ 1000000000000000000 → l < es_fd es_oc 0 (es_rf (es_Sc I0) (I0 14 3) (I0 14 2 * I0 14 3) (23 - i) (es_rs (es_Sc I0) (I0 14 3) (I0 14 2 * I0 14 3) k i).1) (I 15 (j : Int).toNat) (97 - I 15 (j : Int).toNat).toNat → es_pk (es_rf (es_Sc I0) (I0 14 3) (I0 14 2 * I0 14 3) (23 - i) (es_rs (es_Sc I0) (I0 14 3) (I0 14 2 * I0 14 3) k i).1) (I 15 (j : Int).toNat) (97 - I 15 (j : Int).toNat).toNat l = es_pk (es_rf (es_Sc I0) (I0 14 3) (I0 14 2 * I0 14 3) (23 - i) (es_rs (es_Sc I0) (I0 14 3) (I0 14 2 * I0 14 3) k i).1) 1 96 (es_rs (es_Sc I0) (I0 14 3) (I0 14 2 * I0 14 3) k i).2 → am_V (d + 2) Y_me_spell (fun r I' => r = none ∧ am_fr I0 I' [1, 2, 3] ∧ es_exN (fun N => N ≤ 24 ∧ es_rN (es_Sc I0) (I0 14 3) (I0 14 2 * I0 14 3) k N ∧ I' 1 2 = (N : Int) ∧ ∀ j : Nat, j < N → I' 2 j = 60 ∧ I' 3 j = (es_rs (es_Sc I0) (I0 14 3) (I0 14 2 * I0 14 3) k (j + 1)).1 - (es_rs (es_Sc I0) (I0 14 3) (I0 14 2 * I0 14 3) k j).1)) 62 [(0, .inr (.inr 14)), (1, .inr (.inl k)), (3, .inr (.inr 1)), (4, .inr (.inl l)), (6, .inl (es_rs (es_Sc I0) (I0 14 3) (I0 14 2 * I0 14 3) k i).1), (7, .inl room), (8, .inl (24 - (i : Int))), (9, .inl j), (10, .inr (.inl (es_rf (es_Sc I0) (I0 14 3) (I0 14 2 * I0 14 3) (23 - i) (es_rs (es_Sc I0) (I0 14 3) (I0 14 2 * I0 14 3) k i).1 (I 15 (j : Int).toNat))))] [] I := by
        intro n
        induction n with
        | zero => intro j l g0 g1 g2; omega
        | succ n ihj =>
          intro j l g0 g1 g2 g3 g4 g5 g6
          have hi24 := (hst g0).1
          have hlen := (hlj j g1).1
          have hr2 := hroom g0
          have hwd := es_rf_D (es_Sc I0) (I0 14 3) (I0 14 2 * I0 14 3) (23 - i) (es_rs (es_Sc I0) (I0 14 3) (I0 14 2 * I0 14 3) k i).1 (I 15 (j : Int).toNat)
          unfold es_Dc at hwd
          have em : (97 - I 15 (j : Int).toNat).toNat = (97 - (I 15 (j : Int).toNat + 1)).toNat + 1 := by omega
          rw [em, es_fd_l es_mc (fun z => es_rf_D _ _ _ _ _ _)] at g5
          have g5' : l < min 1000000000000000000 (es_rf (es_Sc I0) (I0 14 3) (I0 14 2 * I0 14 3) (23 - i) (es_rs (es_Sc I0) (I0 14 3) (I0 14 2 * I0 14 3) k i).1 (I 15 (j : Int).toNat) + es_fd es_oc 0 (es_rf (es_Sc I0) (I0 14 3) (I0 14 2 * I0 14 3) (23 - i) (es_rs (es_Sc I0) (I0 14 3) (I0 14 2 * I0 14 3) k i).1) (I 15 (j : Int).toNat + 1) (97 - (I 15 (j : Int).toNat + 1)).toNat) := g5
          rw [em] at g6
          have done : l < es_rf (es_Sc I0) (I0 14 3) (I0 14 2 * I0 14 3) (23 - i) (es_rs (es_Sc I0) (I0 14 3) (I0 14 2 * I0 14 3) k i).1 (I 15 (j : Int).toNat) → es_pk (es_rf (es_Sc I0) (I0 14 3) (I0 14 2 * I0 14 3) (23 - i) (es_rs (es_Sc I0) (I0 14 3) (I0 14 2 * I0 14 3) k i).1) 1 96 (es_rs (es_Sc I0) (I0 14 3) (I0 14 2 * I0 14 3) k i).2 = (I 15 (j : Int).toNat, l) := by
            intro hl
            rw [← g6]
            show (if l < es_rf (es_Sc I0) (I0 14 3) (I0 14 2 * I0 14 3) (23 - i) (es_rs (es_Sc I0) (I0 14 3) (I0 14 2 * I0 14 3) k i).1 (I 15 (j : Int).toNat) then (I 15 (j : Int).toNat, l) else _) = _
            rw [if_pos hl]
          have hlast : (j : Int) = I0 14 1 - 1 → l < es_rf (es_Sc I0) (I0 14 3) (I0 14 2 * I0 14 3) (23 - i) (es_rs (es_Sc I0) (I0 14 3) (I0 14 2 * I0 14 3) k i).1 (I 15 (j : Int).toNat) := by
            intro hj
            have h0 : es_fd es_oc 0 (es_rf (es_Sc I0) (I0 14 3) (I0 14 2 * I0 14 3) (23 - i) (es_rs (es_Sc I0) (I0 14 3) (I0 14 2 * I0 14 3) k i).1) (I 15 (j : Int).toNat + 1) (97 - (I 15 (j : Int).toNat + 1)).toNat = 0 := by
              refine es_fd_e es_mc _ (fun x x1 x2 => hzero x ?_)
              rintro ⟨c1, y, c2, c3⟩
              rw [e15, show (j : Int).toNat = j by omega] at x1
              by_cases c : y = j
              · rw [c] at c3; omega
              · have := s3 y j (by omega) (by omega)
                omega
            omega
          have hnext : (j : Int) + 1 < I0 14 1 → ¬ l < es_rf (es_Sc I0) (I0 14 3) (I0 14 2 * I0 14 3) (23 - i) (es_rs (es_Sc I0) (I0 14 3) (I0 14 2 * I0 14 3) k i).1 (I 15 (j : Int).toNat) → l - es_rf (es_Sc I0) (I0 14 3) (I0 14 2 * I0 14 3) (23 - i) (es_rs (es_Sc I0) (I0 14 3) (I0 14 2 * I0 14 3) k i).1 (I 15 (j : Int).toNat) < es_fd es_oc 0 (es_rf (es_Sc I0) (I0 14 3) (I0 14 2 * I0 14 3) (23 - i) (es_rs (es_Sc I0) (I0 14 3) (I0 14 2 * I0 14 3) k i).1) (I 15 ((j : Int) + 1).toNat) (97 - I 15 ((j : Int) + 1).toNat).toNat ∧ es_pk (es_rf (es_Sc I0) (I0 14 3) (I0 14 2 * I0 14 3) (23 - i) (es_rs (es_Sc I0) (I0 14 3) (I0 14 2 * I0 14 3) k i).1) (I 15 ((j : Int) + 1).toNat) (97 - I 15 ((j : Int) + 1).toNat).toNat (l - es_rf (es_Sc I0) (I0 14 3) (I0 14 2 * I0 14 3) (23 - i) (es_rs (es_Sc I0) (I0 14 3) (I0 14 2 * I0 14 3) k i).1 (I 15 (j : Int).toNat)) = es_pk (es_rf (es_Sc I0) (I0 14 3) (I0 14 2 * I0 14 3) (23 - i) (es_rs (es_Sc I0) (I0 14 3) (I0 14 2 * I0 14 3) k i).1) 1 96 (es_rs (es_Sc I0) (I0 14 3) (I0 14 2 * I0 14 3) k i).2 := by
            intro hj hl
            have hlen2 := (hlj (j + 1) (by omega)).1
            rw [show ((j + 1 : Nat) : Int) = (j : Int) + 1 by omega] at hlen2
            have hlt : I 15 (j : Int).toNat < I 15 ((j : Int) + 1).toNat := by
              rw [e15, show (j : Int).toNat = j by omega, show ((j : Int) + 1).toNat = j + 1 by omega]
              exact s3 j (j + 1) (by omega) (by omega)
            have hz : ∀ x, I 15 (j : Int).toNat + 1 ≤ x → x < I 15 ((j : Int) + 1).toNat → es_rf (es_Sc I0) (I0 14 3) (I0 14 2 * I0 14 3) (23 - i) (es_rs (es_Sc I0) (I0 14 3) (I0 14 2 * I0 14 3) k i).1 x = 0 := by
              intro x x1 x2
              refine hzero x ?_
              rintro ⟨c1, y, c2, c3⟩
              rw [e15, show (j : Int).toNat = j by omega] at x1
              rw [e15, show ((j : Int) + 1).toNat = j + 1 by omega] at x2
              by_cases c : y ≤ j
              · by_cases c' : y = j
                · rw [c'] at c3; omega
                · have := s3 y j (by omega) (by omega)
                  omega
              · by_cases c' : y = j + 1
                · rw [c'] at c3; omega
                · have := s3 (j + 1) y (by omega) (by omega)
                  omega
            have e1 : es_fd es_oc 0 (es_rf (es_Sc I0) (I0 14 3) (I0 14 2 * I0 14 3) (23 - i) (es_rs (es_Sc I0) (I0 14 3) (I0 14 2 * I0 14 3) k i).1) (I 15 (j : Int).toNat + 1) (97 - (I 15 (j : Int).toNat + 1)).toNat = es_fd es_oc 0 (es_rf (es_Sc I0) (I0 14 3) (I0 14 2 * I0 14 3) (23 - i) (es_rs (es_Sc I0) (I0 14 3) (I0 14 2 * I0 14 3) k i).1) (I 15 ((j : Int) + 1).toNat) (97 - I 15 ((j : Int) + 1).toNat).toNat := by
              refine es_fd_ext es_mc (fun z => es_rf_D _ _ _ _ _ _) (by omega) (by omega) (fun x x1 x2 x3 => hz x x1 (by omega))
            refine ⟨by omega, ?_⟩
            rw [← g6]
            show _ = (if l < es_rf (es_Sc I0) (I0 14 3) (I0 14 2 * I0 14 3) (23 - i) (es_rs (es_Sc I0) (I0 14 3) (I0 14 2 * I0 14 3) k i).1 (I 15 (j : Int).toNat) then (I 15 (j : Int).toNat, l) else es_pk (es_rf (es_Sc I0) (I0 14 3) (I0 14 2 * I0 14 3) (23 - i) (es_rs (es_Sc I0) (I0 14 3) (I0 14 2 * I0 14 3) k i).1) (I 15 (j : Int).toNat + 1) (97 - (I 15 (j : Int).toNat + 1)).toNat (l - es_rf (es_Sc I0) (I0 14 3) (I0 14 2 * I0 14 3) (23 - i) (es_rs (es_Sc I0) (I0 14 3) (I0 14 2 * I0 14 3) k i).1 (I 15 (j : Int).toNat)))
            rw [if_neg hl]
            have h8 := es_pk_skip (f := es_rf (es_Sc I0) (I0 14 3) (I0 14 2 * I0 14 3) (23 - i) (es_rs (es_Sc I0) (I0 14 3) (I0 14 2 * I0 14 3) k i).1) (I 15 ((j : Int) + 1).toNat - (I 15 (j : Int).toNat + 1)).toNat (I 15 (j : Int).toNat + 1) (97 - I 15 ((j : Int) + 1).toNat).toNat (l - es_rf (es_Sc I0) (I0 14 3) (I0 14 2 * I0 14 3) (23 - i) (es_rs (es_Sc I0) (I0 14 3) (I0 14 2 * I0 14 3) k i).1 (I 15 (j : Int).toNat)) (by omega) (fun x x1 x2 => hz x x1 (by omega))
            rw [show (I 15 ((j : Int) + 1).toNat - (I 15 (j : Int).toNat + 1)).toNat + (97 - I 15 ((j : Int) + 1).toNat).toNat = (97 - (I 15 (j : Int).toNat + 1)).toNat by omega, show I 15 (j : Int).toNat + 1 + ((I 15 ((j : Int) + 1).toNat - (I 15 (j : Int).toNat + 1)).toNat : Int) = I 15 ((j : Int) + 1).toNat by omega] at h8
            exact h8.symm
          refine am_go 1 [] rfl trivial ?_
          repeat' (first
            | (refine am_gp 80 [62, 88, 113] rfl (by first | exact True.intro | (refine And.intro ?_ ?_ <;> decide) | exact Or.inl rfl | exact Or.inr rfl | (simp (decide := true) only [am_p, am_u_at, am_u_j, am_u_ne]; omega) | (simp (decide := true) only [am_p, and_true, true_and, true_or, or_true, am_u_at, am_u_j, am_u_ne]; omega) | (simp (decide := true) [am_p, am_u_at, am_u_j, am_u_ne]; omega)) ?_)
            | (show am_V _ _ _ _ _ _ _; simp only [Int.reduceToNat])
            | (refine am_bt rfl (by first | omega | (simp (decide := true) only [am_u_at, am_u_j, am_u_ne]; omega)) (by first | omega | (simp (decide := true) only [am_u_at, am_u_j, am_u_ne]; omega)) ?_)
            | (refine am_bf rfl (by first | omega | (simp (decide := true) only [am_u_at, am_u_j, am_u_ne]; omega)) (by first | omega | (simp (decide := true) only [am_u_at, am_u_j, am_u_ne]; omega)) ?_)
            | (refine am_br rfl (by first | omega | (simp (decide := true) only [am_u_at, am_u_j, am_u_ne]; omega)) (fun h => ?_) (fun h => ?_))
            | (refine am_rt rfl (by first | exact True.intro | (refine And.intro ?_ ?_ <;> decide) | exact Or.inl rfl | exact Or.inr rfl) ?_))
          · exact fin j l _ g0 g1 (done (hlast (by omega)))
          · exact fin j l _ g0 g1 (done (by omega))
          · obtain ⟨n1, n2⟩ := hnext (by omega) (by omega)
            have hl2 := hlj (j + 1) (by omega)
            rw [show ((j + 1 : Nat) : Int) = (j : Int) + 1 by omega] at hl2
            have hlb := hl2.1
            have hbar : (es_rs (es_Sc I0) (I0 14 3) (I0 14 2 * I0 14 3) k i).1 % (I0 14 3) + I 15 ((j : Int) + 1).toNat ≤ (I0 14 3) → (es_rs (es_Sc I0) (I0 14 3) (I0 14 2 * I0 14 3) k i).1 + I 15 ((j : Int) + 1).toNat ≤ (I0 14 2 * I0 14 3) := es_bar ⟨a1.1, by omega⟩ (by omega)
            repeat' (first
              | (refine am_gp 80 [62] rfl (by first | exact True.intro | (refine And.intro ?_ ?_ <;> decide) | exact Or.inl rfl | exact Or.inr rfl | (simp (decide := true) only [am_p, am_u_at, am_u_j, am_u_ne]; omega) | (simp (decide := true) only [am_p, and_true, true_and, true_or, or_true, am_u_at, am_u_j, am_u_ne]; omega) | (simp (decide := true) [am_p, am_u_at, am_u_j, am_u_ne]; omega)) ?_)
              | (show am_V _ _ _ _ _ _ _; simp only [Int.reduceToNat])
              | (refine am_bt rfl (by first | omega | (simp (decide := true) only [am_u_at, am_u_j, am_u_ne]; omega)) (by first | omega | (simp (decide := true) only [am_u_at, am_u_j, am_u_ne]; omega)) ?_)
              | (refine am_bf rfl (by first | omega | (simp (decide := true) only [am_u_at, am_u_j, am_u_ne]; omega)) (by first | omega | (simp (decide := true) only [am_u_at, am_u_j, am_u_ne]; omega)) ?_)
              | (refine am_br rfl (by first | omega | (simp (decide := true) only [am_u_at, am_u_j, am_u_ne]; omega)) (fun h => ?_) (fun h => ?_))
              | (refine am_cV (y' := Y_me_onward) rfl lk_me_41 ok_me_onward rfl rfl rfl (c_me_on _ _ _ _ _ _ (es_Sc I0) (I0 14 3) (I0 14 2 * I0 14 3) (by first | omega | (simp (decide := true) only [am_u_at, am_u_j, am_u_ne]; omega)) (by first | omega | (simp (decide := true) only [am_u_at, am_u_j, am_u_ne]; omega)) (by first | omega | (simp (decide := true) only [am_u_at, am_u_j, am_u_ne]; omega)) (by first | omega | (simp (decide := true) only [am_u_at, am_u_j, am_u_ne]; omega)) (by first | omega | (simp (decide := true) only [am_u_at, am_u_j, am_u_ne]; omega)) (by first | omega | (simp (decide := true) only [am_u_at, am_u_j, am_u_ne]; omega)) (by first | omega | (simp (decide := true) only [am_u_at, am_u_j, am_u_ne]; omega)) (fun z => by omega) (by assumption)) ?_; rintro r I ⟨rfl, rfl⟩)
              | (refine am_rt rfl (by first | exact True.intro | (refine And.intro ?_ ?_ <;> decide) | exact Or.inl rfl | exact Or.inr rfl) ?_))
            rw [es_go_rf hi24 hl2.2]
            have h9 := ihj (j + 1) (l - es_rf (es_Sc I0) (I0 14 3) (I0 14 2 * I0 14 3) (23 - i) (es_rs (es_Sc I0) (I0 14 3) (I0 14 2 * I0 14 3) k i).1 (I 15 (j : Int).toNat)) g0 (by omega) (by omega) (by omega) (by omega)
            rw [show ((j + 1 : Nat) : Int) = (j : Int) + 1 by omega] at h9
            exact h9 n1 n2
      refine am_go 1 [] rfl trivial ?_
      repeat' (first
        | (refine am_gp 80 [40] rfl (by first | exact True.intro | (refine And.intro ?_ ?_ <;> decide) | exact Or.inl rfl | exact Or.inr rfl | (simp (decide := true) only [am_p, am_u_at, am_u_j, am_u_ne]; omega) | (simp (decide := true) only [am_p, and_true, true_and, true_or, or_true, am_u_at, am_u_j, am_u_ne]; omega) | (simp (decide := true) [am_p, am_u_at, am_u_j, am_u_ne]; omega)) ?_)
        | (show am_V _ _ _ _ _ _ _; simp only [Int.reduceToNat])
        | (refine am_bt rfl (by first | omega | (simp (decide := true) only [am_u_at, am_u_j, am_u_ne]; omega)) (by first | omega | (simp (decide := true) only [am_u_at, am_u_j, am_u_ne]; omega)) ?_)
        | (refine am_bf rfl (by first | omega | (simp (decide := true) only [am_u_at, am_u_j, am_u_ne]; omega)) (by first | omega | (simp (decide := true) only [am_u_at, am_u_j, am_u_ne]; omega)) ?_)
        | (refine am_br rfl (by first | omega | (simp (decide := true) only [am_u_at, am_u_j, am_u_ne]; omega)) (fun h => ?_) (fun h => ?_))
        | (refine am_rt rfl (by first | exact True.intro | (refine And.intro ?_ ?_ <;> decide) | exact Or.inl rfl | exact Or.inr rfl) ?_))
      · have exa : (es_rs (es_Sc I0) (I0 14 3) (I0 14 2 * I0 14 3) k i).1 = (I0 14 2 * I0 14 3) := by
          refine Classical.byContradiction (fun c => ?_)
          have := (hst c).1
          omega
        exact ⟨rfl, hf, i, h1, ⟨exa, hne⟩, hsz, hin⟩
      · have exa : (es_rs (es_Sc I0) (I0 14 3) (I0 14 2 * I0 14 3) k i).1 = (I0 14 2 * I0 14 3) := by omega
        exact ⟨rfl, hf, i, h1, ⟨exa, hne⟩, hsz, hin⟩
      · have hxa : (es_rs (es_Sc I0) (I0 14 3) (I0 14 2 * I0 14 3) k i).1 ≠ (I0 14 2 * I0 14 3) := by omega
        obtain ⟨t1, t2, t3, t4, t5⟩ := hst hxa
        have hsz0 : 0 < I0 14 1 := by
          obtain ⟨c1, y, c2, c3⟩ := t3.1
          omega
        have hr2 := hroom hxa
        have hl0 := hlj 0 (by omega)
        have hlb := hl0.1
        rw [show ((0 : Nat) : Int) = 0 by omega] at hl0 hlb
        have hlb2 : 1 ≤ I 15 0 ∧ I 15 0 ≤ 96 := hlb
        have hl02 : es_Sc I0 (I 15 0) := hl0.2
        have hbar : (es_rs (es_Sc I0) (I0 14 3) (I0 14 2 * I0 14 3) k i).1 % (I0 14 3) + I 15 0 ≤ (I0 14 3) → (es_rs (es_Sc I0) (I0 14 3) (I0 14 2 * I0 14 3) k i).1 + I 15 0 ≤ (I0 14 2 * I0 14 3) := es_bar ⟨a1.1, by omega⟩ (by omega)
        repeat' (first
          | (refine am_gp 80 [62] rfl (by first | exact True.intro | (refine And.intro ?_ ?_ <;> decide) | exact Or.inl rfl | exact Or.inr rfl | (simp (decide := true) only [am_p, am_u_at, am_u_j, am_u_ne]; omega) | (simp (decide := true) only [am_p, and_true, true_and, true_or, or_true, am_u_at, am_u_j, am_u_ne]; omega) | (simp (decide := true) [am_p, am_u_at, am_u_j, am_u_ne]; omega)) ?_)
          | (show am_V _ _ _ _ _ _ _; simp only [Int.reduceToNat])
          | (refine am_bt rfl (by first | omega | (simp (decide := true) only [am_u_at, am_u_j, am_u_ne]; omega)) (by first | omega | (simp (decide := true) only [am_u_at, am_u_j, am_u_ne]; omega)) ?_)
          | (refine am_bf rfl (by first | omega | (simp (decide := true) only [am_u_at, am_u_j, am_u_ne]; omega)) (by first | omega | (simp (decide := true) only [am_u_at, am_u_j, am_u_ne]; omega)) ?_)
          | (refine am_br rfl (by first | omega | (simp (decide := true) only [am_u_at, am_u_j, am_u_ne]; omega)) (fun h => ?_) (fun h => ?_))
          | (refine am_cV (y' := Y_me_onward) rfl lk_me_41 ok_me_onward rfl rfl rfl (c_me_on _ _ _ _ _ _ (es_Sc I0) (I0 14 3) (I0 14 2 * I0 14 3) (by first | omega | (simp (decide := true) only [am_u_at, am_u_j, am_u_ne]; omega)) (by first | omega | (simp (decide := true) only [am_u_at, am_u_j, am_u_ne]; omega)) (by first | omega | (simp (decide := true) only [am_u_at, am_u_j, am_u_ne]; omega)) (by first | omega | (simp (decide := true) only [am_u_at, am_u_j, am_u_ne]; omega)) (by first | omega | (simp (decide := true) only [am_u_at, am_u_j, am_u_ne]; omega)) (by first | omega | (simp (decide := true) only [am_u_at, am_u_j, am_u_ne]; omega)) (by first | omega | (simp (decide := true) only [am_u_at, am_u_j, am_u_ne]; omega)) (fun z => by omega) (by assumption)) ?_; rintro r I ⟨rfl, rfl⟩)
          | (refine am_rt rfl (by first | exact True.intro | (refine And.intro ?_ ?_ <;> decide) | exact Or.inl rfl | exact Or.inr rfl) ?_))
        rw [es_go_rf t1 hl02]
        have hz : ∀ x, 1 ≤ x → x < I 15 0 → es_rf (es_Sc I0) (I0 14 3) (I0 14 2 * I0 14 3) (23 - i) (es_rs (es_Sc I0) (I0 14 3) (I0 14 2 * I0 14 3) k i).1 x = 0 := by
          intro x x1 x2
          refine hzero x ?_
          rintro ⟨c1, y, c2, c3⟩
          rw [e15] at x2
          by_cases c : y = 0
          · rw [c] at c3; omega
          · have := s3 0 y (by omega) (by omega)
            omega
        have e1 : es_fd es_oc 0 (es_rf (es_Sc I0) (I0 14 3) (I0 14 2 * I0 14 3) (23 - i) (es_rs (es_Sc I0) (I0 14 3) (I0 14 2 * I0 14 3) k i).1) 1 96 = es_fd es_oc 0 (es_rf (es_Sc I0) (I0 14 3) (I0 14 2 * I0 14 3) (23 - i) (es_rs (es_Sc I0) (I0 14 3) (I0 14 2 * I0 14 3) k i).1) (I 15 0) (97 - I 15 0).toNat := by
          refine es_fd_ext es_mc (fun z => es_rf_D _ _ _ _ _ _) (by omega) (by omega) (fun x x1 x2 x3 => hz x x1 (by omega))
        have h8 := es_pk_skip (f := es_rf (es_Sc I0) (I0 14 3) (I0 14 2 * I0 14 3) (23 - i) (es_rs (es_Sc I0) (I0 14 3) (I0 14 2 * I0 14 3) k i).1) (I 15 0 - 1).toNat 1 (97 - I 15 0).toNat (es_rs (es_Sc I0) (I0 14 3) (I0 14 2 * I0 14 3) k i).2 a2 (fun x x1 x2 => hz x x1 (by omega))
        rw [show (I 15 0 - 1).toNat + (97 - I 15 0).toNat = 96 by omega, show 1 + ((I 15 0 - 1).toNat : Int) = I 15 0 by omega] at h8
        rw [e1] at t4
        exact loopj 8 0 (es_rs (es_Sc I0) (I0 14 3) (I0 14 2 * I0 14 3) k i).2 hxa (by omega) (by omega) a2 hx2 t4 h8.symm
  repeat' (first
    | (refine am_gp 80 [21] rfl (by first | exact True.intro | (refine And.intro ?_ ?_ <;> decide) | exact Or.inl rfl | exact Or.inr rfl | (simp (decide := true) only [am_p, am_u_at, am_u_j, am_u_ne]; omega) | (simp (decide := true) only [am_p, and_true, true_and, true_or, or_true, am_u_at, am_u_j, am_u_ne]; omega) | (simp (decide := true) [am_p, am_u_at, am_u_j, am_u_ne]; omega)) ?_)
    | (show am_V _ _ _ _ _ _ _; simp only [Int.reduceToNat])
    | (refine am_bt rfl (by first | omega | (simp (decide := true) only [am_u_at, am_u_j, am_u_ne]; omega)) (by first | omega | (simp (decide := true) only [am_u_at, am_u_j, am_u_ne]; omega)) ?_)
    | (refine am_bf rfl (by first | omega | (simp (decide := true) only [am_u_at, am_u_j, am_u_ne]; omega)) (by first | omega | (simp (decide := true) only [am_u_at, am_u_j, am_u_ne]; omega)) ?_)
    | (refine am_br rfl (by first | omega | (simp (decide := true) only [am_u_at, am_u_j, am_u_ne]; omega)) (fun h => ?_) (fun h => ?_))
    | (refine am_rt rfl (by first | exact True.intro | (refine And.intro ?_ ?_ <;> decide) | exact Or.inl rfl | exact Or.inr rfl) ?_))
  refine loopi 26 0 (I0 14 3) _ (by omega) (by omega) (am_fr.rf.u _ _ rfl) (by simp (decide := true) only [am_u_at, am_u_j, am_u_ne]) ⟨?_, hkt.1, hkt.2⟩ (fun j hj => by omega) (fun j hj => by omega) (fun _ => ?_) (by omega)
  · show (0 : Int) ≤ 0 ∧ 0 ≤ (I0 14 2 * I0 14 3)
    omega
  · show (I0 14 3) = (I0 14 3) - (0 : Int) % (I0 14 3)
    rw [Int.zero_emod]
    omega
def es_i16 (I : am_I) : Prop := (∀ j : Nat, 0 ≤ I 16 j ∧ I 16 j ≤ 1000000000000000000) ∧ (I 14 4 = 0 ∨ (I 14 4 = 1 ∧ ∀ k : Int, 0 ≤ k → k ≤ 24 → es_rw (I 16) (es_Sc I) (I 14 3) (I 14 2 * I 14 3) k))
theorem es_Sc_c {I J : am_I} (h1 : I 14 1 = J 14 1) (h : I 15 = J 15) : es_Sc I = es_Sc J := by
  funext l
  unfold es_Sc
  rw [h1, h]
theorem es_mb_c {I J : am_I} (h1 : I 14 1 = J 14 1) (h2 : I 14 2 = J 14 2) (h3 : I 14 3 = J 14 3) (h : I 15 = J 15) (hm : es_mb J) : es_mb I := by
  unfold es_mb es_srt at hm ⊢
  rw [h1, h2, h3, h]
  exact hm
theorem es_i16_mk {J I : am_I} (h1 : I 14 1 = J 14 1) (h2 : I 14 2 = J 14 2) (h3 : I 14 3 = J 14 3) (h15 : I 15 = J 15) (h4 : I 14 4 = 1) (hv : ∀ j : Nat, 0 ≤ I 16 j ∧ I 16 j ≤ 1000000000000000000) (hrows : ∀ k : Int, 0 ≤ k → k ≤ 24 → es_rw (I 16) (es_Sc J) (J 14 3) (J 14 2 * J 14 3) k) : es_i16 I := by
  refine ⟨hv, Or.inr ⟨h4, ?_⟩⟩
  rw [h2, h3, es_Sc_c h1 h15]
  exact hrows
theorem c_es_rhythms (d : Nat) (I0 : am_I) (hmb : es_mb I0) (h16 : es_i16 I0) : am_C (d + 5) Y_es_rhythms [.inr (.inr 0)] I0 (fun r I' => r = some (.inr (.inl (es_F (es_Sc I0) (I0 14 3) (I0 14 2 * I0 14 3) 24 0))) ∧ am_fr I0 I' [14, 16] ∧ I' 14 = am_up (I0 14) 4 1 ∧ es_i16 I') := by
  refine am_enter ok_es_rhythms rfl ?_
  obtain ⟨hv, hfl⟩ := h16
  obtain ⟨m1, m2, m3⟩ := id hmb
  have hall := es_all m1 m2
  repeat' (first
    | (refine am_gp 80 [] rfl (by first | exact True.intro | (refine And.intro ?_ ?_ <;> decide) | exact Or.inl rfl | exact Or.inr rfl | (simp (decide := true) only [am_p, am_u_at, am_u_j, am_u_ne]; omega) | (simp (decide := true) only [am_p, and_true, true_and, true_or, or_true, am_u_at, am_u_j, am_u_ne]; omega) | (simp (decide := true) [am_p, am_u_at, am_u_j, am_u_ne]; omega)) ?_)
    | (show am_V _ _ _ _ _ _ _; simp only [Int.reduceToNat])
    | (refine am_bt rfl (by first | omega | (simp (decide := true) only [am_u_at, am_u_j, am_u_ne]; omega)) (by first | omega | (simp (decide := true) only [am_u_at, am_u_j, am_u_ne]; omega)) ?_)
    | (refine am_bf rfl (by first | omega | (simp (decide := true) only [am_u_at, am_u_j, am_u_ne]; omega)) (by first | omega | (simp (decide := true) only [am_u_at, am_u_j, am_u_ne]; omega)) ?_)
    | (refine am_br rfl (by first | omega | (simp (decide := true) only [am_u_at, am_u_j, am_u_ne]; omega)) (fun h => ?_) (fun h => ?_))
    | (refine am_cV (y' := Y_me_fill) rfl lk_es_153 ok_me_fill rfl rfl rfl (c_me_fill _ I0 hmb hv hfl) ?_; rintro r I ⟨rfl, hfr, hf1, hvn, hrows⟩)
    | (refine am_cV (y' := Y_me_total) rfl lk_es_154 ok_me_total rfl rfl rfl (c_me_total _ _) ?_; rintro r I ⟨rfl, rfl⟩)
    | (refine am_rt rfl (by first | exact True.intro | (refine And.intro ?_ ?_ <;> decide) | exact Or.inl rfl | exact Or.inr rfl) ?_))
  have c1 : I 14 1 = I0 14 1 := by rw [hf1, am_up_ne (by decide)]
  have c2 : I 14 2 = I0 14 2 := by rw [hf1, am_up_ne (by decide)]
  have c3 : I 14 3 = I0 14 3 := by rw [hf1, am_up_ne (by decide)]
  have c4 : I 14 4 = 1 := by rw [hf1, am_up_eq]
  refine ⟨?_, hfr, hf1, hvn, Or.inr ⟨c4, ?_⟩⟩
  · have h5 := hrows 24 (by omega) (by omega) 0 (by omega) (by omega)
    rw [show (24 * 577 + 0 : Int).toNat = 13848 by omega, show (24 : Int).toNat = 24 by omega] at h5
    rw [h5]
  · rw [c2, c3, es_Sc_c c1 (hfr 15 rfl)]
    exact hrows
theorem c_es_rhythm (d : Nat) (k : Int) (I0 : am_I) (hk : -9223372036854775808 ≤ k ∧ k < 9223372036854775808) (hmb : es_mb I0) (h16 : es_i16 I0) : am_C (d + 5) Y_es_rhythm [.inr (.inr 0), .inr (.inl k)] I0 (fun r I' => (k < 0 ∧ r = some (.inl (-2)) ∧ I' = I0) ∨ ((0 ≤ k ∧ es_F (es_Sc I0) (I0 14 3) (I0 14 2 * I0 14 3) 24 0 ≤ k) ∧ r = some (.inl (-1)) ∧ am_fr I0 I' [14, 16] ∧ I' 14 = am_up (I0 14) 4 1 ∧ es_i16 I') ∨ ((0 ≤ k ∧ k < es_F (es_Sc I0) (I0 14 3) (I0 14 2 * I0 14 3) 24 0) ∧ am_fr I0 I' [1, 2, 3, 14, 16, 23] ∧ I' 14 = am_up (I0 14) 4 1 ∧ es_i16 I' ∧ I' 23 9 = 0 ∧ es_exN (fun N => N ≤ 24 ∧ es_rN (es_Sc I0) (I0 14 3) (I0 14 2 * I0 14 3) k N ∧ r = some (.inl (N : Int)) ∧ I' 1 2 = (N : Int) ∧ ∀ j : Nat, j < N → I' 2 j = 60 ∧ I' 3 j = (es_rs (es_Sc I0) (I0 14 3) (I0 14 2 * I0 14 3) k (j + 1)).1 - (es_rs (es_Sc I0) (I0 14 3) (I0 14 2 * I0 14 3) k j).1))) := by
  refine am_enter ok_es_rhythm rfl ?_
  obtain ⟨hv, hfl⟩ := h16
  obtain ⟨m1, m2, m3⟩ := id hmb
  have hall := es_all m1 m2
  have htd := es_F_D (S := (es_Sc I0)) (beat := (I0 14 3)) (all := (I0 14 2 * I0 14 3)) 24 0
  repeat' (first
    | (refine am_gp 80 [16] rfl (by first | exact True.intro | (refine And.intro ?_ ?_ <;> decide) | exact Or.inl rfl | exact Or.inr rfl | (simp (decide := true) only [am_p, am_u_at, am_u_j, am_u_ne]; omega) | (simp (decide := true) only [am_p, and_true, true_and, true_or, or_true, am_u_at, am_u_j, am_u_ne]; omega) | (simp (decide := true) [am_p, am_u_at, am_u_j, am_u_ne]; omega)) ?_)
    | (show am_V _ _ _ _ _ _ _; simp only [Int.reduceToNat])
    | (refine am_bt rfl (by first | omega | (simp (decide := true) only [am_u_at, am_u_j, am_u_ne]; omega)) (by first | omega | (simp (decide := true) only [am_u_at, am_u_j, am_u_ne]; omega)) ?_)
    | (refine am_bf rfl (by first | omega | (simp (decide := true) only [am_u_at, am_u_j, am_u_ne]; omega)) (by first | omega | (simp (decide := true) only [am_u_at, am_u_j, am_u_ne]; omega)) ?_)
    | (refine am_br rfl (by first | omega | (simp (decide := true) only [am_u_at, am_u_j, am_u_ne]; omega)) (fun h => ?_) (fun h => ?_))
    | (refine am_cV (y' := Y_me_fill) rfl lk_es_153 ok_me_fill rfl rfl rfl (c_me_fill _ I0 hmb hv hfl) ?_; rintro r I ⟨rfl, hfr, hf1, hvn, hrows⟩)
    | (refine am_rt rfl (by first | exact True.intro | (refine And.intro ?_ ?_ <;> decide) | exact Or.inl rfl | exact Or.inr rfl) ?_))
  · have c1 : I 14 1 = I0 14 1 := by rw [hf1, am_up_ne (by decide)]
    have c2 : I 14 2 = I0 14 2 := by rw [hf1, am_up_ne (by decide)]
    have c3 : I 14 3 = I0 14 3 := by rw [hf1, am_up_ne (by decide)]
    have c4 : I 14 4 = 1 := by rw [hf1, am_up_eq]
    have c15 : I 15 = I0 15 := hfr 15 rfl
    have hmb2 : es_mb I := es_mb_c c1 c2 c3 c15 hmb
    have eS := es_Sc_c c1 c15
    have hrows2 : ∀ k : Int, 0 ≤ k → k ≤ 24 → es_rw (I 16) (es_Sc I) (I 14 3) (I 14 2 * I 14 3) k := by
      rw [c2, c3, eS]
      exact hrows
    have htot : I 16 13848 = es_F (es_Sc I0) (I0 14 3) (I0 14 2 * I0 14 3) 24 0 := by
      have h5 := hrows 24 (by omega) (by omega) 0 (by omega) (by omega)
      rw [show (24 * 577 + 0 : Int).toNat = 13848 by omega, show (24 : Int).toNat = 24 by omega] at h5
      exact h5
    have hFI : es_F (es_Sc I) (I 14 3) (I 14 2 * I 14 3) 24 0 = es_F (es_Sc I0) (I0 14 3) (I0 14 2 * I0 14 3) 24 0 := by rw [c2, c3, eS]
    have keep : ∀ K : am_I, K 14 = I 14 → K 15 = I 15 → K 16 = I 16 → es_i16 K := by
      intro K k14 k15 k16
      refine es_i16_mk (J := I0) (by rw [k14]; exact c1) (by rw [k14]; exact c2) (by rw [k14]; exact c3) (k15.trans c15) (by rw [k14]; exact c4) (by rw [k16]; exact hvn) (by rw [k16]; exact hrows)
    repeat' (first
      | (refine am_gp 80 [] rfl (by first | exact True.intro | (refine And.intro ?_ ?_ <;> decide) | exact Or.inl rfl | exact Or.inr rfl | (simp (decide := true) only [am_p, am_u_at, am_u_j, am_u_ne]; omega) | (simp (decide := true) only [am_p, and_true, true_and, true_or, or_true, am_u_at, am_u_j, am_u_ne]; omega) | (simp (decide := true) [am_p, am_u_at, am_u_j, am_u_ne]; omega)) ?_)
      | (show am_V _ _ _ _ _ _ _; simp only [Int.reduceToNat])
      | (refine am_bt rfl (by first | omega | (simp (decide := true) only [am_u_at, am_u_j, am_u_ne]; omega)) (by first | omega | (simp (decide := true) only [am_u_at, am_u_j, am_u_ne]; omega)) ?_)
      | (refine am_bf rfl (by first | omega | (simp (decide := true) only [am_u_at, am_u_j, am_u_ne]; omega)) (by first | omega | (simp (decide := true) only [am_u_at, am_u_j, am_u_ne]; omega)) ?_)
      | (refine am_br rfl (by first | omega | (simp (decide := true) only [am_u_at, am_u_j, am_u_ne]; omega)) (fun h => ?_) (fun h => ?_))
      | (refine am_cV (y' := Y_me_total) rfl lk_es_154 ok_me_total rfl rfl rfl (c_me_total _ _) ?_; rintro r I ⟨rfl, rfl⟩)
      | (refine am_cV (y' := Y_me_spell) rfl lk_es_155 ok_me_spell rfl rfl rfl (c_me_spell _ _ _ hmb2 hrows2 (by first | omega | (simp (decide := true) only [am_u_at, am_u_j, am_u_ne]; omega))) ?_; rintro r I ⟨rfl, hfs, hsN⟩)
      | (refine am_cV (y' := Y_ju_forget) rfl lk_es_84 ok_ju_forget rfl rfl rfl (c_ju_forget _ _) ?_; rintro r I ⟨rfl, rfl⟩)
      | (refine am_rt rfl (by first | exact True.intro | (refine And.intro ?_ ?_ <;> decide) | exact Or.inl rfl | exact Or.inr rfl) ?_))
    · rw [c2, c3, eS] at hsN
      obtain ⟨N, n1, n2, n3, n4⟩ := hsN
      refine Or.inr (Or.inr ⟨⟨by omega, by omega⟩, ?_, ?_, ?_, ?_, N, n1, n2, ?_, ?_, ?_⟩)
      · exact ((hfr.wd rfl).tr (hfs.wd rfl)).u _ _ rfl
      · rw [am_u_ne (by decide), hfs 14 rfl]
        exact hf1
      · exact keep _ (by rw [am_u_ne (by decide), hfs 14 rfl]) (by rw [am_u_ne (by decide), hfs 15 rfl]) (by rw [am_u_ne (by decide), hfs 16 rfl])
      · simp (decide := true) only [am_u_at, am_u_j, am_u_ne]
      · rw [am_u_ne (by decide), n3]
      · rw [am_u_ne (by decide)]
        exact n3
      · intro j hj
        rw [am_u_ne (by decide), am_u_ne (by decide)]
        exact n4 j hj
    · exact Or.inr (Or.inl ⟨⟨by omega, by omega⟩, rfl, hfr, hf1, keep _ rfl rfl rfl⟩)
  · exact Or.inl ⟨by omega, rfl, rfl⟩
