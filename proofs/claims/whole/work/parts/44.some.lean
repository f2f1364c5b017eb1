def es_hs (I : am_I) (l : Int) : Prop := ∃ i : Nat, (i : Int) < I 14 1 ∧ I 15 i = l
theorem c_me_has (d : Nat) (l : Int) (I : am_I) (hl : 1 ≤ l ∧ l ≤ 96) (hn : 0 ≤ I 14 1 ∧ I 14 1 ≤ 6) (hr : ∀ i : Nat, (i : Int) < I 14 1 → 1 ≤ I 15 i ∧ I 15 i ≤ 96) : am_C d Y_me_has [.inr (.inr 14), .inl l] I (fun r I' => I' = I ∧ ((r = some (.inl 1) ∧ es_hs I l) ∨ (r = some (.inl 0) ∧ ¬ es_hs I l))) := by
  refine am_enter ok_me_has rfl ?_
  have loop : ∀ (m : Nat) (i : Int), 0 ≤ i → i ≤ I 14 1 → I 14 1 - i < m → (∀ j : Nat, (j : Int) < i → I 15 j ≠ l) → am_V d Y_me_has (fun r I' => I' = I ∧ ((r = some (.inl 1) ∧ es_hs I l) ∨ (r = some (.inl 0) ∧ ¬ es_hs I l))) 2 [(0, .inr (.inr 14)), (1, .inl l), (2, .inl i)] [] I := by
    intro m
    induction m with
    | zero => intro i h1 h2 h3; omega
    | succ m ih =>
      intro i h1 h2 h3 h4
      have hri : i < I 14 1 → 1 ≤ I 15 i.toNat ∧ I 15 i.toNat ≤ 96 := fun h => hr i.toNat (by omega)
      refine am_go 1 [] rfl trivial ?_
      repeat' (first
        | (refine am_gp 80 [2] rfl (by first | exact True.intro | (refine And.intro ?_ ?_ <;> decide) | exact Or.inl rfl | exact Or.inr rfl | (simp (decide := true) only [am_p, am_u_at, am_u_j, am_u_ne]; omega) | (simp (decide := true) only [am_p, and_true, true_and, true_or, or_true, am_u_at, am_u_j, am_u_ne]; omega) | (simp (decide := true) [am_p, am_u_at, am_u_j, am_u_ne]; omega)) ?_)
        | (show am_V _ _ _ _ _ _ _; simp only [Int.reduceToNat])
        | (refine am_bt rfl (by first | omega | (simp (decide := true) only [am_u_at, am_u_j, am_u_ne]; omega)) (by first | omega | (simp (decide := true) only [am_u_at, am_u_j, am_u_ne]; omega)) ?_)
        | (refine am_bf rfl (by first | omega | (simp (decide := true) only [am_u_at, am_u_j, am_u_ne]; omega)) (by first | omega | (simp (decide := true) only [am_u_at, am_u_j, am_u_ne]; omega)) ?_)
        | (refine am_br rfl (by first | omega | (simp (decide := true) only [am_u_at, am_u_j, am_u_ne]; omega)) (fun h => ?_) (fun h => ?_))
        | (refine am_rt rfl (by first | exact True.intro | (refine And.intro ?_ ?_ <;> decide) | exact Or.inl rfl | exact Or.inr rfl) ?_))
      · refine ⟨rfl, Or.inr ⟨rfl, ?_⟩⟩
        rintro ⟨j, j1, j2⟩
        exact h4 j (by omega) j2
      · refine ih (i + 1) (by omega) (by omega) (by omega) (fun j hj => ?_)
        by_cases c : j = i.toNat
        · rw [c]; omega
        · exact h4 j (by omega)
      · exact ⟨rfl, Or.inl ⟨rfl, i.toNat, by omega, by omega⟩⟩
  repeat' (first
    | (refine am_gp 80 [2] rfl (by first | exact True.intro | (refine And.intro ?_ ?_ <;> decide) | exact Or.inl rfl | exact Or.inr rfl | (simp (decide := true) only [am_p, am_u_at, am_u_j, am_u_ne]; omega) | (simp (decide := true) only [am_p, and_true, true_and, true_or, or_true, am_u_at, am_u_j, am_u_ne]; omega) | (simp (decide := true) [am_p, am_u_at, am_u_j, am_u_ne]; omega)) ?_)
    | (show am_V _ _ _ _ _ _ _; simp only [Int.reduceToNat])
    | (refine am_bt rfl (by first | omega | (simp (decide := true) only [am_u_at, am_u_j, am_u_ne]; omega)) (by first | omega | (simp (decide := true) only [am_u_at, am_u_j, am_u_ne]; omega)) ?_)
    | (refine am_bf rfl (by first | omega | (simp (decide := true) only [am_u_at, am_u_j, am_u_ne]; omega)) (by first | omega | (simp (decide := true) only [am_u_at, am_u_j, am_u_ne]; omega)) ?_)
    | (refine am_br rfl (by first | omega | (simp (decide := true) only [am_u_at, am_u_j, am_u_ne]; omega)) (fun h => ?_) (fun h => ?_))
    | (refine am_rt rfl (by first | exact True.intro | (refine And.intro ?_ ?_ <;> decide) | exact Or.inl rfl | exact Or.inr rfl) ?_))
  exact loop 8 0 (by omega) (by omega) (by omega) (fun j hj => by omega)
theorem c_me_add (d : Nat) (l : Int) (I0 : am_I) (hl : 1 ≤ l ∧ l ≤ 96) (hs : es_srt I0) (hn : I0 14 1 < 6) (hno : ¬ es_hs I0 l) : am_C d Y_me_add [.inr (.inr 14), .inl l] I0 (fun r I' => r = none ∧ am_fr I0 I' [14, 15] ∧ I' 14 = am_up (am_up (I0 14) 1 (I0 14 1 + 1)) 4 0 ∧ es_srt I' ∧ ∀ x : Int, es_hs I' x ↔ (es_hs I0 x ∨ x = l)) := by
  refine am_enter ok_me_add rfl ?_
  obtain ⟨s1, s2, s3⟩ := id hs
  have loop : ∀ (m : Nat) (i : Int) (I : am_I), 0 ≤ i → i ≤ I0 14 1 → i < m → am_fr I0 I [15] → (∀ j : Nat, (j : Int) < i → I 15 j = I0 15 j) → (∀ j : Nat, i < (j : Int) → (j : Int) ≤ I0 14 1 → I 15 j = I0 15 (j - 1)) → (∀ j : Nat, i ≤ (j : Int) → (j : Int) < I0 14 1 → l < I0 15 j) → am_V d Y_me_add (fun r I' => r = none ∧ am_fr I0 I' [14, 15] ∧ I' 14 = am_up (am_up (I0 14) 1 (I0 14 1 + 1)) 4 0 ∧ es_srt I' ∧ ∀ x : Int, es_hs I' x ↔ (es_hs I0 x ∨ x = l)) 15 [(0, .inr (.inr 14)), (1, .inl l), (2, .inl i)] [] I := by
    intro m
    induction m with
    | zero => intro i I h1 h2 h3; omega
    | succ m ih =>
      intro i I h1 h2 h3 hf hlo hhi hgt
      have e14 : I 14 = I0 14 := hf 14 rfl
      have b1 : I 14 1 = I0 14 1 := congrFun e14 1
      have hp : 0 < i → I 15 (i - 1).toNat = I0 15 (i - 1).toNat ∧ (1 ≤ I0 15 (i - 1).toNat ∧ I0 15 (i - 1).toNat ≤ 96) := by
        intro h
        exact ⟨hlo _ (by omega), s2 _ (by omega)⟩
      have fin : (i = 0 ∨ I 15 (i - 1).toNat ≤ l) → ((none : Option am_v) = none ∧ am_fr I0 (am_u (am_u (am_u I 15 i.toNat l) 14 1 (I 14 1 + 1)) 14 4 0) [14, 15] ∧ (am_u (am_u (am_u I 15 i.toNat l) 14 1 (I 14 1 + 1)) 14 4 0) 14 = am_up (am_up (I0 14) 1 (I0 14 1 + 1)) 4 0 ∧ es_srt (am_u (am_u (am_u I 15 i.toNat l) 14 1 (I 14 1 + 1)) 14 4 0) ∧ ∀ x : Int, es_hs (am_u (am_u (am_u I 15 i.toNat l) 14 1 (I 14 1 + 1)) 14 4 0) x ↔ (es_hs I0 x ∨ x = l)) := by
        intro hi
        have hlt : ∀ j : Nat, (j : Int) < i → I0 15 j < l := by
          intro j hj
          have h5 := hp (by omega)
          have h6 : I0 15 (i - 1).toNat ≠ l := fun e => hno ⟨(i - 1).toNat, by omega, e⟩
          by_cases c : j = (i - 1).toNat
          · rw [c]; omega
          · have := s3 j (i - 1).toNat (by omega) (by omega)
            omega
        have afr : am_fr I0 (am_u (am_u (am_u I 15 i.toNat l) 14 1 (I 14 1 + 1)) 14 4 0) [14, 15] := (((hf.wd rfl).u _ _ rfl).u _ _ rfl).u _ _ rfl
        have a14 : (am_u (am_u (am_u I 15 i.toNat l) 14 1 (I 14 1 + 1)) 14 4 0) 14 = am_up (am_up (I0 14) 1 (I0 14 1 + 1)) 4 0 := by
          rw [am_u_eq, am_u_eq, am_u_ne (by decide), e14]
        have a141 : (am_u (am_u (am_u I 15 i.toNat l) 14 1 (I 14 1 + 1)) 14 4 0) 14 1 = I0 14 1 + 1 := by
          rw [a14, am_up_ne (by decide), am_up_eq]
        have a15 : ∀ j : Nat, (am_u (am_u (am_u I 15 i.toNat l) 14 1 (I 14 1 + 1)) 14 4 0) 15 j = if j = i.toNat then l else I 15 j := by
          intro j
          rw [am_u_ne (by decide), am_u_ne (by decide), am_u_eq]
          by_cases c : j = i.toNat
          · rw [c, am_up_eq, if_pos rfl]
          · rw [am_up_ne c, if_neg c]
        generalize (am_u (am_u (am_u I 15 i.toNat l) 14 1 (I 14 1 + 1)) 14 4 0) = K at *
        have hK : ∀ j : Nat, ((j : Int) < i ∧ K 15 j = I0 15 j) ∨ ((j : Int) = i ∧ K 15 j = l) ∨ (i < (j : Int) ∧ ((j : Int) ≤ I0 14 1 → K 15 j = I0 15 (j - 1))) := by
          intro j
          rw [a15 j]
          by_cases c : (j : Int) < i
          · refine Or.inl ⟨c, ?_⟩
            rw [if_neg (by omega)]
            exact hlo j c
          · by_cases c2 : (j : Int) = i
            · refine Or.inr (Or.inl ⟨c2, ?_⟩)
              rw [if_pos (by omega)]
            · refine Or.inr (Or.inr ⟨by omega, fun h => ?_⟩)
              rw [if_neg (by omega)]
              exact hhi j (by omega) h
        refine ⟨rfl, afr, a14, ⟨by omega, ?_, ?_⟩, ?_⟩
        · intro j hj
          rw [a141] at hj
          rcases hK j with c | c | c
          · rw [c.2]; exact s2 j (by omega)
          · rw [c.2]; exact hl
          · rw [c.2 (by omega)]; exact s2 (j - 1) (by omega)
        · intro x y hxy hy
          rw [a141] at hy
          rcases hK x with c | c | c
          · rcases hK y with e | e | e
            · rw [c.2, e.2]; exact s3 x y hxy (by omega)
            · rw [c.2, e.2]; exact hlt x c.1
            · rw [c.2, e.2 (by omega)]; exact s3 x (y - 1) (by omega) (by omega)
          · rcases hK y with e | e | e
            · omega
            · omega
            · rw [c.2, e.2 (by omega)]; exact hgt (y - 1) (by omega) (by omega)
          · rcases hK y with e | e | e
            · omega
            · omega
            · rw [c.2 (by omega), e.2 (by omega)]; exact s3 (x - 1) (y - 1) (by omega) (by omega)
        · intro x
          constructor
          · rintro ⟨j, j1, j2⟩
            rw [a141] at j1
            rcases hK j with c | c | c
            · exact Or.inl ⟨j, by omega, by rw [← c.2]; exact j2⟩
            · exact Or.inr (by rw [← j2]; exact c.2)
            · exact Or.inl ⟨j - 1, by omega, by rw [← c.2 (by omega)]; exact j2⟩
          · rintro (⟨j, j1, j2⟩ | hx)
            · by_cases c : (j : Int) < i
              · refine ⟨j, by omega, ?_⟩
                rcases hK j with e | e | e
                · rw [e.2]; exact j2
                · omega
                · omega
              · refine ⟨j + 1, by omega, ?_⟩
                rcases hK (j + 1) with e | e | e
                · omega
                · omega
                · rw [e.2 (by omega)]; exact j2
            · refine ⟨i.toNat, by omega, ?_⟩
              rcases hK i.toNat with e | e | e
              · omega
              · rw [e.2, hx]
              · omega
      refine am_go 1 [] rfl trivial ?_
      repeat' (first
        | (refine am_gp 80 [15] rfl (by first | exact True.intro | (refine And.intro ?_ ?_ <;> decide) | exact Or.inl rfl | exact Or.inr rfl | (simp (decide := true) only [am_p, am_u_at, am_u_j, am_u_ne]; omega) | (simp (decide := true) only [am_p, and_true, true_and, true_or, or_true, am_u_at, am_u_j, am_u_ne]; omega) | (simp (decide := true) [am_p, am_u_at, am_u_j, am_u_ne]; omega)) ?_)
        | (show am_V _ _ _ _ _ _ _; simp only [Int.reduceToNat])
        | (refine am_bt rfl (by first | omega | (simp (decide := true) only [am_u_at, am_u_j, am_u_ne]; omega)) (by first | omega | (simp (decide := true) only [am_u_at, am_u_j, am_u_ne]; omega)) ?_)
        | (refine am_bf rfl (by first | omega | (simp (decide := true) only [am_u_at, am_u_j, am_u_ne]; omega)) (by first | omega | (simp (decide := true) only [am_u_at, am_u_j, am_u_ne]; omega)) ?_)
        | (refine am_br rfl (by first | omega | (simp (decide := true) only [am_u_at, am_u_j, am_u_ne]; omega)) (fun h => ?_) (fun h => ?_))
        | (refine am_rt rfl (by first | exact True.intro | (refine And.intro ?_ ?_ <;> decide) | exact Or.inl rfl | exact Or.inr rfl) ?_))
      · have h9 := fin (Or.inl (by omega))
        rw [am_u_ne (show (14 : Nat) ≠ 15 by decide)]
        exact h9
      · have h9 := fin (Or.inr (by omega))
        rw [am_u_ne (show (14 : Nat) ≠ 15 by decide)]
        exact h9
      · have h5 := hp (by omega)
        refine ih (i - 1) _ (by omega) (by omega) (by omega) (hf.u _ _ rfl) ?_ ?_ ?_
        · intro j hj
          rw [am_u_eq, am_up_ne (by omega)]
          exact hlo j (by omega)
        · intro j j1 j2
          rw [am_u_eq]
          by_cases c : j = i.toNat
          · rw [c, am_up_eq, h5.1, show i.toNat - 1 = (i - 1).toNat by omega]
          · rw [am_up_ne c]
            exact hhi j (by omega) j2
        · intro j j1 j2
          by_cases c : j = (i - 1).toNat
          · rw [c]; omega
          · exact hgt j (by omega) j2
  repeat' (first
    | (refine am_gp 80 [15] rfl (by first | exact True.intro | (refine And.intro ?_ ?_ <;> decide) | exact Or.inl rfl | exact Or.inr rfl | (simp (decide := true) only [am_p, am_u_at, am_u_j, am_u_ne]; omega) | (simp (decide := true) only [am_p, and_true, true_and, true_or, or_true, am_u_at, am_u_j, am_u_ne]; omega) | (simp (decide := true) [am_p, am_u_at, am_u_j, am_u_ne]; omega)) ?_)
    | (show am_V _ _ _ _ _ _ _; simp only [Int.reduceToNat])
    | (refine am_bt rfl (by first | omega | (simp (decide := true) only [am_u_at, am_u_j, am_u_ne]; omega)) (by first | omega | (simp (decide := true) only [am_u_at, am_u_j, am_u_ne]; omega)) ?_)
    | (refine am_bf rfl (by first | omega | (simp (decide := true) only [am_u_at, am_u_j, am_u_ne]; omega)) (by first | omega | (simp (decide := true) only [am_u_at, am_u_j, am_u_ne]; omega)) ?_)
    | (refine am_br rfl (by first | omega | (simp (decide := true) only [am_u_at, am_u_j, am_u_ne]; omega)) (fun h => ?_) (fun h => ?_))
    | (refine am_rt rfl (by first | exact True.intro | (refine And.intro ?_ ?_ <;> decide) | exact Or.inl rfl | exact Or.inr rfl) ?_))
  exact loop 8 (I0 14 1) I0 (by omega) (by omega) (by omega) am_fr.rf (fun j _ => rfl) (fun j j1 j2 => by omega) (fun j j1 j2 => by omega)
theorem c_me_remove (d : Nat) (l : Int) (I0 : am_I) (hl : 1 ≤ l ∧ l ≤ 96) (hs : es_srt I0) (hyes : es_hs I0 l) : am_C d Y_me_remove [.inr (.inr 14), .inl l] I0 (fun r I' => r = none ∧ am_fr I0 I' [14, 15] ∧ I' 14 = am_up (am_up (I0 14) 1 (I0 14 1 - 1)) 4 0 ∧ es_srt I' ∧ ∀ x : Int, es_hs I' x ↔ (es_hs I0 x ∧ x ≠ l)) := by
  refine am_enter ok_me_remove rfl ?_
  obtain ⟨s1, s2, s3⟩ := id hs
  obtain ⟨p, p1, p2⟩ := hyes
  have huq : ∀ j : Nat, (j : Int) < I0 14 1 → I0 15 j = l → j = p := by
    intro j j1 j2
    rcases Nat.lt_trichotomy j p with h | h | h
    · have := s3 j p h p1
      omega
    · exact h
    · have := s3 p j h j1
      omega
  have loop : ∀ (m : Nat) (k i : Int) (I : am_I), 0 ≤ i → i ≤ I0 14 1 → I0 14 1 - i < m → am_fr I0 I [15] → ((i ≤ p ∧ k = i) ∨ ((p : Int) < i ∧ k = i - 1)) → (∀ j : Nat, (j : Int) < p → I 15 j = I0 15 j) → (∀ j : Nat, (p : Int) ≤ j → (j : Int) < k → I 15 j = I0 15 (j + 1)) → (∀ j : Nat, i ≤ (j : Int) → I 15 j = I0 15 j) → am_V d Y_me_remove (fun r I' => r = none ∧ am_fr I0 I' [14, 15] ∧ I' 14 = am_up (am_up (I0 14) 1 (I0 14 1 - 1)) 4 0 ∧ es_srt I' ∧ ∀ x : Int, es_hs I' x ↔ (es_hs I0 x ∧ x ≠ l)) 4 [(0, .inr (.inr 14)), (1, .inl l), (2, .inl k), (3, .inl i)] [] I := by
    intro m
    induction m with
    | zero => intro k i I h1 h2 h3; omega
    | succ m ih =>
      intro k i I h1 h2 h3 hf hk hlo hmi hhi
      have e14 : I 14 = I0 14 := hf 14 rfl
      have b1 : I 14 1 = I0 14 1 := congrFun e14 1
      have hii : I 15 i.toNat = I0 15 i.toNat := hhi i.toNat (by omega)
      have hir : i < I0 14 1 → 1 ≤ I 15 i.toNat ∧ I 15 i.toNat ≤ 96 := by
        intro h
        rw [hii]
        exact s2 _ (by omega)
      have hil : i < I0 14 1 → I 15 i.toNat = l → i = p := by
        intro h h5
        have := huq i.toNat (by omega) (by omega)
        omega
      have hip : i = p → I 15 i.toNat = l := by
        intro h
        rw [hii, h, show (p : Int).toNat = p by omega]
        exact p2
      refine am_go 1 [] rfl trivial ?_
      repeat' (first
        | (refine am_gp 80 [4] rfl (by first | exact True.intro | (refine And.intro ?_ ?_ <;> decide) | exact Or.inl rfl | exact Or.inr rfl | (simp (decide := true) only [am_p, am_u_at, am_u_j, am_u_ne]; omega) | (simp (decide := true) only [am_p, and_true, true_and, true_or, or_true, am_u_at, am_u_j, am_u_ne]; omega) | (simp (decide := true) [am_p, am_u_at, am_u_j, am_u_ne]; omega)) ?_)
        | (show am_V _ _ _ _ _ _ _; simp only [Int.reduceToNat])
        | (refine am_bt rfl (by first | omega | (simp (decide := true) only [am_u_at, am_u_j, am_u_ne]; omega)) (by first | omega | (simp (decide := true) only [am_u_at, am_u_j, am_u_ne]; omega)) ?_)
        | (refine am_bf rfl (by first | omega | (simp (decide := true) only [am_u_at, am_u_j, am_u_ne]; omega)) (by first | omega | (simp (decide := true) only [am_u_at, am_u_j, am_u_ne]; omega)) ?_)
        | (refine am_br rfl (by first | omega | (simp (decide := true) only [am_u_at, am_u_j, am_u_ne]; omega)) (fun h => ?_) (fun h => ?_))
        | (refine am_rt rfl (by first | exact True.intro | (refine And.intro ?_ ?_ <;> decide) | exact Or.inl rfl | exact Or.inr rfl) ?_))
      · have ei : i = I0 14 1 := by omega
        have ek : k = I0 14 1 - 1 := by omega
        have afr : am_fr I0 (am_u (am_u I 14 1 k) 14 4 0) [14, 15] := ((hf.wd rfl).u _ _ rfl).u _ _ rfl
        have a14 : (am_u (am_u I 14 1 k) 14 4 0) 14 = am_up (am_up (I0 14) 1 (I0 14 1 - 1)) 4 0 := by
          rw [am_u_eq, am_u_eq, e14, ek]
        have a141 : (am_u (am_u I 14 1 k) 14 4 0) 14 1 = I0 14 1 - 1 := by
          rw [a14, am_up_ne (by decide), am_up_eq]
        have a15 : (am_u (am_u I 14 1 k) 14 4 0) 15 = I 15 := by
          rw [am_u_ne (by decide), am_u_ne (by decide)]
        generalize (am_u (am_u I 14 1 k) 14 4 0) = K at *
        have hK : ∀ j : Nat, (j : Int) < I0 14 1 - 1 → ((j : Int) < p ∧ K 15 j = I0 15 j) ∨ ((p : Int) ≤ j ∧ K 15 j = I0 15 (j + 1)) := by
          intro j hj
          rw [a15]
          by_cases c : (j : Int) < p
          · exact Or.inl ⟨c, hlo j c⟩
          · exact Or.inr ⟨by omega, hmi j (by omega) (by omega)⟩
        refine ⟨rfl, afr, a14, ⟨by omega, ?_, ?_⟩, ?_⟩
        · intro j hj
          rw [a141] at hj
          rcases hK j hj with c | c
          · rw [c.2]; exact s2 j (by omega)
          · rw [c.2]; exact s2 (j + 1) (by omega)
        · intro x y hxy hy
          rw [a141] at hy
          rcases hK x (by omega) with c | c
          · rcases hK y hy with e | e
            · rw [c.2, e.2]; exact s3 x y hxy (by omega)
            · rw [c.2, e.2]; exact s3 x (y + 1) (by omega) (by omega)
          · rcases hK y hy with e | e
            · omega
            · rw [c.2, e.2]; exact s3 (x + 1) (y + 1) (by omega) (by omega)
        · intro x
          constructor
          · rintro ⟨j, j1, j2⟩
            rw [a141] at j1
            rcases hK j j1 with c | c
            · refine ⟨⟨j, by omega, by rw [← c.2]; exact j2⟩, fun e => ?_⟩
              have := huq j (by omega) (by rw [← c.2, j2, e])
              omega
            · refine ⟨⟨j + 1, by omega, by rw [← c.2]; exact j2⟩, fun e => ?_⟩
              have := huq (j + 1) (by omega) (by rw [← c.2, j2, e])
              omega
          · rintro ⟨⟨j, j1, j2⟩, hx⟩
            have hjp : j ≠ p := fun e => hx (by rw [← j2, e, p2])
            by_cases c : j < p
            · refine ⟨j, by omega, ?_⟩
              rcases hK j (by omega) with e | e
              · rw [e.2]; exact j2
              · omega
            · refine ⟨j - 1, by omega, ?_⟩
              rcases hK (j - 1) (by omega) with e | e
              · omega
              · rw [e.2, show j - 1 + 1 = j by omega]; exact j2
      · have hp := hil (by omega) (by omega)
        refine ih k (i + 1) _ (by omega) (by omega) (by omega) hf (by omega) hlo ?_ ?_
        · intro j j1 j2
          omega
        · intro j j1
          exact hhi j (by omega)
      · have hp : i ≠ p := fun e => absurd (hip e) (by omega)
        refine ih (k + 1) (i + 1) _ (by omega) (by omega) (by omega) (hf.u _ _ rfl) (by omega) ?_ ?_ ?_
        · intro j j1
          rw [am_u_eq]
          by_cases c : j = k.toNat
          · rw [c, am_up_eq, hii, show i.toNat = k.toNat by omega]
          · rw [am_up_ne c]
            exact hlo j j1
        · intro j j1 j2
          rw [am_u_eq]
          by_cases c : j = k.toNat
          · rw [c, am_up_eq, hii, show i.toNat = k.toNat + 1 by omega]
          · rw [am_up_ne c]
            exact hmi j j1 (by omega)
        · intro j j1
          rw [am_u_eq, am_up_ne (by omega)]
          exact hhi j (by omega)
  repeat' (first
    | (refine am_gp 80 [4] rfl (by first | exact True.intro | (refine And.intro ?_ ?_ <;> decide) | exact Or.inl rfl | exact Or.inr rfl | (simp (decide := true) only [am_p, am_u_at, am_u_j, am_u_ne]; omega) | (simp (decide := true) only [am_p, and_true, true_and, true_or, or_true, am_u_at, am_u_j, am_u_ne]; omega) | (simp (decide := true) [am_p, am_u_at, am_u_j, am_u_ne]; omega)) ?_)
    | (show am_V _ _ _ _ _ _ _; simp only [Int.reduceToNat])
    | (refine am_bt rfl (by first | omega | (simp (decide := true) only [am_u_at, am_u_j, am_u_ne]; omega)) (by first | omega | (simp (decide := true) only [am_u_at, am_u_j, am_u_ne]; omega)) ?_)
    | (refine am_bf rfl (by first | omega | (simp (decide := true) only [am_u_at, am_u_j, am_u_ne]; omega)) (by first | omega | (simp (decide := true) only [am_u_at, am_u_j, am_u_ne]; omega)) ?_)
    | (refine am_br rfl (by first | omega | (simp (decide := true) only [am_u_at, am_u_j, am_u_ne]; omega)) (fun h => ?_) (fun h => ?_))
    | (refine am_rt rfl (by first | exact True.intro | (refine And.intro ?_ ?_ <;> decide) | exact Or.inl rfl | exact Or.inr rfl) ?_))
  exact loop 8 0 0 I0 (by omega) (by omega) (by omega) am_fr.rf (by omega) (fun j _ => rfl) (fun j j1 j2 => by omega) (fun j _ => rfl)
theorem c_es_some (d : Nat) (l on : Int) (I0 : am_I) (hl : (-2147483648 ≤ l ∧ l < 2147483648)) (hon : on = 0 ∨ on = 1) (hsr : es_srt I0) : am_C (d + 1) Y_es_some [.inr (.inr 0), .inl l, .inl on] I0 (fun r I' => (¬ (1 ≤ l ∧ l ≤ 96) ∧ r = some (.inl (-2)) ∧ I' = I0) ∨ ((1 ≤ l ∧ l ≤ 96) ∧ on = 1 ∧ es_hs I0 l ∧ r = some (.inl 1) ∧ I' = I0) ∨ ((1 ≤ l ∧ l ≤ 96) ∧ on = 1 ∧ ¬ es_hs I0 l ∧ I0 14 1 = 6 ∧ r = some (.inl (-4)) ∧ I' = I0) ∨ ((1 ≤ l ∧ l ≤ 96) ∧ on = 1 ∧ ¬ es_hs I0 l ∧ I0 14 1 < 6 ∧ r = some (.inl 0) ∧ am_fr I0 I' [14, 15] ∧ I' 14 = am_up (am_up (I0 14) 1 (I0 14 1 + 1)) 4 0 ∧ es_srt I' ∧ ∀ x : Int, es_hs I' x ↔ (es_hs I0 x ∨ x = l)) ∨ ((1 ≤ l ∧ l ≤ 96) ∧ on = 0 ∧ es_hs I0 l ∧ r = some (.inl 1) ∧ am_fr I0 I' [14, 15] ∧ I' 14 = am_up (am_up (I0 14) 1 (I0 14 1 - 1)) 4 0 ∧ es_srt I' ∧ ∀ x : Int, es_hs I' x ↔ (es_hs I0 x ∧ x ≠ l)) ∨ ((1 ≤ l ∧ l ≤ 96) ∧ on = 0 ∧ ¬ es_hs I0 l ∧ r = some (.inl 0) ∧ I' = I0)) := by
  refine am_enter ok_es_some rfl ?_
  obtain ⟨s1, s2, s3⟩ := id hsr
  repeat' (first
    | (refine am_gp 80 [] rfl (by first | exact True.intro | (refine And.intro ?_ ?_ <;> decide) | exact Or.inl rfl | exact Or.inr rfl | (simp (decide := true) only [am_p, am_u_at, am_u_j, am_u_ne]; omega) | (simp (decide := true) only [am_p, and_true, true_and, true_or, or_true, am_u_at, am_u_j, am_u_ne]; omega) | (simp (decide := true) [am_p, am_u_at, am_u_j, am_u_ne]; omega)) ?_)
    | (show am_V _ _ _ _ _ _ _; simp only [Int.reduceToNat])
    | (refine am_bt rfl (by first | omega | (simp (decide := true) only [am_u_at, am_u_j, am_u_ne]; omega)) (by first | omega | (simp (decide := true) only [am_u_at, am_u_j, am_u_ne]; omega)) ?_)
    | (refine am_bf rfl (by first | omega | (simp (decide := true) only [am_u_at, am_u_j, am_u_ne]; omega)) (by first | omega | (simp (decide := true) only [am_u_at, am_u_j, am_u_ne]; omega)) ?_)
    | (refine am_br rfl (by first | omega | (simp (decide := true) only [am_u_at, am_u_j, am_u_ne]; omega)) (fun h => ?_) (fun h => ?_))
    | (refine am_cS (y' := Y_es_outside) rfl lk_es_72 ok_es_outside rfl rfl (c_outside _ _ _ _ _ (by first | omega | (simp (decide := true) only [am_u_at, am_u_j, am_u_ne]; omega)) (by first | omega | (simp (decide := true) only [am_u_at, am_u_j, am_u_ne]; omega)) (by first | omega | (simp (decide := true) only [am_u_at, am_u_j, am_u_ne]; omega))) ?_; rintro r I ⟨rfl, (⟨rfl, h⟩ | ⟨rfl, h⟩)⟩ <;> (try (exfalso; omega)))
    | (refine am_cV (y' := Y_me_has) rfl lk_es_141 ok_me_has rfl rfl rfl (c_me_has _ _ _ (by first | omega | (simp (decide := true) only [am_u_at, am_u_j, am_u_ne]; omega)) (by first | omega | (simp (decide := true) only [am_u_at, am_u_j, am_u_ne]; omega)) (by assumption)) ?_; rintro r I ⟨rfl, (⟨rfl, hhs⟩ | ⟨rfl, hhs⟩)⟩ <;> (try (exfalso; omega)))
    | (refine am_cV (y' := Y_me_add) rfl lk_es_146 ok_me_add rfl rfl rfl (c_me_add _ _ _ (by first | omega | (simp (decide := true) only [am_u_at, am_u_j, am_u_ne]; omega)) hsr (by first | omega | (simp (decide := true) only [am_u_at, am_u_j, am_u_ne]; omega)) hhs) ?_; rintro r I ⟨rfl, hfr, hf14, hsr2, hhs2⟩)
    | (refine am_cV (y' := Y_me_remove) rfl lk_es_150 ok_me_remove rfl rfl rfl (c_me_remove _ _ _ (by first | omega | (simp (decide := true) only [am_u_at, am_u_j, am_u_ne]; omega)) hsr hhs) ?_; rintro r I ⟨rfl, hfr, hf14, hsr2, hhs2⟩)
    | (refine am_rt rfl (by first | exact True.intro | (refine And.intro ?_ ?_ <;> decide) | exact Or.inl rfl | exact Or.inr rfl) ?_))
  all_goals first
    | exact Or.inl ⟨by omega, rfl, rfl⟩
    | exact Or.inr (Or.inl ⟨by omega, by omega, hhs, rfl, rfl⟩)
    | exact Or.inr (Or.inr (Or.inl ⟨by omega, by omega, hhs, by omega, rfl, rfl⟩))
    | exact Or.inr (Or.inr (Or.inr (Or.inl ⟨by omega, by omega, hhs, by omega, rfl, hfr, hf14, hsr2, hhs2⟩)))
    | exact Or.inr (Or.inr (Or.inr (Or.inr (Or.inl ⟨by omega, by omega, hhs, rfl, hfr, hf14, hsr2, hhs2⟩))))
    | exact Or.inr (Or.inr (Or.inr (Or.inr (Or.inr ⟨by omega, by omega, hhs, rfl, rfl⟩))))
theorem c_mo_some (d : Nat) (l on : Int) (I0 : am_I) (hl : (-2147483648 ≤ l ∧ l < 2147483648)) (hon : on = 0 ∨ on = 1) (h49 : es_b49 I0) (hm : 0 ≤ I0 44 19 ∧ I0 44 19 ≤ 6) : am_C (d + 1) Y_mo_some [.inr (.inr 44), .inl l, .inl on] I0 (fun r I' => (¬ (1 ≤ l ∧ l ≤ 96) ∧ r = some (.inl (-2)) ∧ I' = I0) ∨ (((1 ≤ l ∧ l ≤ 96) ∧ on = 1 ∧ I0 49 l.toNat = 0 ∧ I0 44 19 = 6) ∧ r = some (.inl (-4)) ∧ I' = I0) ∨ (((1 ≤ l ∧ l ≤ 96) ∧ ¬ (on = 1 ∧ I0 49 l.toNat = 0 ∧ I0 44 19 = 6)) ∧ r = some (.inl (I0 49 l.toNat)) ∧ I' = am_u (am_u I0 44 19 (I0 44 19 + (on - I0 49 l.toNat))) 49 l.toNat on)) := by
  refine am_enter ok_mo_some rfl ?_
  have h5 := h49 l.toNat
  have h6 : I0 49 l.toNat = 0 ∨ I0 49 l.toNat = 1 := by omega
  repeat' (first
    | (refine am_gp 80 [] rfl (by first | exact True.intro | (refine And.intro ?_ ?_ <;> decide) | exact Or.inl rfl | exact Or.inr rfl | (simp (decide := true) only [am_p, am_u_at, am_u_j, am_u_ne]; omega) | (simp (decide := true) only [am_p, and_true, true_and, true_or, or_true, am_u_at, am_u_j, am_u_ne]; omega) | (simp (decide := true) [am_p, am_u_at, am_u_j, am_u_ne]; omega)) ?_)
    | (show am_V _ _ _ _ _ _ _; simp only [Int.reduceToNat])
    | (refine am_bt rfl (by first | omega | (simp (decide := true) only [am_u_at, am_u_j, am_u_ne]; omega)) (by first | omega | (simp (decide := true) only [am_u_at, am_u_j, am_u_ne]; omega)) ?_)
    | (refine am_bf rfl (by first | omega | (simp (decide := true) only [am_u_at, am_u_j, am_u_ne]; omega)) (by first | omega | (simp (decide := true) only [am_u_at, am_u_j, am_u_ne]; omega)) ?_)
    | (refine am_br rfl (by first | omega | (simp (decide := true) only [am_u_at, am_u_j, am_u_ne]; omega)) (fun h => ?_) (fun h => ?_))
    | (refine am_cS (y' := Y_mo_in) rfl lk_mo_114 ok_mo_in rfl rfl (c_mo_in _ _ _ _ _ (by first | omega | (simp (decide := true) only [am_u_at, am_u_j, am_u_ne]; omega)) (by first | omega | (simp (decide := true) only [am_u_at, am_u_j, am_u_ne]; omega)) (by first | omega | (simp (decide := true) only [am_u_at, am_u_j, am_u_ne]; omega))) ?_; rintro r I0 ⟨rfl, (⟨rfl, h⟩ | ⟨rfl, h⟩)⟩ <;> (try (exfalso; omega)))
    | (refine am_rt rfl (by first | exact True.intro | (refine And.intro ?_ ?_ <;> decide) | exact Or.inl rfl | exact Or.inr rfl) ?_))
  all_goals first
    | exact Or.inl ⟨by omega, rfl, rfl⟩
    | exact Or.inr (Or.inl ⟨by omega, rfl, rfl⟩)
    | (refine Or.inr (Or.inr ⟨by omega, ?_, ?_⟩) <;> (congr 2; omega))
