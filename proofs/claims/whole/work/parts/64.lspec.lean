def es_pi (Q : Nat → Nat → Int) (M N k : Nat) : Int := es_a1 (es_js Q M N k) (es_ja Q M N (es_js Q M N k))
def es_pn (Q : Nat → Nat → Int) (M N k : Nat) : Int := if es_ja Q M N (es_js Q M N k) = 1 ∨ (es_ja Q M N (es_js Q M N k) = 0 ∧ 2 ≤ es_a3 Q (es_js Q M N k) (es_ja Q M N (es_js Q M N k))) then 1 else 0
def es_sz (Q : Nat → Nat → Int) (i : Nat) : Int := min (max (Q 0 i - Q 0 (i - 1)) (-(Q 0 i - Q 0 (i - 1)))) 12
def es_pz (Q : Nat → Nat → Int) (M N k : Nat) : Int := if 0 < es_pi Q M N k then es_sz Q (es_pi Q M N k).toNat else -1
def es_la (Q : Nat → Nat → Int) (M N : Nat) : Nat → Int → Int
  | 0, _ => 0
  | k + 1, s => es_la Q M N k s + (if es_pz Q M N k = s then 1 else 0)
def es_lb (Q : Nat → Nat → Int) (M N : Nat) : Nat → Int → Int
  | 0, _ => 0
  | k + 1, s => es_lb Q M N k s + (if es_pz Q M N k = s then es_pn Q M N k else 0)
def es_lc (Q : Nat → Nat → Int) (M N : Nat) : Nat → Int
  | 0 => 0
  | k + 1 => es_lc Q M N k + (if 0 ≤ es_pz Q M N k then es_pn Q M N k else 0)
theorem es_pn_01 (Q : Nat → Nat → Int) (M N k : Nat) : es_pn Q M N k = 0 ∨ es_pn Q M N k = 1 := by
  unfold es_pn
  split
  · exact Or.inr rfl
  · exact Or.inl rfl
theorem es_sz_r (Q : Nat → Nat → Int) (i : Nat) : 0 ≤ es_sz Q i ∧ es_sz Q i ≤ 12 := by
  unfold es_sz
  omega
theorem es_pz_n {Q : Nat → Nat → Int} {M N k : Nat} (h : ¬ 0 < es_pi Q M N k) : es_pz Q M N k = -1 := if_neg h
theorem es_pz_p {Q : Nat → Nat → Int} {M N k : Nat} (h : 0 < es_pi Q M N k) : es_pz Q M N k = es_sz Q (es_pi Q M N k).toNat := if_pos h
theorem es_la_r (Q : Nat → Nat → Int) (M N : Nat) (s : Int) (hs : 0 ≤ s) : ∀ k : Nat, (0 ≤ es_lb Q M N k s ∧ es_lb Q M N k s ≤ es_la Q M N k s) ∧ es_la Q M N k s ≤ ((es_js Q M N k).1 : Int)
  | 0 => by
    show (0 ≤ (0 : Int) ∧ (0 : Int) ≤ 0) ∧ (0 : Int) ≤ ((0 : Nat) : Int)
    omega
  | k + 1 => by
    have ih := es_la_r Q M N s hs k
    have h1 := es_pn_01 Q M N k
    have e1 : es_la Q M N (k + 1) s = es_la Q M N k s + (if es_pz Q M N k = s then 1 else 0) := rfl
    have e2 : es_lb Q M N (k + 1) s = es_lb Q M N k s + (if es_pz Q M N k = s then es_pn Q M N k else 0) := rfl
    have e3 : (es_js Q M N (k + 1)).1 = (es_js Q M N k).1 + (if es_ja Q M N (es_js Q M N k) < 2 then 1 else 0) := rfl
    rw [e1, e2, e3]
    by_cases c : es_pz Q M N k = s
    · rw [if_pos c, if_pos c]
      have hp : 0 < es_pi Q M N k := by
        refine Classical.byContradiction (fun z => ?_)
        have := es_pz_n z
        omega
      have ha : es_ja Q M N (es_js Q M N k) < 2 := by
        refine Classical.byContradiction (fun z => ?_)
        unfold es_pi es_a1 at hp
        rw [if_neg z] at hp
        omega
      rw [if_pos ha]
      omega
    · rw [if_neg c, if_neg c]
      have h5 : (es_js Q M N k).1 ≤ (es_js Q M N k).1 + (if es_ja Q M N (es_js Q M N k) < 2 then 1 else 0) := Nat.le_add_right _ _
      omega
theorem es_la_T {Q : Nat → Nat → Int} {M N T : Nat} (hT : es_jT Q M N T) (hM : M ≤ 24) (s : Int) (hs : 0 ≤ s) : (0 ≤ es_lb Q M N T s ∧ es_lb Q M N T s ≤ 24) ∧ (0 ≤ es_la Q M N T s ∧ es_la Q M N T s ≤ 24) := by
  have h := es_la_r Q M N s hs T
  have h1 : (es_js Q M N T).1 = M := hT.1.1
  rw [h1] at h
  omega
theorem es_pf {Q : Nat → Nat → Int} {M N T k : Nat} (hM : M ≤ 24) (hN : N ≤ 24) (hT : es_jT Q M N T) (hk : k < T) : (0 ≤ es_ja Q M N (es_js Q M N k) ∧ es_ja Q M N (es_js Q M N k) < 28) ∧ (-1 ≤ es_pi Q M N k ∧ es_pi Q M N k < (M : Int)) ∧ (0 < es_pi Q M N k → es_ja Q M N (es_js Q M N k) < 2 ∧ es_pi Q M N k = ((es_js Q M N k).1 : Int)) ∧ (es_ja Q M N (es_js Q M N k) = 0 → (es_js Q M N k).2.1 < N) ∧ (-12 ≤ (es_js Q M N k).2.2.1 ∧ (es_js Q M N k).2.2.1 ≤ 12) ∧ (0 ≤ es_a3 Q (es_js Q M N k) (es_ja Q M N (es_js Q M N k)) ∧ es_a3 Q (es_js Q M N k) (es_ja Q M N (es_js Q M N k)) ≤ 3) := by
  have hv := (es_js_v (Q := Q) hM hN k (fun i hi => hT.2 i (by omega))).1
  obtain ⟨o1, o2, o3, o4, o5, o6⟩ := es_ja_ok (Q := Q) hM hN hv (hT.2 k hk)
  obtain ⟨⟨v1, v2⟩, v3, v4⟩ := hv
  have h1 := es_jh_r Q (es_js Q M N k).1 (es_js Q M N k).2.1 (es_js Q M N k).2.2.1
  have h2 := es_jm_r Q (es_js Q M N k).2.1
  clear o2 o5 o6
  have e1 : es_pi Q M N k = (if es_ja Q M N (es_js Q M N k) < 2 then ((es_js Q M N k).1 : Int) else -1) := rfl
  refine ⟨o1, ?_, ?_, fun e => (o3 e).2, v3, ?_⟩
  · rw [e1]
    by_cases c : es_ja Q M N (es_js Q M N k) < 2
    · rw [if_pos c]
      by_cases c0 : es_ja Q M N (es_js Q M N k) = 0
      · have := o3 c0; omega
      · have := o4 (by omega); omega
    · rw [if_neg c]
      omega
  · intro h
    by_cases c : es_ja Q M N (es_js Q M N k) < 2
    · exact ⟨c, by rw [e1, if_pos c]⟩
    · rw [e1, if_neg c] at h
      omega
  · unfold es_a3
    repeat' split
    all_goals omega
theorem es_pn_1 {Q : Nat → Nat → Int} {M N k : Nat} (h : es_ja Q M N (es_js Q M N k) = 1) : es_pn Q M N k = 1 := if_pos (Or.inl h)
theorem es_pn_0 {Q : Nat → Nat → Int} {M N k : Nat} (h : es_ja Q M N (es_js Q M N k) = 0) : es_pn Q M N k = if Q 2 (es_js Q M N k).2.1 = Q 0 (es_js Q M N k).1 + (es_js Q M N k).2.2.1 then 0 else 1 := by
  unfold es_pn es_a3
  rw [if_pos h]
  unfold es_jh
  by_cases c : Q 2 (es_js Q M N k).2.1 = Q 0 (es_js Q M N k).1 + (es_js Q M N k).2.2.1
  · rw [if_pos c, if_pos c, if_neg]
    rintro (z | ⟨z, z2⟩)
    · omega
    · by_cases c2 : Q 3 (es_js Q M N k).2.1 = Q 1 (es_js Q M N k).1
      · rw [if_pos c2] at z2; omega
      · rw [if_neg c2] at z2; omega
  · rw [if_neg c, if_neg c, if_pos]
    refine Or.inr ⟨h, ?_⟩
    by_cases c2 : Q 3 (es_js Q M N k).2.1 = Q 1 (es_js Q M N k).1
    · rw [if_pos c2]; omega
    · rw [if_neg c2]; omega
theorem c_ju_missed (d : Nat) (k : Nat) (I : am_I) (hk : k < 96) (h1 : 0 ≤ I 25 (k : Int).toNat ∧ I 25 (k : Int).toNat < 28) (h2 : 0 ≤ I 28 (k : Int).toNat ∧ I 28 (k : Int).toNat ≤ 3) : am_C d Y_ju_missed [.inr (.inr 23), .inl k] I (fun r I' => I' = I ∧ ((r = some (.inl 1) ∧ (I 25 (k : Int).toNat = 1 ∨ (I 25 (k : Int).toNat = 0 ∧ 2 ≤ I 28 (k : Int).toNat))) ∨ (r = some (.inl 0) ∧ ¬ (I 25 (k : Int).toNat = 1 ∨ (I 25 (k : Int).toNat = 0 ∧ 2 ≤ I 28 (k : Int).toNat))))) := by
  refine am_enter ok_ju_missed rfl ?_
  repeat' (first
    | (refine am_gp 80 [] rfl (by first | exact True.intro | (refine And.intro ?_ ?_ <;> decide) | exact Or.inl rfl | exact Or.inr rfl | (simp (decide := true) only [am_p, am_u_at, am_u_j, am_u_ne]; omega) | (simp (decide := true) only [am_p, and_true, true_and, true_or, or_true, am_u_at, am_u_j, am_u_ne]; omega) | (simp (decide := true) [am_p, am_u_at, am_u_j, am_u_ne]; omega)) ?_)
    | (show am_V _ _ _ _ _ _ _; simp only [Int.reduceToNat])
    | (refine am_bt rfl (by first | omega | (simp (decide := true) only [am_u_at, am_u_j, am_u_ne]; omega)) (by first | omega | (simp (decide := true) only [am_u_at, am_u_j, am_u_ne]; omega)) ?_)
    | (refine am_bf rfl (by first | omega | (simp (decide := true) only [am_u_at, am_u_j, am_u_ne]; omega)) (by first | omega | (simp (decide := true) only [am_u_at, am_u_j, am_u_ne]; omega)) ?_)
    | (refine am_br rfl (by first | omega | (simp (decide := true) only [am_u_at, am_u_j, am_u_ne]; omega)) (fun h => ?_) (fun h => ?_))
    | (refine am_rt rfl (by first | exact True.intro | (refine And.intro ?_ ?_ <;> decide) | exact Or.inl rfl | exact Or.inr rfl | (show _ ∨ _; omega)) ?_))
  all_goals first
    | exact ⟨rfl, Or.inl ⟨rfl, by omega⟩⟩
    | exact ⟨rfl, Or.inr ⟨rfl, by omega⟩⟩
