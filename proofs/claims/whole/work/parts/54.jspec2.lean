def es_ja (Q : Nat → Nat → Int) (M N : Nat) (s : Nat × Nat × Int × Int) : Int := es_fst (es_jb Q M N s.1 s.2.1 s.2.2.1 s.2.2.2) (es_kt Q M N s.2.2.2 (M - s.1) (N - s.2.1) s.2.2.1) 0 28
def es_jx (s : Nat × Nat × Int × Int) (a : Int) : Nat × Nat × Int × Int := (s.1 + (if a < 2 then 1 else 0), s.2.1 + (if a = 0 ∨ a = 2 then 1 else 0), (if 2 < a then a - 15 else s.2.2.1), (if 2 < a then 1 else 0))
def es_js (Q : Nat → Nat → Int) (M N : Nat) : Nat → Nat × Nat × Int × Int
  | 0 => (0, 0, 0, 0)
  | k + 1 => es_jx (es_js Q M N k) (es_ja Q M N (es_js Q M N k))
def es_jv (M N : Nat) (s : Nat × Nat × Int × Int) : Prop := (s.1 ≤ M ∧ s.2.1 ≤ N) ∧ (-12 ≤ s.2.2.1 ∧ s.2.2.1 ≤ 12) ∧ (s.2.2.2 = 0 ∨ s.2.2.2 = 1)
def es_je (M N : Nat) (s : Nat × Nat × Int × Int) : Prop := s.1 = M ∧ s.2.1 = N
theorem es_jb_hi {Q : Nat → Nat → Int} {M N i j : Nat} {c told act : Int} (h : es_jb Q M N i j c told act < 10000) (h0 : 0 ≤ act) : (act = 0 → i < M ∧ j < N) ∧ (act = 1 → i < M) ∧ (act = 2 → j < N) ∧ (2 < act → told = 0 ∧ i < M) := by
  unfold es_jb at h
  refine ⟨fun e => ?_, fun e => ?_, fun e => ?_, fun e => ?_⟩
  · rw [if_pos e] at h
    refine Classical.byContradiction (fun z => ?_)
    rw [if_neg z] at h
    omega
  · rw [if_neg (by omega), if_pos e] at h
    refine Classical.byContradiction (fun z => ?_)
    rw [if_neg z] at h
    omega
  · rw [if_neg (by omega), if_neg (by omega), if_pos e] at h
    refine Classical.byContradiction (fun z => ?_)
    rw [if_neg z] at h
    omega
  · rw [if_neg (by omega), if_neg (by omega), if_neg (by omega)] at h
    refine Classical.byContradiction (fun z => ?_)
    rw [if_neg (fun y => z ⟨y.1, y.2.1⟩)] at h
    omega
theorem es_kt_r (Q : Nat → Nat → Int) {M N i j : Nat} (hM : M ≤ 24) (hN : N ≤ 24) (c told : Int) : 0 ≤ es_kt Q M N told (M - i) (N - j) c ∧ es_kt Q M N told (M - i) (N - j) c ≤ 144 := by
  have h1 := es_k_r Q M N (M - i) (N - j)
  have h2 := h1.1 c
  have h3 := h1.2 c
  unfold es_kt
  split <;> omega
theorem es_ja_ok {Q : Nat → Nat → Int} {M N : Nat} (hM : M ≤ 24) (hN : N ≤ 24) {s : Nat × Nat × Int × Int} (hv : es_jv M N s) (hne : ¬ es_je M N s) : (0 ≤ es_ja Q M N s ∧ es_ja Q M N s < 28) ∧ es_jb Q M N s.1 s.2.1 s.2.2.1 s.2.2.2 (es_ja Q M N s) = es_kt Q M N s.2.2.2 (M - s.1) (N - s.2.1) s.2.2.1 ∧ (es_ja Q M N s = 0 → s.1 < M ∧ s.2.1 < N) ∧ (es_ja Q M N s = 1 → s.1 < M) ∧ (es_ja Q M N s = 2 → s.2.1 < N) ∧ (2 < es_ja Q M N s → s.2.2.2 = 0 ∧ s.1 < M) := by
  obtain ⟨v1, v2, v3⟩ := hv
  have hm := es_jb_min (Q := Q) hM hN v1.1 v1.2 hne v2 v3
  have hr := es_kt_r Q (i := s.1) (j := s.2.1) hM hN s.2.2.1 s.2.2.2
  have hx := es_fn_at (f := es_jb Q M N s.1 s.2.1 s.2.2.1 s.2.2.2) (a := 0) 28 (by rw [hm]; omega)
  rw [hm] at hx
  have ho := es_fst_ok 28 0 hx
  have hh := es_jb_hi (Q := Q) (M := M) (N := N) (i := s.1) (j := s.2.1) (c := s.2.2.1) (told := s.2.2.2) (act := es_ja Q M N s) (by
    show es_jb Q M N s.1 s.2.1 s.2.2.1 s.2.2.2 (es_fst (es_jb Q M N s.1 s.2.1 s.2.2.1 s.2.2.2) (es_kt Q M N s.2.2.2 (M - s.1) (N - s.2.1) s.2.2.1) 0 28) < 10000
    rw [ho.2.2]
    omega) ho.1
  exact ⟨⟨ho.1, by have := ho.2.1; unfold es_ja; omega⟩, ho.2.2, hh⟩
theorem es_jx_v {Q : Nat → Nat → Int} {M N : Nat} (hM : M ≤ 24) (hN : N ≤ 24) {s : Nat × Nat × Int × Int} (hv : es_jv M N s) (hne : ¬ es_je M N s) : es_jv M N (es_jx s (es_ja Q M N s)) ∧ 2 * ((s.1 : Int) + (s.2.1 : Int)) + s.2.2.2 + 1 ≤ 2 * (((es_jx s (es_ja Q M N s)).1 : Int) + ((es_jx s (es_ja Q M N s)).2.1 : Int)) + (es_jx s (es_ja Q M N s)).2.2.2 := by
  obtain ⟨a1, a2, a3, a4, a5, a6⟩ := es_ja_ok (Q := Q) hM hN hv hne
  obtain ⟨v1, v2, v3⟩ := hv
  generalize es_ja Q M N s = a at *
  clear a2
  unfold es_jv es_jx
  by_cases c0 : a = 0
  · have := a3 c0
    rw [if_pos (by omega), if_pos (by omega), if_neg (by omega), if_neg (by omega)]
    refine ⟨⟨⟨?_, ?_⟩, v2, Or.inl rfl⟩, ?_⟩
    · show s.1 + 1 ≤ M
      omega
    · show s.2.1 + 1 ≤ N
      omega
    · show 2 * ((s.1 : Int) + (s.2.1 : Int)) + s.2.2.2 + 1 ≤ 2 * (((s.1 + 1 : Nat) : Int) + ((s.2.1 + 1 : Nat) : Int)) + 0
      omega
  · by_cases c1 : a = 1
    · have := a4 c1
      rw [if_pos (by omega), if_neg (by omega), if_neg (by omega), if_neg (by omega)]
      refine ⟨⟨⟨?_, ?_⟩, v2, Or.inl rfl⟩, ?_⟩
      · show s.1 + 1 ≤ M
        omega
      · show s.2.1 + 0 ≤ N
        omega
      · show 2 * ((s.1 : Int) + (s.2.1 : Int)) + s.2.2.2 + 1 ≤ 2 * (((s.1 + 1 : Nat) : Int) + ((s.2.1 + 0 : Nat) : Int)) + 0
        omega
    · by_cases c2 : a = 2
      · have := a5 c2
        rw [if_neg (by omega), if_pos (by omega), if_neg (by omega), if_neg (by omega)]
        refine ⟨⟨⟨?_, ?_⟩, v2, Or.inl rfl⟩, ?_⟩
        · show s.1 + 0 ≤ M
          omega
        · show s.2.1 + 1 ≤ N
          omega
        · show 2 * ((s.1 : Int) + (s.2.1 : Int)) + s.2.2.2 + 1 ≤ 2 * (((s.1 + 0 : Nat) : Int) + ((s.2.1 + 1 : Nat) : Int)) + 0
          omega
      · have := a6 (by omega)
        rw [if_neg (by omega), if_neg (by omega), if_pos (by omega), if_pos (by omega)]
        refine ⟨⟨⟨?_, ?_⟩, ?_, Or.inr rfl⟩, ?_⟩
        · show s.1 + 0 ≤ M
          omega
        · show s.2.1 + 0 ≤ N
          omega
        · show -12 ≤ a - 15 ∧ a - 15 ≤ 12
          omega
        · show 2 * ((s.1 : Int) + (s.2.1 : Int)) + s.2.2.2 + 1 ≤ 2 * (((s.1 + 0 : Nat) : Int) + ((s.2.1 + 0 : Nat) : Int)) + 1
          omega
theorem es_js_v {Q : Nat → Nat → Int} {M N : Nat} (hM : M ≤ 24) (hN : N ≤ 24) : ∀ k : Nat, (∀ i : Nat, i < k → ¬ es_je M N (es_js Q M N i)) → es_jv M N (es_js Q M N k) ∧ (k : Int) ≤ 2 * (((es_js Q M N k).1 : Int) + ((es_js Q M N k).2.1 : Int)) + (es_js Q M N k).2.2.2
  | 0, _ => by
    refine ⟨⟨⟨Nat.zero_le _, Nat.zero_le _⟩, ?_, Or.inl rfl⟩, ?_⟩
    · show (-12 : Int) ≤ 0 ∧ (0 : Int) ≤ 12
      omega
    · show ((0 : Nat) : Int) ≤ 2 * (((0 : Nat) : Int) + ((0 : Nat) : Int)) + 0
      omega
  | k + 1, h => by
    have ih := es_js_v (Q := Q) hM hN k (fun i hi => h i (by omega))
    have hx := es_jx_v (Q := Q) hM hN ih.1 (h k (by omega))
    refine ⟨hx.1, ?_⟩
    have h2 := hx.2
    show ((k + 1 : Nat) : Int) ≤ 2 * (((es_jx (es_js Q M N k) (es_ja Q M N (es_js Q M N k))).1 : Int) + ((es_jx (es_js Q M N k) (es_ja Q M N (es_js Q M N k))).2.1 : Int)) + (es_jx (es_js Q M N k) (es_ja Q M N (es_js Q M N k))).2.2.2
    omega
def es_jT (Q : Nat → Nat → Int) (M N T : Nat) : Prop := es_je M N (es_js Q M N T) ∧ ∀ i : Nat, i < T → ¬ es_je M N (es_js Q M N i)
theorem es_jT_u {Q : Nat → Nat → Int} {M N T T' : Nat} (h1 : es_jT Q M N T) (h2 : es_jT Q M N T') : T = T' := by
  rcases Nat.lt_trichotomy T T' with h | h | h
  · exact absurd h1.1 (h2.2 T h)
  · exact h
  · exact absurd h2.1 (h1.2 T' h)
def es_a1 (s : Nat × Nat × Int × Int) (a : Int) : Int := if a < 2 then (s.1 : Int) else -1
def es_a2 (s : Nat × Nat × Int × Int) (a : Int) : Int := if a = 0 ∨ a = 2 then (s.2.1 : Int) else -1
def es_a3 (Q : Nat → Nat → Int) (s : Nat × Nat × Int × Int) (a : Int) : Int := if a = 0 then es_jh Q s.1 s.2.1 s.2.2.1 else if a = 2 then es_jm Q s.2.1 else 3
