noncomputable def es_F (S : Int → Prop) (beat all : Int) : Nat → Int → Int
  | 0, t => if t = all then 1 else 0
  | k + 1, t => if t = all then 1 else es_fd es_oc 0 (fun l => es_if (S l ∧ t % beat + l ≤ beat) (es_F S beat all k (t + l)) 0) 1 96
noncomputable def es_rf (S : Int → Prop) (beat all : Int) (k : Nat) (t l : Int) : Int := es_if (S l ∧ t % beat + l ≤ beat) (es_F S beat all k (t + l)) 0
theorem es_F_D {S : Int → Prop} {beat all : Int} : ∀ (k : Nat) (t : Int), 0 ≤ es_F S beat all k t ∧ es_F S beat all k t ≤ 1000000000000000000
  | 0, t => by
    show 0 ≤ (if t = all then (1 : Int) else 0) ∧ (if t = all then (1 : Int) else 0) ≤ 1000000000000000000
    split <;> omega
  | k + 1, t => by
    show 0 ≤ (if t = all then (1 : Int) else es_fd es_oc 0 (fun l => es_if (S l ∧ t % beat + l ≤ beat) (es_F S beat all k (t + l)) 0) 1 96) ∧ (if t = all then (1 : Int) else es_fd es_oc 0 (fun l => es_if (S l ∧ t % beat + l ≤ beat) (es_F S beat all k (t + l)) 0) 1 96) ≤ 1000000000000000000
    split
    · omega
    · refine es_fc_D (fun l => ?_) 1 96
      by_cases c : S l ∧ t % beat + l ≤ beat
      · rw [es_if_t c]; exact es_F_D k (t + l)
      · rw [es_if_f c]; unfold es_Dc; omega
theorem es_rf_D (S : Int → Prop) (beat all : Int) (k : Nat) (t l : Int) : es_Dc (es_rf S beat all k t l) := by
  unfold es_rf
  by_cases c : S l ∧ t % beat + l ≤ beat
  · rw [es_if_t c]; exact es_F_D k (t + l)
  · rw [es_if_f c]; unfold es_Dc; omega
theorem es_F_all {S : Int → Prop} {beat all : Int} (k : Nat) : es_F S beat all k all = 1 := by
  cases k with
  | zero => exact if_pos rfl
  | succ k => exact if_pos rfl
theorem es_F_on {S : Int → Prop} {beat all t : Int} (k : Nat) (h : t ≠ all) : es_F S beat all (k + 1) t = es_fd es_oc 0 (es_rf S beat all k t) 1 96 := if_neg h
theorem es_F_z {S : Int → Prop} {beat all t : Int} (h : t ≠ all) : es_F S beat all 0 t = 0 := if_neg h
theorem es_bar {t b n l : Int} (h1 : 0 ≤ t ∧ t < n * b) (hb : 0 < b) (hl : t % b + l ≤ b) : t + l ≤ n * b := by
  have e1 := Int.emod_add_mul_ediv t b
  have e2 : t / b < n := Int.ediv_lt_of_lt_mul hb h1.2
  have e3 : (t / b + 1) * b ≤ n * b := Int.mul_le_mul_of_nonneg_right (by omega) (by omega)
  have e4 : (t / b + 1) * b = b * (t / b) + b := by rw [Int.add_mul, Int.one_mul, Int.mul_comm]
  omega
theorem es_all {a b : Int} (ha : 1 ≤ a ∧ a ≤ 6) (hb : 1 ≤ b ∧ b ≤ 96) : 1 ≤ a * b ∧ a * b ≤ 576 := by
  have h1 : 1 * 1 ≤ a * b := Int.mul_le_mul ha.1 hb.1 (by omega) (by omega)
  have h2 : a * b ≤ 6 * 96 := Int.mul_le_mul ha.2 hb.2 (by omega) (by omega)
  omega
theorem es_em {t b l : Int} (hb : 0 < b) (ht : 0 ≤ t) (hl : 0 < l) (h : t % b + l ≤ b) : (t % b + l < b ∧ (t + l) % b = t % b + l) ∨ (t % b + l = b ∧ (t + l) % b = 0) := by
  have e1 := Int.emod_add_mul_ediv t b
  have e0 := Int.emod_nonneg t (show b ≠ 0 by omega)
  by_cases c : t % b + l = b
  · refine Or.inr ⟨c, ?_⟩
    rw [show t + l = b * (t / b + 1) by rw [Int.mul_add, Int.mul_one]; omega]
    exact Int.mul_emod_right b _
  · refine Or.inl ⟨by omega, ?_⟩
    rw [show t + l = t % b + l + b * (t / b) by omega, Int.add_mul_emod_self_left]
    exact Int.emod_eq_of_lt (by omega) (by omega)
noncomputable def es_rs (S : Int → Prop) (beat all k : Int) : Nat → Int × Int
  | 0 => (0, k)
  | i + 1 => ((es_rs S beat all k i).1 + (es_pk (es_rf S beat all (23 - i) (es_rs S beat all k i).1) 1 96 (es_rs S beat all k i).2).1, (es_pk (es_rf S beat all (23 - i) (es_rs S beat all k i).1) 1 96 (es_rs S beat all k i).2).2)
def es_ra (S : Int → Prop) (beat all : Int) (i : Nat) (x : Int × Int) : Prop := (0 ≤ x.1 ∧ x.1 ≤ all) ∧ 0 ≤ x.2 ∧ x.2 < es_F S beat all (24 - i) x.1
theorem es_rs_st {S : Int → Prop} {n beat k : Int} (hb : 0 < beat) (hS : ∀ l, S l → 1 ≤ l ∧ l ≤ 96) {i : Nat} (hi : i ≤ 24) (h : es_ra S beat (n * beat) i (es_rs S beat (n * beat) k i)) (ht : (es_rs S beat (n * beat) k i).1 ≠ n * beat) : i < 24 ∧ (1 ≤ (es_pk (es_rf S beat (n * beat) (23 - i) (es_rs S beat (n * beat) k i).1) 1 96 (es_rs S beat (n * beat) k i).2).1 ∧ (es_pk (es_rf S beat (n * beat) (23 - i) (es_rs S beat (n * beat) k i).1) 1 96 (es_rs S beat (n * beat) k i).2).1 ≤ 96) ∧ (S (es_pk (es_rf S beat (n * beat) (23 - i) (es_rs S beat (n * beat) k i).1) 1 96 (es_rs S beat (n * beat) k i).2).1 ∧ (es_rs S beat (n * beat) k i).1 % beat + (es_pk (es_rf S beat (n * beat) (23 - i) (es_rs S beat (n * beat) k i).1) 1 96 (es_rs S beat (n * beat) k i).2).1 ≤ beat) ∧ (es_rs S beat (n * beat) k i).2 < es_fd es_oc 0 (es_rf S beat (n * beat) (23 - i) (es_rs S beat (n * beat) k i).1) 1 96 ∧ es_ra S beat (n * beat) (i + 1) (es_rs S beat (n * beat) k (i + 1)) := by
  have hrs : es_rs S beat (n * beat) k (i + 1) = ((es_rs S beat (n * beat) k i).1 + (es_pk (es_rf S beat (n * beat) (23 - i) (es_rs S beat (n * beat) k i).1) 1 96 (es_rs S beat (n * beat) k i).2).1, (es_pk (es_rf S beat (n * beat) (23 - i) (es_rs S beat (n * beat) k i).1) 1 96 (es_rs S beat (n * beat) k i).2).2) := rfl
  rw [hrs]
  generalize es_rs S beat (n * beat) k i = x at *
  obtain ⟨a1, a2, a3⟩ := h
  have hi4 : i < 24 := by
    refine Classical.byContradiction (fun c => ?_)
    rw [show 24 - i = 0 by omega, es_F_z ht] at a3
    omega
  rw [show 24 - i = (23 - i) + 1 by omega, es_F_on _ ht] at a3
  have hk := es_pk_ok (fun l => es_rf_D S beat (n * beat) (23 - i) x.1 l) 96 1 x.2 a2 a3
  generalize es_pk (es_rf S beat (n * beat) (23 - i) x.1) 1 96 x.2 = z at *
  obtain ⟨k1, k2, k3⟩ := hk
  have hc : S z.1 ∧ x.1 % beat + z.1 ≤ beat := by
    refine Classical.byContradiction (fun c => ?_)
    unfold es_rf at k3
    rw [es_if_f c] at k3
    omega
  unfold es_rf at k3
  rw [es_if_t hc] at k3
  have hb2 := es_bar (n := n) ⟨a1.1, by omega⟩ hb hc.2
  refine ⟨hi4, by omega, hc, a3, ⟨?_, ?_⟩, k2, ?_⟩
  · show 0 ≤ x.1 + z.1
    omega
  · show x.1 + z.1 ≤ n * beat
    omega
  · show z.2 < es_F S beat (n * beat) (24 - (i + 1)) (x.1 + z.1)
    rw [show 24 - (i + 1) = 23 - i by omega]
    exact k3
def es_rN (S : Int → Prop) (beat all k : Int) (N : Nat) : Prop := (es_rs S beat all k N).1 = all ∧ ∀ i : Nat, i < N → (es_rs S beat all k i).1 ≠ all
theorem es_rN_u {S : Int → Prop} {beat all k : Int} {N M : Nat} (h1 : es_rN S beat all k N) (h2 : es_rN S beat all k M) : N = M := by
  rcases Nat.lt_trichotomy N M with h | h | h
  · exact absurd h1.1 (h2.2 N h)
  · exact h
  · exact absurd h2.1 (h1.2 M h)
theorem es_pk_skip {f : Int → Int} : ∀ (n : Nat) (a : Int) (m : Nat) (l : Int), 0 ≤ l → (∀ x, a ≤ x → x < a + (n : Int) → f x = 0) → es_pk f a (n + m) l = es_pk f (a + (n : Int)) m l
  | 0, a, m, l, hl, h => by
    rw [show 0 + m = m by omega, show a + ((0 : Nat) : Int) = a by omega]
  | n + 1, a, m, l, hl, h => by
    rw [show n + 1 + m = (n + m) + 1 by omega]
    show (if l < f a then (a, l) else es_pk f (a + 1) (n + m) (l - f a)) = _
    have h0 := h a (by omega) (by omega)
    rw [if_neg (by omega), h0, show l - 0 = l by omega, es_pk_skip n (a + 1) m l hl (fun x h1 h2 => h x (by omega) (by omega)), show a + 1 + (n : Int) = a + ((n + 1 : Nat) : Int) by omega]
def es_Sm (I : am_I) (l : Int) : Prop := (1 ≤ l ∧ l ≤ 96) ∧ I 49 l.toNat ≠ 0
def es_Sc (I : am_I) (l : Int) : Prop := (1 ≤ l ∧ l ≤ 96) ∧ ∃ i : Nat, (i : Int) < I 14 1 ∧ I 15 i = l
def es_srt (I : am_I) : Prop := (0 ≤ I 14 1 ∧ I 14 1 ≤ 6) ∧ (∀ i : Nat, (i : Int) < I 14 1 → 1 ≤ I 15 i ∧ I 15 i ≤ 96) ∧ ∀ i j : Nat, i < j → (j : Int) < I 14 1 → I 15 i < I 15 j
theorem es_Sc_fd {g L : Int → Int} (hg : ∀ l, es_Dc (g l)) (M : Nat) : ∀ s : Nat, (∀ i, 0 ≤ i → i < (s : Int) → 1 ≤ L i ∧ L i ≤ (M : Int)) → (∀ i j, 0 ≤ i → i < j → j < (s : Int) → L i < L j) → es_fd es_oc 0 (fun i => g (L i)) 0 s = es_fd es_oc 0 (fun l => es_if (∃ i : Int, (0 ≤ i ∧ i < (s : Int)) ∧ L i = l) (g l) 0) 1 M
  | 0, h1, h2 => by
    refine (es_fd_e es_mc M (fun x _ _ => es_if_f ?_)).symm
    rintro ⟨i, h3, h4⟩
    omega
  | s + 1, h1, h2 => by
    have hG : ∀ x, es_Dc (es_if (∃ i : Int, (0 ≤ i ∧ i < ((s + 1 : Nat) : Int)) ∧ L i = x) (g x) 0) := by
      intro x
      by_cases c : ∃ i : Int, (0 ≤ i ∧ i < ((s + 1 : Nat) : Int)) ∧ L i = x
      · rw [es_if_t c]; exact hg x
      · rw [es_if_f c]; unfold es_Dc; omega
    have hs := h1 s (by omega) (by omega)
    rw [← es_fd_pt es_mc (f := fun l => es_if (∃ i : Int, (0 ≤ i ∧ i < ((s + 1 : Nat) : Int)) ∧ L i = l) (g l) 0) hG (a := 1) (c := L s) M hs.1 (by omega)]
    show es_oc (es_fd es_oc 0 (fun i => g (L i)) 0 s) (g (L (0 + (s : Int)))) = _
    rw [es_Sc_fd hg M s (fun i h3 h4 => h1 i h3 (by omega)) (fun i j h3 h4 h5 => h2 i j h3 h4 (by omega)), show 0 + (s : Int) = s by omega]
    congr 1
    · refine es_fd_cg M (fun x _ _ => ?_)
      show es_if (∃ i : Int, (0 ≤ i ∧ i < (s : Int)) ∧ L i = x) (g x) 0 = if x = L s then 0 else es_if (∃ i : Int, (0 ≤ i ∧ i < ((s + 1 : Nat) : Int)) ∧ L i = x) (g x) 0
      by_cases c : x = L s
      · rw [if_pos c, es_if_f]
        rintro ⟨i, h3, h4⟩
        have := h2 i s (by omega) (by omega) (by omega)
        omega
      · rw [if_neg c]
        refine es_if_c ⟨?_, ?_⟩
        · rintro ⟨i, h3, h4⟩
          exact ⟨i, by omega, h4⟩
        · rintro ⟨i, h3, h4⟩
          refine ⟨i, ?_, h4⟩
          have : i ≠ s := fun e => c (by rw [← h4, e])
          omega
    · exact (es_if_t ⟨s, by omega, rfl⟩).symm
