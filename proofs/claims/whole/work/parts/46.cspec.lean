def es_set (a b c : Int) : Int := am_or (am_or (am_shl 1 (a % 12)) (am_shl 1 (b % 12))) (am_shl 1 (c % 12))
def es_l3 (m a b c0 : Int) : Nat → List (Int × Int × Int)
  | 0 => []
  | n + 1 => es_l3 m a b c0 n ++ (if a < b ∧ b < c0 + (n : Int) ∧ es_set a b (c0 + (n : Int)) = m then [(a, b, c0 + (n : Int))] else [])
def es_l2 (m a b0 c0 : Int) : Nat → List (Int × Int × Int)
  | 0 => []
  | n + 1 => es_l2 m a b0 c0 n ++ es_l3 m a (b0 + (n : Int)) c0 12
def es_l1 (m a0 b0 c0 : Int) : Nat → List (Int × Int × Int)
  | 0 => []
  | n + 1 => es_l1 m a0 b0 c0 n ++ es_l2 m (a0 + (n : Int)) b0 c0 12
def es_tl (m a0 b0 c0 : Int) : List (Int × Int × Int) := es_l1 m a0 b0 c0 12
def es_ad (x y : Int) : Int := x + y
theorem es_ma : es_mn es_ad 0 (fun _ => True) := by
  unfold es_mn es_ad
  refine ⟨trivial, fun _ _ _ _ => trivial, fun x y z _ _ _ => by omega, fun x y _ _ => by omega, fun x _ => by omega⟩
theorem es_pd {f : Int → Int} : ∀ a : Nat, es_fd es_ad 0 (fun x => f (x % 12)) (a : Int) 12 = es_fd es_ad 0 f 0 12
  | 0 => by
    refine es_fd_cg 12 (fun x h1 h2 => ?_)
    show f (x % 12) = f x
    rw [Int.emod_eq_of_lt (by omega) (by omega)]
  | a + 1 => by
    rw [← es_pd a]
    have h1 := es_fd_l es_ma (f := fun x => f (x % 12)) (fun _ => trivial) (a : Int) 12
    have h2 : es_fd es_ad 0 (fun x => f (x % 12)) (a : Int) (12 + 1) = es_ad (es_fd es_ad 0 (fun x => f (x % 12)) (a : Int) 12) (f (((a : Int) + ((12 : Nat) : Int)) % 12)) := rfl
    rw [h1] at h2
    unfold es_ad at h2
    rw [show ((a : Int) + ((12 : Nat) : Int)) % 12 = (a : Int) % 12 by omega] at h2
    rw [show ((a + 1 : Nat) : Int) = (a : Int) + 1 by omega]
    unfold es_ad
    omega
theorem es_fa_le {f g : Int → Int} {a : Int} : ∀ n : Nat, (∀ x, a ≤ x → x < a + (n : Int) → f x ≤ g x) → es_fd es_ad 0 f a n ≤ es_fd es_ad 0 g a n
  | 0, _ => by
    show (0 : Int) ≤ 0
    omega
  | n + 1, h => by
    show es_fd es_ad 0 f a n + f (a + n) ≤ es_fd es_ad 0 g a n + g (a + n)
    have h1 := es_fa_le n (fun x h1 h2 => h x h1 (by omega))
    have h2 := h (a + n) (by omega) (by omega)
    omega
def es_i3 (m x y z : Int) : Int := if am_or (am_or (am_shl 1 x) (am_shl 1 y)) (am_shl 1 z) = m then 1 else 0
def es_c3 (m x y : Int) : Int := es_fd es_ad 0 (fun z => es_i3 m x y z) 0 12
def es_c2 (m x : Int) : Int := es_fd es_ad 0 (fun y => if es_bit m y = 1 then es_c3 m x y else 0) 0 12
def es_c1 (m : Int) : Int := es_fd es_ad 0 (fun x => if es_bit m x = 1 then es_c2 m x else 0) 0 12
def es_ck3 (n : Nat) : Bool := decide (3 < es_bs (n : Int) 12) || decide (es_c1 (n : Int) ≤ 6)
theorem es_ck3_all : (List.range 4096).all es_ck3 = true := by decide +kernel
def es_ck4 (n : Nat) : Bool := decide (es_bit (am_or (am_or (am_shl 1 ((n / 144 : Nat) : Int)) (am_shl 1 ((n / 12 % 12 : Nat) : Int))) (am_shl 1 ((n % 12 : Nat) : Int))) ((n / 144 : Nat) : Int) = 1) && decide (es_bit (am_or (am_or (am_shl 1 ((n / 144 : Nat) : Int)) (am_shl 1 ((n / 12 % 12 : Nat) : Int))) (am_shl 1 ((n % 12 : Nat) : Int))) ((n / 12 % 12 : Nat) : Int) = 1)
theorem es_ck4_all : (List.range 1728).all es_ck4 = true := by decide +kernel
theorem es_bits3 {x y z m : Int} (hx : 0 ≤ x ∧ x < 12) (hy : 0 ≤ y ∧ y < 12) (hz : 0 ≤ z ∧ z < 12) (h : am_or (am_or (am_shl 1 x) (am_shl 1 y)) (am_shl 1 z) = m) : es_bit m x = 1 ∧ es_bit m y = 1 := by
  have h1 := List.all_eq_true.1 es_ck4_all (144 * x.toNat + 12 * y.toNat + z.toNat) (List.mem_range.2 (by omega))
  unfold es_ck4 at h1
  rw [show (((144 * x.toNat + 12 * y.toNat + z.toNat) / 144 : Nat) : Int) = x by omega, show (((144 * x.toNat + 12 * y.toNat + z.toNat) / 12 % 12 : Nat) : Int) = y by omega, show (((144 * x.toNat + 12 * y.toNat + z.toNat) % 12 : Nat) : Int) = z by omega, h] at h1
  rw [Bool.and_eq_true, decide_eq_true_iff, decide_eq_true_iff] at h1
  exact h1
theorem es_bit_12 (m a : Int) (ha : 0 ≤ a) : es_bit m (a % 12) = es_bit m a := by
  unfold es_bit
  rw [show a % 12 % 12 = a % 12 by omega]
theorem es_setb {a b c m : Int} (ha : 0 ≤ a) (hb : 0 ≤ b) (hc : 0 ≤ c) (h : es_set a b c = m) : es_bit m a = 1 ∧ es_bit m b = 1 := by
  have h1 := es_bits3 (x := a % 12) (y := b % 12) (z := c % 12) (by omega) (by omega) (by omega) h
  rw [es_bit_12 m a ha, es_bit_12 m b hb] at h1
  exact h1
theorem es_l3_len {m a b c0 : Int} (hc : 0 ≤ c0) : ((es_l3 m a b c0 12).length : Int) ≤ es_c3 m (a % 12) (b % 12) := by
  have h1 : ∀ n : Nat, ((es_l3 m a b c0 n).length : Int) ≤ es_fd es_ad 0 (fun c => es_i3 m (a % 12) (b % 12) (c % 12)) c0 n := by
    intro n
    induction n with
    | zero => show ((0 : Nat) : Int) ≤ 0; omega
    | succ n ih =>
      show ((es_l3 m a b c0 n ++ (if a < b ∧ b < c0 + (n : Int) ∧ es_set a b (c0 + (n : Int)) = m then [(a, b, c0 + (n : Int))] else [])).length : Int) ≤ es_fd es_ad 0 (fun c => es_i3 m (a % 12) (b % 12) (c % 12)) c0 n + es_i3 m (a % 12) (b % 12) ((c0 + (n : Int)) % 12)
      rw [List.length_append]
      have h2 : ((if a < b ∧ b < c0 + (n : Int) ∧ es_set a b (c0 + (n : Int)) = m then [(a, b, c0 + (n : Int))] else []).length : Int) ≤ es_i3 m (a % 12) (b % 12) ((c0 + (n : Int)) % 12) := by
        by_cases c : a < b ∧ b < c0 + (n : Int) ∧ es_set a b (c0 + (n : Int)) = m
        · rw [if_pos c]
          unfold es_i3
          have c3 : am_or (am_or (am_shl 1 (a % 12)) (am_shl 1 (b % 12))) (am_shl 1 ((c0 + (n : Int)) % 12)) = m := c.2.2
          rw [if_pos c3]
          show ((1 : Nat) : Int) ≤ 1
          omega
        · rw [if_neg c]
          unfold es_i3
          split
          · show ((0 : Nat) : Int) ≤ 1
            omega
          · show ((0 : Nat) : Int) ≤ 0
            omega
      omega
  have h3 := h1 12
  have h4 := es_pd (f := fun z => es_i3 m (a % 12) (b % 12) z) c0.toNat
  rw [show ((c0.toNat : Nat) : Int) = c0 by omega] at h4
  unfold es_c3
  rw [← h4]
  exact h3
theorem es_l2_len {m a b0 c0 : Int} (hb : 0 ≤ b0) (hc : 0 ≤ c0) : ((es_l2 m a b0 c0 12).length : Int) ≤ es_fd es_ad 0 (fun y => es_c3 m (a % 12) y) 0 12 := by
  have h1 : ∀ n : Nat, ((es_l2 m a b0 c0 n).length : Int) ≤ es_fd es_ad 0 (fun b => es_c3 m (a % 12) (b % 12)) b0 n := by
    intro n
    induction n with
    | zero => show ((0 : Nat) : Int) ≤ 0; omega
    | succ n ih =>
      show ((es_l2 m a b0 c0 n ++ es_l3 m a (b0 + (n : Int)) c0 12).length : Int) ≤ es_fd es_ad 0 (fun b => es_c3 m (a % 12) (b % 12)) b0 n + es_c3 m (a % 12) ((b0 + (n : Int)) % 12)
      rw [List.length_append]
      have := es_l3_len (m := m) (a := a) (b := b0 + (n : Int)) hc
      omega
  have h3 := h1 12
  have h4 := es_pd (f := fun y => es_c3 m (a % 12) y) b0.toNat
  rw [show ((b0.toNat : Nat) : Int) = b0 by omega] at h4
  rw [← h4]
  exact h3
theorem es_l1_len {m a0 b0 c0 : Int} (ha : 0 ≤ a0) (hb : 0 ≤ b0) (hc : 0 ≤ c0) : ((es_l1 m a0 b0 c0 12).length : Int) ≤ es_fd es_ad 0 (fun x => es_fd es_ad 0 (fun y => es_c3 m x y) 0 12) 0 12 := by
  have h1 : ∀ n : Nat, ((es_l1 m a0 b0 c0 n).length : Int) ≤ es_fd es_ad 0 (fun a => es_fd es_ad 0 (fun y => es_c3 m (a % 12) y) 0 12) a0 n := by
    intro n
    induction n with
    | zero => show ((0 : Nat) : Int) ≤ 0; omega
    | succ n ih =>
      show ((es_l1 m a0 b0 c0 n ++ es_l2 m (a0 + (n : Int)) b0 c0 12).length : Int) ≤ es_fd es_ad 0 (fun a => es_fd es_ad 0 (fun y => es_c3 m (a % 12) y) 0 12) a0 n + es_fd es_ad 0 (fun y => es_c3 m ((a0 + (n : Int)) % 12) y) 0 12
      rw [List.length_append]
      have := es_l2_len (m := m) (a := a0 + (n : Int)) hb hc
      omega
  have h3 := h1 12
  have h4 := es_pd (f := fun x => es_fd es_ad 0 (fun y => es_c3 m x y) 0 12) a0.toNat
  rw [show ((a0.toNat : Nat) : Int) = a0 by omega] at h4
  rw [← h4]
  exact h3
theorem es_c3_0 {m x y : Int} (hx : 0 ≤ x ∧ x < 12) (hy : 0 ≤ y ∧ y < 12) (h : ¬ (es_bit m x = 1 ∧ es_bit m y = 1)) : es_c3 m x y = 0 := by
  unfold es_c3
  refine es_fd_e es_ma 12 (fun z h1 h2 => ?_)
  show es_i3 m x y z = 0
  unfold es_i3
  exact if_neg (fun e => h (es_bits3 hx hy (by omega) e))
theorem es_tl_len {m a0 b0 c0 : Int} (hm : 0 ≤ m ∧ m ≤ 4095) (hb3 : es_bs m 12 ≤ 3) (ha : 0 ≤ a0) (hb : 0 ≤ b0) (hc : 0 ≤ c0) : (es_tl m a0 b0 c0).length ≤ 6 := by
  have h1 := es_l1_len (m := m) ha hb hc
  have h2 : es_fd es_ad 0 (fun x => es_fd es_ad 0 (fun y => es_c3 m x y) 0 12) 0 12 ≤ es_c1 m := by
    unfold es_c1
    refine es_fa_le 12 (fun x hx1 hx2 => ?_)
    show es_fd es_ad 0 (fun y => es_c3 m x y) 0 12 ≤ if es_bit m x = 1 then es_c2 m x else 0
    by_cases c : es_bit m x = 1
    · rw [if_pos c]
      unfold es_c2
      refine es_fa_le 12 (fun y hy1 hy2 => ?_)
      show es_c3 m x y ≤ if es_bit m y = 1 then es_c3 m x y else 0
      by_cases c2 : es_bit m y = 1
      · rw [if_pos c2]; omega
      · rw [if_neg c2, es_c3_0 (by omega) (by omega) (fun z => c2 z.2)]; omega
    · rw [if_neg c, es_fd_e es_ma 12 (fun y hy1 hy2 => es_c3_0 (by omega) (by omega) (fun z => c z.1))]; omega
  have h3 := List.all_eq_true.1 es_ck3_all m.toNat (List.mem_range.2 (by omega))
  unfold es_ck3 at h3
  rw [show ((m.toNat : Nat) : Int) = m by omega, Bool.or_eq_true, decide_eq_true_iff, decide_eq_true_iff] at h3
  unfold es_tl
  omega
def es_nth : List (Int × Int × Int) → Nat → Int × Int × Int
  | [], _ => (0, 0, 0)
  | x :: _, 0 => x
  | _ :: l, k + 1 => es_nth l k
theorem es_nth_a : ∀ (L M : List (Int × Int × Int)) (k : Nat), k < L.length → es_nth (L ++ M) k = es_nth L k
  | [], M, k, h => by simp at h
  | x :: l, M, 0, h => rfl
  | x :: l, M, k + 1, h => by
    show es_nth (l ++ M) k = es_nth l k
    exact es_nth_a l M k (by simpa using h)
theorem es_nth_e : ∀ (L : List (Int × Int × Int)) (x : Int × Int × Int), es_nth (L ++ [x]) L.length = x
  | [], x => rfl
  | y :: l, x => es_nth_e l x
theorem es_nth_m : ∀ (L : List (Int × Int × Int)) (k : Nat), k < L.length → es_nth L k ∈ L
  | [], k, h => by simp at h
  | x :: l, 0, h => List.mem_cons_self
  | x :: l, k + 1, h => List.mem_cons_of_mem _ (es_nth_m l k (by simpa using h))
theorem es_l3_P {m a b c0 : Int} : ∀ (n : Nat) (t : Int × Int × Int), t ∈ es_l3 m a b c0 n → t.1 = a ∧ t.2.1 = b ∧ t.1 < t.2.1 ∧ t.2.1 < t.2.2 ∧ t.2.2 < c0 + (n : Int)
  | 0, t, h => by
    have h1 : t ∈ ([] : List (Int × Int × Int)) := h
    simp at h1
  | n + 1, t, h => by
    have h1 : t ∈ es_l3 m a b c0 n ++ (if a < b ∧ b < c0 + (n : Int) ∧ es_set a b (c0 + (n : Int)) = m then [(a, b, c0 + (n : Int))] else []) := h
    rcases List.mem_append.1 h1 with h2 | h2
    · have := es_l3_P n t h2
      omega
    · split at h2
      · rename_i c
        have h3 : t = (a, b, c0 + (n : Int)) := by simpa using h2
        subst h3
        refine ⟨rfl, rfl, c.1, c.2.1, ?_⟩
        show c0 + (n : Int) < c0 + ((n + 1 : Nat) : Int)
        omega
      · simp at h2
theorem es_l2_P {m a b0 c0 : Int} : ∀ (n : Nat) (t : Int × Int × Int), t ∈ es_l2 m a b0 c0 n → t.1 = a ∧ t.1 < t.2.1 ∧ t.2.1 < t.2.2 ∧ t.2.2 < c0 + 12
  | 0, t, h => by
    have h1 : t ∈ ([] : List (Int × Int × Int)) := h
    simp at h1
  | n + 1, t, h => by
    have h1 : t ∈ es_l2 m a b0 c0 n ++ es_l3 m a (b0 + (n : Int)) c0 12 := h
    rcases List.mem_append.1 h1 with h2 | h2
    · exact es_l2_P n t h2
    · have := es_l3_P 12 t h2
      omega
theorem es_l1_P {m a0 b0 c0 : Int} : ∀ (n : Nat) (t : Int × Int × Int), t ∈ es_l1 m a0 b0 c0 n → a0 ≤ t.1 ∧ t.1 < t.2.1 ∧ t.2.1 < t.2.2 ∧ t.2.2 < c0 + 12
  | 0, t, h => by
    have h1 : t ∈ ([] : List (Int × Int × Int)) := h
    simp at h1
  | n + 1, t, h => by
    have h1 : t ∈ es_l1 m a0 b0 c0 n ++ es_l2 m (a0 + (n : Int)) b0 c0 12 := h
    rcases List.mem_append.1 h1 with h2 | h2
    · exact es_l1_P n t h2
    · have := es_l2_P 12 t h2
      omega
theorem es_tl_P {m a0 b0 c0 : Int} {k : Nat} (h : k < (es_tl m a0 b0 c0).length) : a0 ≤ (es_nth (es_tl m a0 b0 c0) k).1 ∧ (es_nth (es_tl m a0 b0 c0) k).1 < (es_nth (es_tl m a0 b0 c0) k).2.1 ∧ (es_nth (es_tl m a0 b0 c0) k).2.1 < (es_nth (es_tl m a0 b0 c0) k).2.2 ∧ (es_nth (es_tl m a0 b0 c0) k).2.2 < c0 + 12 := es_l1_P 12 _ (es_nth_m _ _ h)
theorem es_l3_mono {m a b c0 : Int} {n : Nat} : ∀ k : Nat, (es_l3 m a b c0 n).length ≤ (es_l3 m a b c0 (n + k)).length
  | 0 => Nat.le_refl _
  | k + 1 => by
    have h : (es_l3 m a b c0 (n + (k + 1))).length = (es_l3 m a b c0 (n + k)).length + (if a < b ∧ b < c0 + ((n + k : Nat) : Int) ∧ es_set a b (c0 + ((n + k : Nat) : Int)) = m then [(a, b, c0 + ((n + k : Nat) : Int))] else []).length := List.length_append
    have := es_l3_mono (m := m) (a := a) (b := b) (c0 := c0) (n := n) k
    omega
theorem es_l2_mono {m a b0 c0 : Int} {n : Nat} : ∀ k : Nat, (es_l2 m a b0 c0 n).length ≤ (es_l2 m a b0 c0 (n + k)).length
  | 0 => Nat.le_refl _
  | k + 1 => by
    have h : (es_l2 m a b0 c0 (n + (k + 1))).length = (es_l2 m a b0 c0 (n + k)).length + (es_l3 m a (b0 + ((n + k : Nat) : Int)) c0 12).length := List.length_append
    have := es_l2_mono (m := m) (a := a) (b0 := b0) (c0 := c0) (n := n) k
    omega
theorem es_l1_mono {m a0 b0 c0 : Int} {n : Nat} : ∀ k : Nat, (es_l1 m a0 b0 c0 n).length ≤ (es_l1 m a0 b0 c0 (n + k)).length
  | 0 => Nat.le_refl _
  | k + 1 => by
    have h : (es_l1 m a0 b0 c0 (n + (k + 1))).length = (es_l1 m a0 b0 c0 (n + k)).length + (es_l2 m (a0 + ((n + k : Nat) : Int)) b0 c0 12).length := List.length_append
    have := es_l1_mono (m := m) (a0 := a0) (b0 := b0) (c0 := c0) (n := n) k
    omega
theorem es_pre {m a0 b0 c0 : Int} {i j k : Nat} (hi : i < 12) (hj : j < 12) (hk : k ≤ 12) : (es_l1 m a0 b0 c0 i ++ es_l2 m (a0 + (i : Int)) b0 c0 j ++ es_l3 m (a0 + (i : Int)) (b0 + (j : Int)) c0 k).length ≤ (es_tl m a0 b0 c0).length := by
  have h1 := es_l1_mono (m := m) (a0 := a0) (b0 := b0) (c0 := c0) (n := i + 1) (12 - (i + 1))
  rw [show i + 1 + (12 - (i + 1)) = 12 by omega] at h1
  have h2 := es_l2_mono (m := m) (a := a0 + (i : Int)) (b0 := b0) (c0 := c0) (n := j + 1) (12 - (j + 1))
  rw [show j + 1 + (12 - (j + 1)) = 12 by omega] at h2
  have h3 := es_l3_mono (m := m) (a := a0 + (i : Int)) (b := b0 + (j : Int)) (c0 := c0) (n := k) (12 - k)
  rw [show k + (12 - k) = 12 by omega] at h3
  have h4 : (es_l1 m a0 b0 c0 (i + 1)).length = (es_l1 m a0 b0 c0 i).length + (es_l2 m (a0 + (i : Int)) b0 c0 12).length := List.length_append
  have h5 : (es_l2 m (a0 + (i : Int)) b0 c0 (j + 1)).length = (es_l2 m (a0 + (i : Int)) b0 c0 j).length + (es_l3 m (a0 + (i : Int)) (b0 + (j : Int)) c0 12).length := List.length_append
  rw [List.length_append, List.length_append]
  unfold es_tl
  omega
def es_ti (cnt : Int) (T : Nat → Int) (B : Int) (L : List (Int × Int × Int)) : Prop := cnt = (L.length : Int) ∧ ∀ k : Nat, k < L.length → T (B + 3 * (k : Int)).toNat = (es_nth L k).1 ∧ T (B + 3 * (k : Int) + 1).toNat = (es_nth L k).2.1 ∧ T (B + 3 * (k : Int) + 2).toNat = (es_nth L k).2.2
theorem es_ti_push {cnt : Int} {T : Nat → Int} {B a b c : Int} {L : List (Int × Int × Int)} (hB : 0 ≤ B) (h : es_ti cnt T B L) : es_ti (cnt + 1) (am_up (am_up (am_up T (B + 3 * cnt).toNat a) (B + 3 * cnt + 1).toNat b) (B + 3 * cnt + 2).toNat c) B (L ++ [(a, b, c)]) := by
  obtain ⟨h1, h2⟩ := h
  refine ⟨by rw [List.length_append]; simp; omega, ?_⟩
  intro k hk
  have hk2 : k < L.length + 1 := by rw [List.length_append] at hk; simpa using hk
  by_cases e : k = L.length
  · subst e
    rw [es_nth_e, h1]
    refine ⟨?_, ?_, ?_⟩
    · rw [am_up_ne (by omega), am_up_ne (by omega), am_up_eq]
    · rw [am_up_ne (by omega), am_up_eq]
    · rw [am_up_eq]
  · rw [es_nth_a L _ k (by omega)]
    have h3 := h2 k (by omega)
    refine ⟨?_, ?_, ?_⟩
    · rw [am_up_ne (by omega), am_up_ne (by omega), am_up_ne (by omega)]; exact h3.1
    · rw [am_up_ne (by omega), am_up_ne (by omega), am_up_ne (by omega)]; exact h3.2.1
    · rw [am_up_ne (by omega), am_up_ne (by omega), am_up_ne (by omega)]; exact h3.2.2
def es_pl (lo hi nlo nhi : Int) : Prop := ((lo < nlo ∧ hi < nhi) ∨ (nlo < lo ∧ nhi < hi)) ∧ (hi - lo) % 12 = (nhi - nlo) % 12 ∧ ((hi - lo) % 12 = 0 ∨ (hi - lo) % 12 = 7)
def es_ab (most x y : Int) : Prop := y - x ≤ most ∧ x - y ≤ most
def es_fo (most : Int) (x y : Int × Int × Int) : Prop := es_ab most x.1 y.1 ∧ es_ab most x.2.1 y.2.1 ∧ ¬ es_pl x.1 x.2.1 y.1 y.2.1 ∧ es_ab most x.2.2 y.2.2 ∧ ¬ es_pl x.1 x.2.2 y.1 y.2.2 ∧ ¬ es_pl x.2.1 x.2.2 y.2.1 y.2.2
noncomputable def es_cw (most : Int) (Ls : Nat → List (Int × Int × Int)) (n : Nat) : Nat → Nat → Int
  | 0, _ => 1
  | m + 1, t => es_fd es_oc 0 (fun k => es_if (es_fo most (es_nth (Ls (n - 2 - m)) t) (es_nth (Ls (n - 1 - m)) k.toNat)) (es_cw most Ls n m k.toNat) 0) 0 (Ls (n - 1 - m)).length
theorem es_cw_D {most : Int} {Ls : Nat → List (Int × Int × Int)} {n : Nat} : ∀ m t : Nat, 0 ≤ es_cw most Ls n m t ∧ es_cw most Ls n m t ≤ 1000000000000000000
  | 0, t => by
    show (0 : Int) ≤ 1 ∧ (1 : Int) ≤ 1000000000000000000
    omega
  | m + 1, t => by
    refine es_fc_D (fun k => ?_) 0 _
    by_cases c : es_fo most (es_nth (Ls (n - 2 - m)) t) (es_nth (Ls (n - 1 - m)) k.toNat)
    · rw [es_if_t c]; exact es_cw_D m k.toNat
    · rw [es_if_f c]; unfold es_Dc; omega
noncomputable def es_cq (most : Int) (Ls : Nat → List (Int × Int × Int)) (n : Nat) (p : Nat) (b : Nat) (k : Int) : Int := es_if (p = 0 ∨ es_fo most (es_nth (Ls (p - 1)) b) (es_nth (Ls p) k.toNat)) (es_cw most Ls n (n - 1 - p) k.toNat) 0
theorem es_cq_D (most : Int) (Ls : Nat → List (Int × Int × Int)) (n p b : Nat) (k : Int) : es_Dc (es_cq most Ls n p b k) := by
  unfold es_cq
  by_cases c : p = 0 ∨ es_fo most (es_nth (Ls (p - 1)) b) (es_nth (Ls p) k.toNat)
  · rw [es_if_t c]; exact es_cw_D _ _
  · rw [es_if_f c]; unfold es_Dc; omega
theorem es_cw_sum {most : Int} {Ls : Nat → List (Int × Int × Int)} {n p b : Nat} (hp : p + 1 < n) : es_cw most Ls n (n - 1 - p) b = es_fd es_oc 0 (es_cq most Ls n (p + 1) b) 0 (Ls (p + 1)).length := by
  rw [show n - 1 - p = (n - 2 - p) + 1 by omega]
  show es_fd es_oc 0 (fun k => es_if (es_fo most (es_nth (Ls (n - 2 - (n - 2 - p))) b) (es_nth (Ls (n - 1 - (n - 2 - p))) k.toNat)) (es_cw most Ls n (n - 2 - p) k.toNat) 0) 0 (Ls (n - 1 - (n - 2 - p))).length = _
  rw [show n - 2 - (n - 2 - p) = p by omega, show n - 1 - (n - 2 - p) = p + 1 by omega]
  refine es_fd_cg _ (fun x _ _ => ?_)
  unfold es_cq
  rw [show n - 1 - (p + 1) = n - 2 - p by omega, show p + 1 - 1 = p by omega]
  exact es_if_c ⟨fun z => Or.inr z, fun z => z.resolve_left (by omega)⟩
noncomputable def es_ctot (most : Int) (Ls : Nat → List (Int × Int × Int)) (n : Nat) : Int := if n = 0 then 0 else es_fd es_oc 0 (es_cq most Ls n 0 0) 0 (Ls 0).length
noncomputable def es_cs (most : Int) (Ls : Nat → List (Int × Int × Int)) (n : Nat) (k : Int) : Nat → Nat × Int
  | 0 => (0, k)
  | p + 1 => ((es_pk (es_cq most Ls n p (es_cs most Ls n k p).1) 0 (Ls p).length (es_cs most Ls n k p).2).1.toNat, (es_pk (es_cq most Ls n p (es_cs most Ls n k p).1) 0 (Ls p).length (es_cs most Ls n k p).2).2)
def es_ca (most : Int) (Ls : Nat → List (Int × Int × Int)) (n p : Nat) (x : Nat × Int) : Prop := 0 ≤ x.2 ∧ (p < n → x.2 < es_fd es_oc 0 (es_cq most Ls n p x.1) 0 (Ls p).length)
theorem es_cs_a {most : Int} {Ls : Nat → List (Int × Int × Int)} {n : Nat} {k : Int} (hk : 0 ≤ k ∧ k < es_ctot most Ls n) : ∀ p : Nat, p ≤ n → es_ca most Ls n p (es_cs most Ls n k p) ∧ (∀ q : Nat, p = q + 1 → (es_cs most Ls n k p).1 < (Ls q).length ∧ (es_cs most Ls n k p).2 < es_cq most Ls n q (es_cs most Ls n k q).1 ((es_cs most Ls n k p).1 : Int))
  | 0, _ => by
    refine ⟨⟨hk.1, fun h => ?_⟩, fun q h => by omega⟩
    have h2 := hk.2
    unfold es_ctot at h2
    rw [if_neg (by omega)] at h2
    exact h2
  | p + 1, h => by
    have ih := (es_cs_a hk p (by omega)).1
    have hok := es_pk_ok (f := es_cq most Ls n p (es_cs most Ls n k p).1) (fun x => es_cq_D _ _ _ _ _ x) (Ls p).length 0 (es_cs most Ls n k p).2 ih.1 (ih.2 (by omega))
    have e : es_cs most Ls n k (p + 1) = ((es_pk (es_cq most Ls n p (es_cs most Ls n k p).1) 0 (Ls p).length (es_cs most Ls n k p).2).1.toNat, (es_pk (es_cq most Ls n p (es_cs most Ls n k p).1) 0 (Ls p).length (es_cs most Ls n k p).2).2) := rfl
    rw [e]
    generalize es_pk (es_cq most Ls n p (es_cs most Ls n k p).1) 0 (Ls p).length (es_cs most Ls n k p).2 = z at *
    obtain ⟨k1, k2, k3⟩ := hok
    have hz : ((z.1.toNat : Nat) : Int) = z.1 := by omega
    refine ⟨⟨k2, fun hn => ?_⟩, ?_⟩
    · show z.2 < es_fd es_oc 0 (es_cq most Ls n (p + 1) z.1.toNat) 0 (Ls (p + 1)).length
      rw [← es_cw_sum hn]
      have hc : p = 0 ∨ es_fo most (es_nth (Ls (p - 1)) (es_cs most Ls n k p).1) (es_nth (Ls p) z.1.toNat) := by
        refine Classical.byContradiction (fun c => ?_)
        unfold es_cq at k3
        rw [es_if_f c] at k3
        omega
      unfold es_cq at k3
      rw [es_if_t hc] at k3
      exact k3
    · intro q hq
      have eq : q = p := by omega
      subst eq
      show z.1.toNat < (Ls q).length ∧ z.2 < es_cq most Ls n q (es_cs most Ls n k q).1 ((z.1.toNat : Nat) : Int)
      rw [hz]
      exact ⟨by omega, k3⟩
