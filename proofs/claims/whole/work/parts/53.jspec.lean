def es_Q (M N : Nat) (mp ml ap al : Nat → Int) : Nat → Nat → Int
  | 0 => fun j => if j < M then mp j else 0
  | 1 => fun j => if j < M then ml j else 0
  | 2 => fun j => if j < N then ap j else 0
  | _ => fun j => if j < N then al j else 0
def es_jh (Q : Nat → Nat → Int) (i j : Nat) (c : Int) : Int := (if Q 2 j = Q 0 i + c then 0 else 2) + (if Q 3 j = Q 1 i then 0 else 1)
def es_jm (Q : Nat → Nat → Int) (j : Nat) : Int := if 0 < j ∧ Q 2 j = Q 2 (j - 1) ∧ Q 3 j = Q 3 (j - 1) then 1 else 3
def es_on (a b : Int) : Int := min a b
theorem es_mi : es_mn es_on 10000 (fun x => x ≤ 10000) := by
  unfold es_mn es_on
  refine ⟨by omega, fun x y hx hy => by omega, fun x y z hx hy hz => by omega, fun x y hx hy => by omega, fun x hx => by omega⟩
def es_m0 (Q : Nat → Nat → Int) (N : Nat) : Nat → Int
  | 0 => 0
  | y + 1 => es_jm Q (N - (y + 1)) + es_m0 Q N y
def es_w1 (Q : Nat → Nat → Int) (M N x y : Nat) (prev : Nat → Int → Int) (own : Int → Int) (d : Int) : Int := min (es_jh Q (M - (x + 1)) (N - (y + 1)) d + prev y d) (min (3 + prev (y + 1) d) (es_jm Q (N - (y + 1)) + own d))
def es_ki (Q : Nat → Nat → Int) (M N x : Nat) (prev : Nat → Int → Int) : Nat → Int → Int
  | 0 => fun c => 3 + prev 0 c
  | y + 1 => fun c => min (es_w1 Q M N x y prev (es_ki Q M N x prev y) c) (3 + es_fd es_on 10000 (fun d => es_w1 Q M N x y prev (es_ki Q M N x prev y) d) (-12) 25)
def es_k0 (Q : Nat → Nat → Int) (M N : Nat) : Nat → Nat → Int → Int
  | 0 => fun y _ => es_m0 Q N y
  | x + 1 => es_ki Q M N x (es_k0 Q M N x)
def es_k1 (Q : Nat → Nat → Int) (M N : Nat) : Nat → Nat → Int → Int
  | 0 => fun y _ => es_m0 Q N y
  | x + 1 => fun y c => match y with
    | 0 => 3 + es_k0 Q M N x 0 c
    | y + 1 => es_w1 Q M N x y (es_k0 Q M N x) (es_k0 Q M N (x + 1) y) c
theorem es_k0_in (Q : Nat → Nat → Int) (M N x y : Nat) (c : Int) : es_k0 Q M N (x + 1) (y + 1) c = min (es_k1 Q M N (x + 1) (y + 1) c) (3 + es_fd es_on 10000 (es_k1 Q M N (x + 1) (y + 1)) (-12) 25) := rfl
theorem es_k1_in (Q : Nat → Nat → Int) (M N x y : Nat) (c : Int) : es_k1 Q M N (x + 1) (y + 1) c = min (es_jh Q (M - (x + 1)) (N - (y + 1)) c + es_k0 Q M N x y c) (min (3 + es_k0 Q M N x (y + 1) c) (es_jm Q (N - (y + 1)) + es_k0 Q M N (x + 1) y c)) := rfl
theorem es_k0_0 (Q : Nat → Nat → Int) (M N : Nat) : ∀ (x : Nat) (c : Int), es_k0 Q M N x 0 c = 3 * (x : Int)
  | 0, c => by
    show (0 : Int) = 3 * ((0 : Nat) : Int)
    omega
  | x + 1, c => by
    show 3 + es_k0 Q M N x 0 c = 3 * ((x + 1 : Nat) : Int)
    rw [es_k0_0 Q M N x c]
    omega
theorem es_k1_0 (Q : Nat → Nat → Int) (M N x : Nat) (c : Int) : es_k1 Q M N x 0 c = 3 * (x : Int) := by
  cases x with
  | zero => exact es_k0_0 Q M N 0 c
  | succ x => exact es_k0_0 Q M N (x + 1) c
theorem es_k1_m (Q : Nat → Nat → Int) (M N y : Nat) (c : Int) : es_k1 Q M N 0 y c = es_k0 Q M N 0 y c := rfl
theorem es_k0_m (Q : Nat → Nat → Int) (M N y : Nat) (c : Int) : es_k0 Q M N 0 (y + 1) c = es_jm Q (N - (y + 1)) + es_k0 Q M N 0 y c := rfl
theorem es_jh_r (Q : Nat → Nat → Int) (i j : Nat) (c : Int) : 0 ≤ es_jh Q i j c ∧ es_jh Q i j c ≤ 3 := by
  unfold es_jh
  repeat' split
  all_goals omega
theorem es_jm_r (Q : Nat → Nat → Int) (j : Nat) : 1 ≤ es_jm Q j ∧ es_jm Q j ≤ 3 := by
  unfold es_jm
  split <;> omega
theorem es_fn_ge {f : Int → Int} {a b : Int} (hb : b ≤ 10000) (hf : ∀ x, b ≤ f x) : ∀ m : Nat, b ≤ es_fd es_on 10000 f a m
  | 0 => hb
  | m + 1 => by
    have h1 := es_fn_ge (a := a) hb hf m
    have h2 := hf (a + m)
    show b ≤ min (es_fd es_on 10000 f a m) (f (a + m))
    omega
theorem es_fn_le {f : Int → Int} {a : Int} : ∀ m : Nat, es_fd es_on 10000 f a m ≤ 10000
  | 0 => Int.le_refl _
  | m + 1 => by
    have h1 := es_fn_le (f := f) (a := a) m
    show min (es_fd es_on 10000 f a m) (f (a + m)) ≤ 10000
    omega
theorem es_fn_3 {f : Int → Int} {a : Int} (hf : ∀ x, f x ≤ 9000) : ∀ m : Nat, es_fd es_on 10000 (fun d => 3 + f d) a (m + 1) = 3 + es_fd es_on 10000 f a (m + 1)
  | 0 => by
    show min 10000 (3 + f (a + ((0 : Nat) : Int))) = 3 + min 10000 (f (a + ((0 : Nat) : Int)))
    have := hf (a + ((0 : Nat) : Int))
    omega
  | m + 1 => by
    have h1 := es_fn_3 (a := a) hf m
    have h2 := hf (a + ((m + 1 : Nat) : Int))
    show min (es_fd es_on 10000 (fun d => 3 + f d) a (m + 1)) (3 + f (a + ((m + 1 : Nat) : Int))) = 3 + min (es_fd es_on 10000 f a (m + 1)) (f (a + ((m + 1 : Nat) : Int)))
    rw [h1]
    omega
theorem es_k_r (Q : Nat → Nat → Int) (M N : Nat) : ∀ x y : Nat, (∀ c, 0 ≤ es_k0 Q M N x y c ∧ es_k0 Q M N x y c ≤ 3 * ((x : Int) + (y : Int))) ∧ (∀ c, 0 ≤ es_k1 Q M N x y c ∧ es_k1 Q M N x y c ≤ 3 * ((x : Int) + (y : Int)))
  | 0, 0 => ⟨fun c => by rw [es_k0_0]; omega, fun c => by rw [es_k1_0]; omega⟩
  | 0, y + 1 => by
    have h1 := es_k_r Q M N 0 y
    have h2 := es_jm_r Q (N - (y + 1))
    have h3 : ∀ c, 0 ≤ es_k0 Q M N 0 (y + 1) c ∧ es_k0 Q M N 0 (y + 1) c ≤ 3 * (((0 : Nat) : Int) + ((y + 1 : Nat) : Int)) := by
      intro c
      have h4 := h1.1 c
      rw [es_k0_m]
      omega
    exact ⟨h3, h3⟩
  | x + 1, 0 => ⟨fun c => by rw [es_k0_0]; omega, fun c => by rw [es_k1_0]; omega⟩
  | x + 1, y + 1 => by
    have a1 := (es_k_r Q M N x y).1
    have a2 := (es_k_r Q M N x (y + 1)).1
    have a3 := (es_k_r Q M N (x + 1) y).1
    have h3 : ∀ c, 0 ≤ es_k1 Q M N (x + 1) (y + 1) c ∧ es_k1 Q M N (x + 1) (y + 1) c ≤ 3 * (((x + 1 : Nat) : Int) + ((y + 1 : Nat) : Int)) := by
      intro c
      have b1 := a1 c
      have b2 := a2 c
      have b3 := a3 c
      have b4 := es_jh_r Q (M - (x + 1)) (N - (y + 1)) c
      have b5 := es_jm_r Q (N - (y + 1))
      rw [es_k1_in]
      omega
    refine ⟨fun c => ?_, h3⟩
    have h4 := h3 c
    have h5 := es_fn_ge (a := -12) (b := 0) (by omega) (fun d => (h3 d).1) 25
    rw [es_k0_in]
    omega
termination_by x y => x + y
def es_jb (Q : Nat → Nat → Int) (M N : Nat) (i j : Nat) (c told act : Int) : Int := if act = 0 then (if i < M ∧ j < N then es_jh Q i j c + es_k0 Q M N (M - i - 1) (N - j - 1) c else 10000) else if act = 1 then (if i < M then 3 + es_k0 Q M N (M - i - 1) (N - j) c else 10000) else if act = 2 then (if j < N then es_jm Q j + es_k0 Q M N (M - i) (N - j - 1) c else 10000) else (if told = 0 ∧ i < M ∧ act - 15 ≠ c then 3 + es_k1 Q M N (M - i) (N - j) (act - 15) else 10000)
def es_kt (Q : Nat → Nat → Int) (M N : Nat) (told : Int) (x y : Nat) (c : Int) : Int := if told = 0 then es_k0 Q M N x y c else es_k1 Q M N x y c
theorem es_jb3 {Q : Nat → Nat → Int} {M N i j : Nat} (hM : M ≤ 24) (hN : N ≤ 24) (hi : i ≤ M) (hj : j ≤ N) (hne : ¬ (i = M ∧ j = N)) (c told : Int) : min (es_jb Q M N i j c told 0) (min (es_jb Q M N i j c told 1) (es_jb Q M N i j c told 2)) = es_k1 Q M N (M - i) (N - j) c := by
  have e0 : es_jb Q M N i j c told 0 = (if i < M ∧ j < N then es_jh Q i j c + es_k0 Q M N (M - i - 1) (N - j - 1) c else 10000) := rfl
  have e1 : es_jb Q M N i j c told 1 = (if i < M then 3 + es_k0 Q M N (M - i - 1) (N - j) c else 10000) := rfl
  have e2 : es_jb Q M N i j c told 2 = (if j < N then es_jm Q j + es_k0 Q M N (M - i) (N - j - 1) c else 10000) := rfl
  rw [e0, e1, e2]
  by_cases ci : i < M
  · by_cases cj : j < N
    · rw [if_pos ⟨ci, cj⟩, if_pos ci, if_pos cj, show M - i = (M - i - 1) + 1 by omega, show N - j = (N - j - 1) + 1 by omega, es_k1_in, show M - (M - i - 1 + 1) = i by omega, show N - (N - j - 1 + 1) = j by omega]
      rfl
    · rw [if_neg (by omega), if_pos ci, if_neg cj, show N - j = 0 by omega, es_k0_0, es_k1_0]
      omega
  · rw [if_neg (by omega), if_neg ci, if_pos (by omega), show M - i = 0 by omega, show N - j = (N - j - 1) + 1 by omega, es_k1_m, es_k0_m, show N - (N - j - 1 + 1) = j by omega]
    have h1 := (es_k_r Q M N 0 (N - j - 1)).1 c
    have h2 := es_jm_r Q j
    show min 10000 (min 10000 (es_jm Q j + es_k0 Q M N 0 (N - j - 1) c)) = _
    omega
theorem es_jb_le {Q : Nat → Nat → Int} {M N i j : Nat} (hM : M ≤ 24) (hN : N ≤ 24) (c told act : Int) : 0 ≤ es_jb Q M N i j c told act ∧ es_jb Q M N i j c told act ≤ 10000 := by
  unfold es_jb
  have a1 := (es_k_r Q M N (M - i - 1) (N - j - 1)).1 c
  have a2 := (es_k_r Q M N (M - i - 1) (N - j)).1 c
  have a3 := (es_k_r Q M N (M - i) (N - j - 1)).1 c
  have a4 := (es_k_r Q M N (M - i) (N - j)).2 (act - 15)
  have a5 := es_jh_r Q i j c
  have a6 := es_jm_r Q j
  repeat' split
  all_goals omega
theorem es_jb_min {Q : Nat → Nat → Int} {M N i j : Nat} (hM : M ≤ 24) (hN : N ≤ 24) (hi : i ≤ M) (hj : j ≤ N) (hne : ¬ (i = M ∧ j = N)) {c told : Int} (hc : -12 ≤ c ∧ c ≤ 12) (ht : told = 0 ∨ told = 1) : es_fd es_on 10000 (es_jb Q M N i j c told) 0 28 = es_kt Q M N told (M - i) (N - j) c := by
  have h3 := es_jb3 (Q := Q) hM hN hi hj hne c told
  have hD : ∀ act, es_jb Q M N i j c told act ≤ 10000 := fun act => (es_jb_le hM hN c told act).2
  have hs : es_fd es_on 10000 (es_jb Q M N i j c told) 0 28 = es_on (es_fd es_on 10000 (es_jb Q M N i j c told) 0 3) (es_fd es_on 10000 (es_jb Q M N i j c told) (0 + ((3 : Nat) : Int)) 25) := es_fd_add es_mi hD 0 3 25
  have h30 : es_fd es_on 10000 (es_jb Q M N i j c told) 0 3 = es_k1 Q M N (M - i) (N - j) c := by
    rw [← h3]
    show min (min (min 10000 (es_jb Q M N i j c told (0 + ((0 : Nat) : Int)))) (es_jb Q M N i j c told (0 + ((1 : Nat) : Int)))) (es_jb Q M N i j c told (0 + ((2 : Nat) : Int))) = _
    rw [show (0 : Int) + ((0 : Nat) : Int) = 0 by omega, show (0 : Int) + ((1 : Nat) : Int) = 1 by omega, show (0 : Int) + ((2 : Nat) : Int) = 2 by omega]
    have := hD 0
    omega
  have hsh : es_fd es_on 10000 (es_jb Q M N i j c told) (0 + ((3 : Nat) : Int)) 25 = es_fd es_on 10000 (fun d => es_jb Q M N i j c told (15 + d)) (-12) 25 := by
    rw [es_fd_sh 15 (-12) 25, show (15 : Int) + -12 = 0 + ((3 : Nat) : Int) by omega]
  have hg : ∀ d, -12 ≤ d → d < -12 + ((25 : Nat) : Int) → es_jb Q M N i j c told (15 + d) = (if told = 0 ∧ i < M ∧ d ≠ c then 3 + es_k1 Q M N (M - i) (N - j) d else 10000) := by
    intro d d1 d2
    unfold es_jb
    rw [if_neg (by omega), if_neg (by omega), if_neg (by omega), show 15 + d - 15 = d by omega]
  have hk1 := (es_k_r Q M N (M - i) (N - j)).2
  rw [hs, h30, hsh]
  unfold es_kt
  by_cases c1 : told = 0 ∧ i < M
  · rw [if_pos c1.1]
    have e1 : es_fd es_on 10000 (fun d => es_jb Q M N i j c told (15 + d)) (-12) 25 = es_fd es_on 10000 (fun d => if d = c then 10000 else 3 + es_k1 Q M N (M - i) (N - j) d) (-12) 25 := by
      refine es_fd_cg 25 (fun d d1 d2 => ?_)
      show es_jb Q M N i j c told (15 + d) = if d = c then 10000 else 3 + es_k1 Q M N (M - i) (N - j) d
      rw [hg d d1 d2]
      by_cases e : d = c
      · rw [if_pos e, if_neg (fun z => z.2.2 e)]
      · rw [if_neg e, if_pos ⟨c1.1, c1.2, e⟩]
    have e2 := es_fd_pt es_mi (f := fun d => 3 + es_k1 Q M N (M - i) (N - j) d) (fun d => by have := hk1 d; show 3 + es_k1 Q M N (M - i) (N - j) d ≤ 10000; omega) (a := -12) (c := c) 25 hc.1 (by omega)
    have e3 := es_fn_3 (f := es_k1 Q M N (M - i) (N - j)) (a := -12) (fun d => by have := hk1 d; omega) 24
    have e4 : es_on (es_fd es_on 10000 (fun x => if x = c then 10000 else 3 + es_k1 Q M N (M - i) (N - j) x) (-12) 25) (3 + es_k1 Q M N (M - i) (N - j) c) = 3 + es_fd es_on 10000 (es_k1 Q M N (M - i) (N - j)) (-12) 25 := e2.trans e3
    rw [e1]
    unfold es_on at e4 ⊢
    by_cases cj : j < N
    · have e5 := es_k0_in Q M N (M - i - 1) (N - j - 1) c
      rw [show M - i - 1 + 1 = M - i by omega, show N - j - 1 + 1 = N - j by omega] at e5
      rw [e5]
      unfold es_on
      omega
    · have z1 : ∀ d, es_k1 Q M N (M - i) (N - j) d = 3 * ((M - i : Nat) : Int) := by
        intro d
        rw [show N - j = 0 by omega, es_k1_0]
      have z2 : es_k0 Q M N (M - i) (N - j) c = 3 * ((M - i : Nat) : Int) := by rw [show N - j = 0 by omega, es_k0_0]
      have z3 := es_fn_ge (f := fun d => if d = c then 10000 else 3 + es_k1 Q M N (M - i) (N - j) d) (a := -12) (b := 3 * ((M - i : Nat) : Int)) (by omega) (fun d => by
        show 3 * ((M - i : Nat) : Int) ≤ if d = c then 10000 else 3 + es_k1 Q M N (M - i) (N - j) d
        split
        · omega
        · have := z1 d
          omega) 25
      rw [z2]
      have z4 := z1 c
      unfold es_on at z3
      omega
  · have e1 : es_fd es_on 10000 (fun d => es_jb Q M N i j c told (15 + d)) (-12) 25 = 10000 := by
      refine es_fd_e es_mi 25 (fun d d1 d2 => ?_)
      show es_jb Q M N i j c told (15 + d) = 10000
      rw [hg d d1 d2, if_neg (fun z => c1 ⟨z.1, z.2.1⟩)]
    rw [e1]
    have h5 := hk1 c
    have h6 : es_on (es_k1 Q M N (M - i) (N - j) c) 10000 = es_k1 Q M N (M - i) (N - j) c := by unfold es_on; omega
    rw [h6]
    by_cases ct : told = 0
    · rw [if_pos ct, show M - i = 0 by omega]
      rfl
    · rw [if_neg ct]
theorem es_fn_at {f : Int → Int} {a : Int} : ∀ m : Nat, es_fd es_on 10000 f a m < 10000 → ∃ x, a ≤ x ∧ x < a + (m : Int) ∧ f x = es_fd es_on 10000 f a m
  | 0, h => by
    have h1 : (10000 : Int) < 10000 := h
    omega
  | m + 1, h => by
    have e : es_fd es_on 10000 f a (m + 1) = min (es_fd es_on 10000 f a m) (f (a + m)) := rfl
    rw [e] at h ⊢
    by_cases c : f (a + m) ≤ es_fd es_on 10000 f a m
    · exact ⟨a + m, by omega, by omega, by omega⟩
    · obtain ⟨x, h1, h2, h3⟩ := es_fn_at (f := f) (a := a) m (by omega)
      exact ⟨x, h1, by omega, by omega⟩
