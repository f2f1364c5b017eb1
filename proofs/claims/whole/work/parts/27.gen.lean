theorem am_mem_iff {a : Nat} : ∀ {l : List Nat}, am_mem a l = true ↔ a ∈ l
  | [] => by simp [am_mem]
  | b :: l => by
    have ih := @am_mem_iff a l
    show (match Nat.beq b a with | true => true | false => am_mem a l) = true ↔ a ∈ b :: l
    cases h : Nat.beq b a with
    | true =>
      have e := Nat.eq_of_beq_eq_true h
      exact ⟨fun _ => e ▸ List.mem_cons_self, fun _ => rfl⟩
    | false =>
      have e := Nat.ne_of_beq_eq_false h
      refine ⟨fun z => List.mem_cons_of_mem _ (ih.1 z), fun z => ?_⟩
      rcases List.mem_cons.1 z with z | z
      · exact absurd z.symm e
      · exact ih.2 z
theorem am_fr.wd {I I' : am_I} {l l' : List Nat} (h : am_fr I I' l) (hs : l.all (fun k => am_mem k l') = true) : am_fr I I' l' := by
  intro a ha
  refine h a ?_
  cases hc : am_mem a l with
  | false => rfl
  | true =>
    have h1 := List.all_eq_true.1 hs a (am_mem_iff.1 hc)
    rw [ha] at h1
    cases h1
def am_drop (ks : List Nat) : List (Nat × am_v) → List (Nat × am_v)
  | [] => []
  | x :: l => match am_mem x.1 ks with
    | true => am_drop ks l
    | false => x :: am_drop ks l
theorem am_drop_sub (ks : List Nat) : ∀ (lv : List (Nat × am_v)) (q : Nat × am_v), q ∈ am_drop ks lv → q ∈ lv
  | [], q, h => h
  | x :: l, q, h => by
    unfold am_drop at h
    split at h
    · exact List.mem_cons_of_mem _ (am_drop_sub ks l q h)
    · rcases List.mem_cons.1 h with h | h
      · exact List.mem_cons.2 (Or.inl h)
      · exact List.mem_cons_of_mem _ (am_drop_sub ks l q h)
theorem am_wk (ks : List Nat) {d : Nat} {y : am_Y} {Po : Option am_v → am_I → Prop} {pc : Nat} {lv : List (Nat × am_v)} {st : List am_v} {I : am_I} (k : am_V d y Po pc (am_drop ks lv) st I) : am_V d y Po pc lv st I := am_weak (am_drop_sub ks lv) k
def es_vs (J : am_I) (p t : Int) : Prop := (0 ≤ t ∧ t ≤ p ∧ t ≤ J 7 5) ∨ t = 16 ∨ t = 17
noncomputable def es_if (P : Prop) (a b : Int) : Int := @ite Int P (Classical.propDecidable P) a b
theorem es_if_t {P : Prop} {a b : Int} (h : P) : es_if P a b = a := by
  unfold es_if
  exact if_pos h
theorem es_if_f {P : Prop} {a b : Int} (h : ¬ P) : es_if P a b = b := by
  unfold es_if
  exact if_neg h
theorem es_if_c {P Q : Prop} {a b : Int} (h : P ↔ Q) : es_if P a b = es_if Q a b := by
  by_cases c : P
  · rw [es_if_t c, es_if_t (h.1 c)]
  · rw [es_if_f c, es_if_f (fun z => c (h.2 z))]
def es_fd (op : Int → Int → Int) (e : Int) (f : Int → Int) (a : Int) : Nat → Int
  | 0 => e
  | m + 1 => op (es_fd op e f a m) (f (a + m))
def es_mn (op : Int → Int → Int) (e : Int) (D : Int → Prop) : Prop := D e ∧ (∀ x y, D x → D y → D (op x y)) ∧ (∀ x y z, D x → D y → D z → op (op x y) z = op x (op y z)) ∧ (∀ x y, D x → D y → op x y = op y x) ∧ (∀ x, D x → op e x = x)
theorem es_mn_r {op : Int → Int → Int} {e : Int} {D : Int → Prop} (h : es_mn op e D) {x : Int} (hx : D x) : op x e = x := by
  rw [h.2.2.2.1 _ _ hx h.1, h.2.2.2.2 _ hx]
theorem es_fd_D {op : Int → Int → Int} {e : Int} {D : Int → Prop} (h : es_mn op e D) {f : Int → Int} (hf : ∀ x, D (f x)) {a : Int} : ∀ m : Nat, D (es_fd op e f a m)
  | 0 => h.1
  | m + 1 => h.2.1 _ _ (es_fd_D h hf m) (hf _)
theorem es_fd_cg {op : Int → Int → Int} {e : Int} {f g : Int → Int} {a : Int} : ∀ m : Nat, (∀ x, a ≤ x → x < a + (m : Int) → f x = g x) → es_fd op e f a m = es_fd op e g a m
  | 0, _ => rfl
  | m + 1, h => by
    show op (es_fd op e f a m) (f (a + m)) = op (es_fd op e g a m) (g (a + m))
    rw [es_fd_cg m (fun x h1 h2 => h x h1 (by omega)), h (a + m) (by omega) (by omega)]
theorem es_fd_add {op : Int → Int → Int} {e : Int} {D : Int → Prop} (h : es_mn op e D) {f : Int → Int} (hf : ∀ x, D (f x)) (a : Int) (m : Nat) : ∀ k : Nat, es_fd op e f a (m + k) = op (es_fd op e f a m) (es_fd op e f (a + m) k)
  | 0 => by
    show es_fd op e f a m = op (es_fd op e f a m) e
    rw [es_mn_r h (es_fd_D h hf m)]
  | k + 1 => by
    show op (es_fd op e f a (m + k)) (f (a + ((m + k : Nat) : Int))) = op (es_fd op e f a m) (op (es_fd op e f (a + m) k) (f (a + m + k)))
    rw [es_fd_add h hf a m k, h.2.2.1 _ _ _ (es_fd_D h hf m) (es_fd_D h hf k) (hf _), show a + ((m + k : Nat) : Int) = a + m + k by omega]
theorem es_fd_e {op : Int → Int → Int} {e : Int} {D : Int → Prop} (h : es_mn op e D) {f : Int → Int} {a : Int} : ∀ m : Nat, (∀ x, a ≤ x → x < a + (m : Int) → f x = e) → es_fd op e f a m = e
  | 0, _ => rfl
  | m + 1, hx => by
    show op (es_fd op e f a m) (f (a + m)) = e
    rw [es_fd_e h m (fun x h1 h2 => hx x h1 (by omega)), hx (a + m) (by omega) (by omega), h.2.2.2.2 _ h.1]
theorem es_fd_ext {op : Int → Int → Int} {e : Int} {D : Int → Prop} (h : es_mn op e D) {f : Int → Int} (hf : ∀ x, D (f x)) {a A : Int} {m M : Nat} (h1 : A ≤ a) (h2 : a + m ≤ A + M) (ho : ∀ x, A ≤ x → x < A + (M : Int) → (x < a ∨ a + (m : Int) ≤ x) → f x = e) : es_fd op e f A M = es_fd op e f a m := by
  obtain ⟨k, hk⟩ : ∃ k : Nat, a = A + k := ⟨(a - A).toNat, by omega⟩
  obtain ⟨r, hr⟩ : ∃ r : Nat, M = k + m + r := ⟨M - (k + m), by omega⟩
  subst hk hr
  have e1 : es_fd op e f A k = e := es_fd_e h k (fun x h3 h4 => ho x h3 (by omega) (Or.inl h4))
  have e2 : es_fd op e f (A + ((k + m : Nat) : Int)) r = e := es_fd_e h r (fun x h3 h4 => ho x (by omega) (by omega) (Or.inr (by omega)))
  rw [es_fd_add h hf A (k + m) r, e2, es_fd_add h hf A k m, e1, h.2.2.2.2 _ (es_fd_D h hf m), es_mn_r h (es_fd_D h hf m)]
theorem es_fd_pt {op : Int → Int → Int} {e : Int} {D : Int → Prop} (h : es_mn op e D) {f : Int → Int} (hf : ∀ x, D (f x)) {a c : Int} : ∀ m : Nat, a ≤ c → c < a + (m : Int) → op (es_fd op e (fun x => if x = c then e else f x) a m) (f c) = es_fd op e f a m
  | 0, h1, h2 => by omega
  | m + 1, h1, h2 => by
    have hg : ∀ x, D (if x = c then e else f x) := by
      intro x
      split
      · exact h.1
      · exact hf x
    have hd := es_fd_D h (f := fun x => if x = c then e else f x) hg (a := a) m
    show op (op (es_fd op e (fun x => if x = c then e else f x) a m) (if a + (m : Int) = c then e else f (a + m))) (f c) = op (es_fd op e f a m) (f (a + m))
    by_cases hc : a + (m : Int) = c
    · have e1 : es_fd op e (fun x => if x = c then e else f x) a m = es_fd op e f a m := es_fd_cg m (fun x h3 h4 => if_neg (by omega))
      rw [if_pos hc, e1, es_mn_r h (es_fd_D h hf m), hc]
    · rw [if_neg hc, h.2.2.1 _ _ _ hd (hf _) (hf _), h.2.2.2.1 _ _ (hf (a + m)) (hf c), ← h.2.2.1 _ _ _ hd (hf _) (hf _), es_fd_pt h hf m h1 (by omega)]
theorem es_fd_sh {op : Int → Int → Int} {e : Int} {f : Int → Int} (p a : Int) : ∀ m : Nat, es_fd op e (fun s => f (p + s)) a m = es_fd op e f (p + a) m
  | 0 => rfl
  | m + 1 => by
    show op (es_fd op e (fun s => f (p + s)) a m) (f (p + (a + m))) = op (es_fd op e f (p + a) m) (f (p + a + m))
    rw [es_fd_sh p a m, show p + (a + (m : Int)) = p + a + m by omega]
def es_T (t : Int) : Int := if t = 0 then 0 else if t = 16 then 1 else if t = 17 then 2 else t + 2
theorem es_T_c (t : Int) : (t = 0 ∧ es_T t = 0) ∨ (t = 16 ∧ es_T t = 1) ∨ (t = 17 ∧ es_T t = 2) ∨ ((t ≠ 0 ∧ t ≠ 16 ∧ t ≠ 17) ∧ es_T t = t + 2) := by
  unfold es_T
  repeat' split
  all_goals omega
theorem es_nx_c (lp t s : Int) : (s = 0 ∧ es_nx lp t s = min (t + 1) 15) ∨ ((s ≠ 0 ∧ lp ≤ s) ∧ es_nx lp t s = 16) ∨ ((s ≠ 0 ∧ ¬ lp ≤ s ∧ s ≤ -lp) ∧ es_nx lp t s = 17) ∨ ((s ≠ 0 ∧ ¬ lp ≤ s ∧ ¬ s ≤ -lp) ∧ es_nx lp t s = 0) := by
  unfold es_nx
  repeat' split
  all_goals omega
theorem es_key {stp lp rp t : Int} (s : Int) (hl : 1 ≤ lp ∧ lp ≤ 13) (hr : 0 ≤ rp ∧ rp ≤ 15) (ht : 0 ≤ t ∧ t ≤ 17) (hv : 16 ≤ t ∨ t ≤ rp) : (es_may stp rp t s → es_bh stp lp rp (es_T t) s = es_T (es_nx lp t s) ∧ es_T (es_nx lp t s) ≠ -1) ∧ (¬ es_may stp rp t s → es_bh stp lp rp (es_T t) s = -1) := by
  have hb := es_sb_01 stp s
  have h1 := es_T_c t
  have h2 := es_nx_c lp t s
  have h3 := es_T_c (es_nx lp t s)
  unfold es_may es_bh
  generalize es_T (es_nx lp t s) = v at *
  generalize es_nx lp t s = w at *
  generalize es_T t = u at *
  generalize es_sb stp s = b at *
  constructor
  · intro h
    repeat' split
    all_goals omega
  · intro h
    repeat' split
    all_goals omega
noncomputable def es_B (sf : Int → Int → Int) (g : Int → Int → Int) (e lo hi stp lp rp p t s : Int) : Int := es_if (lo ≤ p + s ∧ p + s ≤ hi ∧ es_may stp rp t s) (sf s (g (p + s) (es_T (es_nx lp t s)))) e
theorem es_B_D {D : Int → Prop} {sf : Int → Int → Int} {g : Int → Int → Int} {e : Int} (he : D e) (hg : ∀ s q u, D (sf s (g q u))) (lo hi stp lp rp p t s : Int) : D (es_B sf g e lo hi stp lp rp p t s) := by
  unfold es_B
  by_cases c : (lo ≤ p + s ∧ p + s ≤ hi ∧ es_may stp rp t s)
  · rw [es_if_t c]; exact hg _ _ _
  · rw [es_if_f c]; exact he
theorem es_qc {op : Int → Int → Int} {e : Int} {D : Int → Prop} (h : es_mn op e D) {sf : Int → Int → Int} {g : Int → Int → Int} (hg : ∀ s q u, D (sf s (g q u))) {lo hi stp lp rp p t : Int} (hlo : lo ≤ p ∧ p ≤ hi ∧ hi - lo ≤ 36) (hl : 1 ≤ lp ∧ lp ≤ 13) (hr : 0 ≤ rp ∧ rp ≤ 15) (ht : 0 ≤ t ∧ t ≤ 17) (hv : 16 ≤ t ∨ t ≤ rp) :
    es_fd op e (fun q => if es_bh stp lp rp (es_T t) (q - p) = -1 then e else sf (q - p) (g q (es_bh stp lp rp (es_T t) (q - p)))) lo (hi + 1 - lo).toNat = es_fd op e (fun s => es_B sf g e lo hi stp lp rp p t s) (-12) 25 := by
  have hF : ∀ x, D (es_B sf g e lo hi stp lp rp p t (x - p)) := fun x => es_B_D h.1 hg _ _ _ _ _ _ _ _
  have e1 : es_fd op e (fun q => if es_bh stp lp rp (es_T t) (q - p) = -1 then e else sf (q - p) (g q (es_bh stp lp rp (es_T t) (q - p)))) lo (hi + 1 - lo).toNat = es_fd op e (fun x => es_B sf g e lo hi stp lp rp p t (x - p)) lo (hi + 1 - lo).toNat := by
    refine es_fd_cg _ (fun x h1 h2 => ?_)
    show (if es_bh stp lp rp (es_T t) (x - p) = -1 then e else sf (x - p) (g x (es_bh stp lp rp (es_T t) (x - p)))) = es_B sf g e lo hi stp lp rp p t (x - p)
    unfold es_B
    have hk := es_key (stp := stp) (x - p) hl hr ht hv
    by_cases c : es_may stp rp t (x - p)
    · obtain ⟨k1, k2⟩ := hk.1 c
      rw [es_if_t ⟨by omega, by omega, c⟩, k1, if_neg k2, show p + (x - p) = x by omega]
    · rw [es_if_f (fun z => c z.2.2), if_pos (hk.2 c)]
  have e2 : es_fd op e (fun s => es_B sf g e lo hi stp lp rp p t s) (-12) 25 = es_fd op e (fun x => es_B sf g e lo hi stp lp rp p t (x - p)) (p + (-12)) 25 := by
    rw [← es_fd_sh p (-12) 25]
    refine es_fd_cg _ (fun x h1 h2 => ?_)
    show es_B sf g e lo hi stp lp rp p t x = es_B sf g e lo hi stp lp rp p t (p + x - p)
    rw [show p + x - p = x by omega]
  have hb : ∀ x, es_B sf g e lo hi stp lp rp p t (x - p) = e ∨ ((lo ≤ x ∧ x ≤ hi) ∧ (-12 ≤ x - p ∧ x - p ≤ 12)) := by
    intro x
    unfold es_B
    by_cases c : (lo ≤ p + (x - p) ∧ p + (x - p) ≤ hi ∧ es_may stp rp t (x - p))
    · exact Or.inr ⟨by omega, c.2.2.1⟩
    · exact Or.inl (es_if_f c)
  have e3 : es_fd op e (fun x => es_B sf g e lo hi stp lp rp p t (x - p)) (p - 40) 81 = es_fd op e (fun x => es_B sf g e lo hi stp lp rp p t (x - p)) lo (hi + 1 - lo).toNat := by
    refine es_fd_ext h hF (by omega) (by omega) (fun x h1 h2 h3 => ?_)
    rcases hb x with c | c
    · exact c
    · omega
  have e4 : es_fd op e (fun x => es_B sf g e lo hi stp lp rp p t (x - p)) (p - 40) 81 = es_fd op e (fun x => es_B sf g e lo hi stp lp rp p t (x - p)) (p + (-12)) 25 := by
    refine es_fd_ext h hF (by omega) (by omega) (fun x h1 h2 h3 => ?_)
    rcases hb x with c | c
    · exact c
    · omega
  rw [e1, e2, ← e3, e4]
theorem es_qc_z {op : Int → Int → Int} {e : Int} {D : Int → Prop} (h : es_mn op e D) {sf : Int → Int → Int} {g : Int → Int → Int} (hg : ∀ s q u, D (sf s (g q u))) {lo hi stp lp rp p t : Int} (ht : 0 ≤ t ∧ t ≤ 15) :
    es_fd op e (fun s => es_B sf g e lo hi stp lp rp p t s) (-12) 25 = op (es_fd op e (fun s => if s = 0 then e else es_B sf g e lo hi stp lp rp p 0 s) (-12) 25) (es_B sf g e lo hi stp lp rp p t 0) := by
  rw [← es_fd_pt h (f := fun s => es_B sf g e lo hi stp lp rp p t s) (fun s => es_B_D h.1 hg _ _ _ _ _ _ _ _) (a := -12) (c := 0) 25 (by omega) (by omega)]
  congr 1
  refine es_fd_cg _ (fun x h1 h2 => ?_)
  show (if x = 0 then e else es_B sf g e lo hi stp lp rp p t x) = (if x = 0 then e else es_B sf g e lo hi stp lp rp p 0 x)
  by_cases c : x = 0
  · rw [if_pos c, if_pos c]
  · rw [if_neg c, if_neg c]
    have hn : es_nx lp t x = es_nx lp 0 x := by
      have h3 := es_nx_c lp t x
      have h4 := es_nx_c lp 0 x
      omega
    have hm : es_may stp rp t x ↔ es_may stp rp 0 x := by
      unfold es_may
      omega
    unfold es_B
    rw [hn]
    exact es_if_c ⟨fun z => ⟨z.1, z.2.1, hm.1 z.2.2⟩, fun z => ⟨z.1, z.2.1, hm.2 z.2.2⟩⟩
theorem es_qc_2 {op : Int → Int → Int} {e : Int} {D : Int → Prop} (h : es_mn op e D) {f : Int → Int} (hf : ∀ x, D (f x)) (a : Int) (ha : -12 ≤ a ∧ a ≤ 11) (ho : ∀ x, x < a ∨ a + 1 < x → f x = e) : es_fd op e f (-12) 25 = op (f a) (f (a + 1)) := by
  have e1 : es_fd op e f (-12) 25 = es_fd op e f a 2 := es_fd_ext h hf (by omega) (by omega) (fun x h1 h2 h3 => ho x (by omega))
  rw [e1]
  show op (op e (f (a + ((0 : Nat) : Int)))) (f (a + ((1 : Nat) : Int))) = _
  rw [h.2.2.2.2 _ (hf _), show a + ((0 : Nat) : Int) = a by omega, show a + ((1 : Nat) : Int) = a + 1 by omega]
theorem es_qc_u {op : Int → Int → Int} {e : Int} {D : Int → Prop} (h : es_mn op e D) {sf : Int → Int → Int} {g : Int → Int → Int} (hg : ∀ s q u, D (sf s (g q u))) {lo hi stp lp rp p : Int} :
    es_fd op e (fun s => es_B sf g e lo hi stp lp rp p 16 s) (-12) 25 = op (es_B sf g e lo hi stp lp rp p 16 (-2)) (es_B sf g e lo hi stp lp rp p 16 (-1)) := by
  refine es_qc_2 h (f := fun s => es_B sf g e lo hi stp lp rp p 16 s) (fun s => es_B_D h.1 hg _ _ _ _ _ _ _ _) (-2) (by omega) (fun x hx => ?_)
  unfold es_B
  refine es_if_f (fun z => ?_)
  have hz := z.2.2
  unfold es_may at hz
  omega
theorem es_qc_d {op : Int → Int → Int} {e : Int} {D : Int → Prop} (h : es_mn op e D) {sf : Int → Int → Int} {g : Int → Int → Int} (hg : ∀ s q u, D (sf s (g q u))) {lo hi stp lp rp p : Int} :
    es_fd op e (fun s => es_B sf g e lo hi stp lp rp p 17 s) (-12) 25 = op (es_B sf g e lo hi stp lp rp p 17 1) (es_B sf g e lo hi stp lp rp p 17 2) := by
  refine es_qc_2 h (f := fun s => es_B sf g e lo hi stp lp rp p 17 s) (fun s => es_B_D h.1 hg _ _ _ _ _ _ _ _) 1 (by omega) (fun x hx => ?_)
  unfold es_B
  refine es_if_f (fun z => ?_)
  have hz := z.2.2
  unfold es_may at hz
  omega
noncomputable def es_G (op : Int → Int → Int) (e one : Int) (sf : Int → Int → Int) (lo hi n sc be en stp lp rp : Int) : Nat → Int → Int → Int
  | 0, p, _ => es_if (es_fit sc be en n (n - 1) p) one e
  | m + 1, p, u => es_if (es_fit sc be en n (n - 1 - ((m + 1 : Nat) : Int)) p) (es_fd op e (fun q => if es_bh stp lp rp u (q - p) = -1 then e else sf (q - p) (es_G op e one sf lo hi n sc be en stp lp rp m q (es_bh stp lp rp u (q - p)))) lo (hi + 1 - lo).toNat) e
theorem es_G_D {op : Int → Int → Int} {e : Int} {D : Int → Prop} (h : es_mn op e D) {one : Int} (h1 : D one) {sf : Int → Int → Int} (hs : ∀ s x, D x → D (sf s x)) {lo hi n sc be en stp lp rp : Int} : ∀ (m : Nat) (p u : Int), D (es_G op e one sf lo hi n sc be en stp lp rp m p u)
  | 0, p, u => by
    show D (es_if (es_fit sc be en n (n - 1) p) one e)
    by_cases c : es_fit sc be en n (n - 1) p
    · rw [es_if_t c]; exact h1
    · rw [es_if_f c]; exact h.1
  | m + 1, p, u => by
    show D (es_if (es_fit sc be en n (n - 1 - ((m + 1 : Nat) : Int)) p) (es_fd op e (fun q => if es_bh stp lp rp u (q - p) = -1 then e else sf (q - p) (es_G op e one sf lo hi n sc be en stp lp rp m q (es_bh stp lp rp u (q - p)))) lo (hi + 1 - lo).toNat) e)
    by_cases c : es_fit sc be en n (n - 1 - ((m + 1 : Nat) : Int)) p
    · rw [es_if_t c]
      refine es_fd_D h (fun x => ?_) _
      split
      · exact h.1
      · exact hs _ _ (es_G_D h h1 hs m _ _)
    · rw [es_if_f c]; exact h.1
theorem es_G_no {op : Int → Int → Int} {e one : Int} {sf : Int → Int → Int} {lo hi n sc be en stp lp rp : Int} (m : Nat) (p u : Int) (hf : ¬ es_fit sc be en n (n - 1 - (m : Int)) p) : es_G op e one sf lo hi n sc be en stp lp rp m p u = e := by
  cases m with
  | zero =>
    show es_if (es_fit sc be en n (n - 1) p) one e = e
    rw [show n - 1 - ((0 : Nat) : Int) = n - 1 by omega] at hf
    exact es_if_f hf
  | succ m => exact es_if_f hf
theorem es_G_end {op : Int → Int → Int} {e one : Int} {sf : Int → Int → Int} {lo hi n sc be en stp lp rp : Int} (p u : Int) (hf : es_fit sc be en n (n - 1) p) : es_G op e one sf lo hi n sc be en stp lp rp 0 p u = one := es_if_t hf
theorem es_G_on {op : Int → Int → Int} {e one : Int} {sf : Int → Int → Int} {lo hi n sc be en stp lp rp : Int} (m : Nat) (p u : Int) (hf : es_fit sc be en n (n - 1 - ((m + 1 : Nat) : Int)) p) : es_G op e one sf lo hi n sc be en stp lp rp (m + 1) p u = es_fd op e (fun q => if es_bh stp lp rp u (q - p) = -1 then e else sf (q - p) (es_G op e one sf lo hi n sc be en stp lp rp m q (es_bh stp lp rp u (q - p)))) lo (hi + 1 - lo).toNat := es_if_t hf
def es_oc (a b : Int) : Int := min 1000000000000000000 (a + b)
def es_om (a b : Int) : Int := max a b
def es_id (_ x : Int) : Int := x
def es_Dc (x : Int) : Prop := 0 ≤ x ∧ x ≤ 1000000000000000000
def es_Dm (x : Int) : Prop := -1 ≤ x
theorem es_mc : es_mn es_oc 0 es_Dc := by
  unfold es_mn es_oc es_Dc
  refine ⟨by omega, fun x y hx hy => by omega, fun x y z hx hy hz => by omega, fun x y hx hy => by omega, fun x hx => by omega⟩
theorem es_mm : es_mn es_om (-1) es_Dm := by
  unfold es_mn es_om es_Dm
  refine ⟨by omega, fun x y hx hy => by omega, fun x y z hx hy hz => by omega, fun x y hx hy => by omega, fun x hx => by omega⟩
theorem es_ws_D {w : Nat → Int} (hw : ∀ j : Nat, j < 13 → 0 ≤ w j ∧ w j ≤ 1000000) (s x : Int) (hx : es_Dm x) : es_Dm (es_ws w s x) := by
  unfold es_Dm at hx ⊢
  unfold es_ws
  split
  · omega
  · have := hw (max s (-s)).toNat (by omega)
    omega
theorem es_Gc_D {lo hi n sc be en stp lp rp : Int} (m : Nat) (p u : Int) : 0 ≤ es_G es_oc 0 1 es_id lo hi n sc be en stp lp rp m p u ∧ es_G es_oc 0 1 es_id lo hi n sc be en stp lp rp m p u ≤ 1000000000000000000 := es_G_D es_mc (by unfold es_Dc; omega) (fun s x hx => hx) m p u
theorem es_Gw_D {w : Nat → Int} (hw : ∀ j : Nat, j < 13 → 0 ≤ w j ∧ w j ≤ 1000000) {lo hi n sc be en stp lp rp : Int} (m : Nat) (p u : Int) : -1 ≤ es_G es_om (-1) 0 (es_ws w) lo hi n sc be en stp lp rp m p u := es_G_D es_mm (by unfold es_Dm; omega) (es_ws_D hw) m p u
theorem es_fm_le {f : Int → Int} {a b : Int} (hb : -1 ≤ b) (hf : ∀ x, f x ≤ b) : ∀ m : Nat, es_fd es_om (-1) f a m ≤ b
  | 0 => hb
  | m + 1 => by
    show max (es_fd es_om (-1) f a m) (f (a + m)) ≤ b
    have h1 := es_fm_le (a := a) hb hf m
    have h2 := hf (a + m)
    omega
theorem es_Gw_le {w : Nat → Int} (hw : ∀ j : Nat, j < 13 → 0 ≤ w j ∧ w j ≤ 1000000) {lo hi n sc be en stp lp rp : Int} : ∀ (m : Nat) (p u : Int), es_G es_om (-1) 0 (es_ws w) lo hi n sc be en stp lp rp m p u ≤ 1000000 * (m : Int)
  | 0, p, u => by
    show es_if (es_fit sc be en n (n - 1) p) 0 (-1) ≤ _
    by_cases c : es_fit sc be en n (n - 1) p
    · rw [es_if_t c]; omega
    · rw [es_if_f c]; omega
  | m + 1, p, u => by
    by_cases c : es_fit sc be en n (n - 1 - ((m + 1 : Nat) : Int)) p
    · rw [es_G_on m p u c]
      refine es_fm_le (by omega) (fun x => ?_) _
      split
      · omega
      · have h1 := es_Gw_le hw (lo := lo) (hi := hi) (n := n) (sc := sc) (be := be) (en := en) (stp := stp) (lp := lp) (rp := rp) m x (es_bh stp lp rp u (x - p))
        generalize es_G es_om (-1) 0 (es_ws w) lo hi n sc be en stp lp rp m x (es_bh stp lp rp u (x - p)) = v at h1 ⊢
        unfold es_ws
        split
        · omega
        · have := hw (max (x - p) (-(x - p))).toNat (by omega)
          omega
    · rw [es_G_no (m + 1) p u c]; omega
theorem es_wsle {w : Nat → Int} (hw : ∀ j : Nat, j < 13 → 0 ≤ w j ∧ w j ≤ 1000000) {s x b : Int} (hb : -1 ≤ b) (hx : x ≤ b) : es_ws w s x ≤ b + 1000000 := by
  unfold es_ws
  split
  · omega
  · have := hw (max s (-s)).toNat (by omega)
    omega
