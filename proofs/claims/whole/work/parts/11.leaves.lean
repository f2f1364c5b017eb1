theorem c_outside (d : Nat) (v a b : Int) (I : am_I) (hv : (-2147483648 ≤ v ∧ v < 2147483648)) (ha : (-2147483648 ≤ a ∧ a < 2147483648)) (hb : (-2147483648 ≤ b ∧ b < 2147483648)) : am_C d Y_es_outside [.inl v, .inl a, .inl b] I (fun r I' => I' = I ∧ ((r = some (.inl 1) ∧ (v < a ∨ b < v)) ∨ (r = some (.inl 0) ∧ a ≤ v ∧ v ≤ b))) := by
  refine am_enter ok_es_outside rfl ?_
  repeat' (first
    | (refine am_gp 80 [] rfl (by first | trivial | exact Or.inl rfl | exact Or.inr rfl | (simp (decide := true) only [am_p, am_u_at, am_u_j, am_u_ne]; omega) | (simp (decide := true) only [am_p, and_true, true_and, true_or, or_true, am_u_at, am_u_j, am_u_ne]; omega) | (simp (decide := true) [am_p, am_u_at, am_u_j, am_u_ne]; omega)) ?_)
    | (show am_V _ _ _ _ _ _ _; simp only [Int.reduceToNat])
    | (refine am_bt rfl (by first | omega | (simp (decide := true) only [am_u_at, am_u_j, am_u_ne]; omega)) (by first | omega | (simp (decide := true) only [am_u_at, am_u_j, am_u_ne]; omega)) ?_)
    | (refine am_bf rfl (by first | omega | (simp (decide := true) only [am_u_at, am_u_j, am_u_ne]; omega)) (by first | omega | (simp (decide := true) only [am_u_at, am_u_j, am_u_ne]; omega)) ?_)
    | (refine am_br rfl (by first | omega | (simp (decide := true) only [am_u_at, am_u_j, am_u_ne]; omega)) (fun h => ?_) (fun h => ?_))
    | (refine am_rt rfl (by first | trivial | exact Or.inl rfl | exact Or.inr rfl) ?_))
  · exact ⟨rfl, Or.inl ⟨rfl, by omega⟩⟩
  · exact ⟨rfl, Or.inr ⟨rfl, by omega⟩⟩
  · exact ⟨rfl, Or.inl ⟨rfl, by omega⟩⟩
theorem c_capped (d : Nat) (a b : Int) (I : am_I) (ha : 0 ≤ a ∧ a ≤ 1000000000000000000) (hb : 0 ≤ b ∧ b ≤ 1000000000000000000) : am_C (d + 1) Y_es_cappedSum [.inr (.inl a), .inr (.inl b)] I (fun r I' => I' = I ∧ r = some (.inr (.inl (min 1000000000000000000 (a + b))))) := by
  refine am_enter ok_es_cappedSum rfl ?_
  repeat' (first
    | (refine am_gp 80 [] rfl (by first | trivial | exact Or.inl rfl | exact Or.inr rfl | (simp (decide := true) only [am_p, am_u_at, am_u_j, am_u_ne]; omega) | (simp (decide := true) only [am_p, and_true, true_and, true_or, or_true, am_u_at, am_u_j, am_u_ne]; omega) | (simp (decide := true) [am_p, am_u_at, am_u_j, am_u_ne]; omega)) ?_)
    | (show am_V _ _ _ _ _ _ _; simp only [Int.reduceToNat])
    | (refine am_bt rfl (by first | omega | (simp (decide := true) only [am_u_at, am_u_j, am_u_ne]; omega)) (by first | omega | (simp (decide := true) only [am_u_at, am_u_j, am_u_ne]; omega)) ?_)
    | (refine am_bf rfl (by first | omega | (simp (decide := true) only [am_u_at, am_u_j, am_u_ne]; omega)) (by first | omega | (simp (decide := true) only [am_u_at, am_u_j, am_u_ne]; omega)) ?_)
    | (refine am_br rfl (by first | omega | (simp (decide := true) only [am_u_at, am_u_j, am_u_ne]; omega)) (fun h => ?_) (fun h => ?_))
    | (refine am_minl rfl mk_es_234 rfl (by first | omega | (simp (decide := true) only [am_u_at, am_u_j, am_u_ne]; omega)) ?_)
    | (refine am_rt rfl (by first | trivial | exact Or.inl rfl | exact Or.inr rfl) ?_))
  exact ⟨rfl, rfl⟩
def es_bit (b p : Int) : Int := am_and (am_shr b (p % 12)) 1
theorem es_bit_01 (b p : Int) : es_bit b p = 0 ∨ es_bit b p = 1 := am_and_1 _
theorem c_hasClass (d : Nat) (b p : Int) (I : am_I) (hp : 0 ≤ p ∧ p < 2147483648) : am_C d Y_es_hasClass [.inl b, .inl p] I (fun r I' => I' = I ∧ ((r = some (.inl 1) ∧ es_bit b p = 1) ∨ (r = some (.inl 0) ∧ es_bit b p = 0))) := by
  refine am_enter ok_es_hasClass rfl ?_
  have hb := es_bit_01 b p
  unfold es_bit at hb ⊢
  repeat' (first
    | (refine am_gp 80 [] rfl (by first | trivial | exact Or.inl rfl | exact Or.inr rfl | (simp (decide := true) only [am_p, am_u_at, am_u_j, am_u_ne]; omega) | (simp (decide := true) only [am_p, and_true, true_and, true_or, or_true, am_u_at, am_u_j, am_u_ne]; omega) | (simp (decide := true) [am_p, am_u_at, am_u_j, am_u_ne]; omega)) ?_)
    | (show am_V _ _ _ _ _ _ _; simp only [Int.reduceToNat])
    | (refine am_bt rfl (by first | omega | (simp (decide := true) only [am_u_at, am_u_j, am_u_ne]; omega)) (by first | omega | (simp (decide := true) only [am_u_at, am_u_j, am_u_ne]; omega)) ?_)
    | (refine am_bf rfl (by first | omega | (simp (decide := true) only [am_u_at, am_u_j, am_u_ne]; omega)) (by first | omega | (simp (decide := true) only [am_u_at, am_u_j, am_u_ne]; omega)) ?_)
    | (refine am_br rfl (by first | omega | (simp (decide := true) only [am_u_at, am_u_j, am_u_ne]; omega)) (fun h => ?_) (fun h => ?_))
    | (refine am_rt rfl (by first | trivial | exact Or.inl rfl | exact Or.inr rfl) ?_))
  · exact ⟨rfl, Or.inr ⟨rfl, by omega⟩⟩
  · exact ⟨rfl, Or.inl ⟨rfl, by omega⟩⟩
theorem c_push_row (d : Nat) (x z : Int) (I : am_I) (hn : 0 ≤ I 1 2 ∧ I 1 2 < 24) : am_C d Y_no_push [.inr (.inr 1), .inl x, .inl z] I (fun r I' => r = none ∧ I' = am_u (am_u (am_u I 2 (I 1 2).toNat x) 3 (I 1 2).toNat z) 1 2 (I 1 2 + 1)) := by
  refine am_enter ok_no_push rfl ?_
  repeat' (first
    | (refine am_gp 80 [] rfl (by first | trivial | exact Or.inl rfl | exact Or.inr rfl | (simp (decide := true) only [am_p, am_u_at, am_u_j, am_u_ne]; omega) | (simp (decide := true) only [am_p, and_true, true_and, true_or, or_true, am_u_at, am_u_j, am_u_ne]; omega) | (simp (decide := true) [am_p, am_u_at, am_u_j, am_u_ne]; omega)) ?_)
    | (show am_V _ _ _ _ _ _ _; simp only [Int.reduceToNat])
    | (refine am_bt rfl (by first | omega | (simp (decide := true) only [am_u_at, am_u_j, am_u_ne]; omega)) (by first | omega | (simp (decide := true) only [am_u_at, am_u_j, am_u_ne]; omega)) ?_)
    | (refine am_bf rfl (by first | omega | (simp (decide := true) only [am_u_at, am_u_j, am_u_ne]; omega)) (by first | omega | (simp (decide := true) only [am_u_at, am_u_j, am_u_ne]; omega)) ?_)
    | (refine am_br rfl (by first | omega | (simp (decide := true) only [am_u_at, am_u_j, am_u_ne]; omega)) (fun h => ?_) (fun h => ?_))
    | (refine am_rt rfl (by first | trivial | exact Or.inl rfl | exact Or.inr rfl) ?_))
  refine ⟨rfl, ?_⟩
  simp (decide := true) only [am_u_at, am_u_j, am_u_ne]
theorem c_push_int (d : Nat) (x z : Int) (I : am_I) (hn : 0 ≤ I 4 2 ∧ I 4 2 < 24) : am_C d Y_no_push [.inr (.inr 4), .inl x, .inl z] I (fun r I' => r = none ∧ I' = am_u (am_u (am_u I 5 (I 4 2).toNat x) 6 (I 4 2).toNat z) 4 2 (I 4 2 + 1)) := by
  refine am_enter ok_no_push rfl ?_
  repeat' (first
    | (refine am_gp 80 [] rfl (by first | trivial | exact Or.inl rfl | exact Or.inr rfl | (simp (decide := true) only [am_p, am_u_at, am_u_j, am_u_ne]; omega) | (simp (decide := true) only [am_p, and_true, true_and, true_or, or_true, am_u_at, am_u_j, am_u_ne]; omega) | (simp (decide := true) [am_p, am_u_at, am_u_j, am_u_ne]; omega)) ?_)
    | (show am_V _ _ _ _ _ _ _; simp only [Int.reduceToNat])
    | (refine am_bt rfl (by first | omega | (simp (decide := true) only [am_u_at, am_u_j, am_u_ne]; omega)) (by first | omega | (simp (decide := true) only [am_u_at, am_u_j, am_u_ne]; omega)) ?_)
    | (refine am_bf rfl (by first | omega | (simp (decide := true) only [am_u_at, am_u_j, am_u_ne]; omega)) (by first | omega | (simp (decide := true) only [am_u_at, am_u_j, am_u_ne]; omega)) ?_)
    | (refine am_br rfl (by first | omega | (simp (decide := true) only [am_u_at, am_u_j, am_u_ne]; omega)) (fun h => ?_) (fun h => ?_))
    | (refine am_rt rfl (by first | trivial | exact Or.inl rfl | exact Or.inr rfl) ?_))
  refine ⟨rfl, ?_⟩
  simp (decide := true) only [am_u_at, am_u_j, am_u_ne]
theorem c_ju_forget (d : Nat) (I : am_I) : am_C d Y_ju_forget [.inr (.inr 23)] I (fun r J => r = none ∧ J = am_u I 23 9 0) := by
  refine am_enter ok_ju_forget rfl ?_
  repeat' (first
    | (refine am_gp 80 [] rfl (by first | trivial | exact Or.inl rfl | exact Or.inr rfl | (simp (decide := true) only [am_p, am_u_at, am_u_j, am_u_ne]; omega) | (simp (decide := true) only [am_p, and_true, true_and, true_or, or_true, am_u_at, am_u_j, am_u_ne]; omega) | (simp (decide := true) [am_p, am_u_at, am_u_j, am_u_ne]; omega)) ?_)
    | (show am_V _ _ _ _ _ _ _; simp only [Int.reduceToNat])
    | (refine am_bt rfl (by first | omega | (simp (decide := true) only [am_u_at, am_u_j, am_u_ne]; omega)) (by first | omega | (simp (decide := true) only [am_u_at, am_u_j, am_u_ne]; omega)) ?_)
    | (refine am_bf rfl (by first | omega | (simp (decide := true) only [am_u_at, am_u_j, am_u_ne]; omega)) (by first | omega | (simp (decide := true) only [am_u_at, am_u_j, am_u_ne]; omega)) ?_)
    | (refine am_br rfl (by first | omega | (simp (decide := true) only [am_u_at, am_u_j, am_u_ne]; omega)) (fun h => ?_) (fun h => ?_))
    | (refine am_rt rfl (by first | trivial | exact Or.inl rfl | exact Or.inr rfl) ?_))
  exact ⟨rfl, rfl⟩
theorem c_ct_forget (d : Nat) (I : am_I) : am_C d Y_mt_forget [.inr (.inr 9)] I (fun r J => r = none ∧ J = am_u I 9 2 0) := by
  refine am_enter ok_mt_forget rfl ?_
  repeat' (first
    | (refine am_gp 80 [] rfl (by first | trivial | exact Or.inl rfl | exact Or.inr rfl | (simp (decide := true) only [am_p, am_u_at, am_u_j, am_u_ne]; omega) | (simp (decide := true) only [am_p, and_true, true_and, true_or, or_true, am_u_at, am_u_j, am_u_ne]; omega) | (simp (decide := true) [am_p, am_u_at, am_u_j, am_u_ne]; omega)) ?_)
    | (show am_V _ _ _ _ _ _ _; simp only [Int.reduceToNat])
    | (refine am_bt rfl (by first | omega | (simp (decide := true) only [am_u_at, am_u_j, am_u_ne]; omega)) (by first | omega | (simp (decide := true) only [am_u_at, am_u_j, am_u_ne]; omega)) ?_)
    | (refine am_bf rfl (by first | omega | (simp (decide := true) only [am_u_at, am_u_j, am_u_ne]; omega)) (by first | omega | (simp (decide := true) only [am_u_at, am_u_j, am_u_ne]; omega)) ?_)
    | (refine am_br rfl (by first | omega | (simp (decide := true) only [am_u_at, am_u_j, am_u_ne]; omega)) (fun h => ?_) (fun h => ?_))
    | (refine am_rt rfl (by first | trivial | exact Or.inl rfl | exact Or.inr rfl) ?_))
  exact ⟨rfl, rfl⟩
theorem c_wt_forget (d : Nat) (I : am_I) : am_C d Y_mt_forget [.inr (.inr 11)] I (fun r J => r = none ∧ J = am_u I 11 2 0) := by
  refine am_enter ok_mt_forget rfl ?_
  repeat' (first
    | (refine am_gp 80 [] rfl (by first | trivial | exact Or.inl rfl | exact Or.inr rfl | (simp (decide := true) only [am_p, am_u_at, am_u_j, am_u_ne]; omega) | (simp (decide := true) only [am_p, and_true, true_and, true_or, or_true, am_u_at, am_u_j, am_u_ne]; omega) | (simp (decide := true) [am_p, am_u_at, am_u_j, am_u_ne]; omega)) ?_)
    | (show am_V _ _ _ _ _ _ _; simp only [Int.reduceToNat])
    | (refine am_bt rfl (by first | omega | (simp (decide := true) only [am_u_at, am_u_j, am_u_ne]; omega)) (by first | omega | (simp (decide := true) only [am_u_at, am_u_j, am_u_ne]; omega)) ?_)
    | (refine am_bf rfl (by first | omega | (simp (decide := true) only [am_u_at, am_u_j, am_u_ne]; omega)) (by first | omega | (simp (decide := true) only [am_u_at, am_u_j, am_u_ne]; omega)) ?_)
    | (refine am_br rfl (by first | omega | (simp (decide := true) only [am_u_at, am_u_j, am_u_ne]; omega)) (fun h => ?_) (fun h => ?_))
    | (refine am_rt rfl (by first | trivial | exact Or.inl rfl | exact Or.inr rfl) ?_))
  exact ⟨rfl, rfl⟩
theorem c_mo_in (d : Nat) (v a b : Int) (I : am_I) (hv : -9223372036854775808 ≤ v ∧ v < 9223372036854775808) (ha : -9223372036854775808 ≤ a ∧ a < 9223372036854775808) (hb : -9223372036854775808 ≤ b ∧ b < 9223372036854775808) : am_C d Y_mo_in [.inr (.inl v), .inr (.inl a), .inr (.inl b)] I (fun r I' => I' = I ∧ ((r = some (.inl 1) ∧ a ≤ v ∧ v ≤ b) ∨ (r = some (.inl 0) ∧ (v < a ∨ b < v)))) := by
  refine am_enter ok_mo_in rfl ?_
  repeat' (first
    | (refine am_gp 80 [] rfl (by first | trivial | exact Or.inl rfl | exact Or.inr rfl | (simp (decide := true) only [am_p, am_u_at, am_u_j, am_u_ne]; omega) | (simp (decide := true) only [am_p, and_true, true_and, true_or, or_true, am_u_at, am_u_j, am_u_ne]; omega) | (simp (decide := true) [am_p, am_u_at, am_u_j, am_u_ne]; omega)) ?_)
    | (show am_V _ _ _ _ _ _ _; simp only [Int.reduceToNat])
    | (refine am_bt rfl (by first | omega | (simp (decide := true) only [am_u_at, am_u_j, am_u_ne]; omega)) (by first | omega | (simp (decide := true) only [am_u_at, am_u_j, am_u_ne]; omega)) ?_)
    | (refine am_bf rfl (by first | omega | (simp (decide := true) only [am_u_at, am_u_j, am_u_ne]; omega)) (by first | omega | (simp (decide := true) only [am_u_at, am_u_j, am_u_ne]; omega)) ?_)
    | (refine am_br rfl (by first | omega | (simp (decide := true) only [am_u_at, am_u_j, am_u_ne]; omega)) (fun h => ?_) (fun h => ?_))
    | (refine am_rt rfl (by first | trivial | exact Or.inl rfl | exact Or.inr rfl) ?_))
  · exact ⟨rfl, Or.inr ⟨rfl, by omega⟩⟩
  · exact ⟨rfl, Or.inr ⟨rfl, by omega⟩⟩
  · exact ⟨rfl, Or.inl ⟨rfl, by omega⟩⟩
theorem c_mo_plus (d : Nat) (a b : Int) (I : am_I) (ha : 0 ≤ a ∧ a ≤ 1000000000000000000) (hb : 0 ≤ b ∧ b ≤ 1000000000000000000) : am_C d Y_mo_plus [.inr (.inl a), .inr (.inl b)] I (fun r I' => I' = I ∧ r = some (.inr (.inl (min 1000000000000000000 (a + b))))) := by
  refine am_enter ok_mo_plus rfl ?_
  repeat' (first
    | (refine am_gp 80 [] rfl (by first | trivial | exact Or.inl rfl | exact Or.inr rfl | (simp (decide := true) only [am_p, am_u_at, am_u_j, am_u_ne]; omega) | (simp (decide := true) only [am_p, and_true, true_and, true_or, or_true, am_u_at, am_u_j, am_u_ne]; omega) | (simp (decide := true) [am_p, am_u_at, am_u_j, am_u_ne]; omega)) ?_)
    | (show am_V _ _ _ _ _ _ _; simp only [Int.reduceToNat])
    | (refine am_bt rfl (by first | omega | (simp (decide := true) only [am_u_at, am_u_j, am_u_ne]; omega)) (by first | omega | (simp (decide := true) only [am_u_at, am_u_j, am_u_ne]; omega)) ?_)
    | (refine am_bf rfl (by first | omega | (simp (decide := true) only [am_u_at, am_u_j, am_u_ne]; omega)) (by first | omega | (simp (decide := true) only [am_u_at, am_u_j, am_u_ne]; omega)) ?_)
    | (refine am_br rfl (by first | omega | (simp (decide := true) only [am_u_at, am_u_j, am_u_ne]; omega)) (fun h => ?_) (fun h => ?_))
    | (refine am_rt rfl (by first | trivial | exact Or.inl rfl | exact Or.inr rfl) ?_))
  · refine ⟨rfl, ?_⟩; congr 3; omega
  · refine ⟨rfl, ?_⟩; congr 3; omega
theorem c_mo_hasClass (d : Nat) (b p : Int) (I : am_I) (hp : 0 ≤ p ∧ p < 2147483648) : am_C d Y_mo_hasClass [.inl b, .inl p] I (fun r I' => I' = I ∧ ((r = some (.inl 1) ∧ es_bit b p = 1) ∨ (r = some (.inl 0) ∧ es_bit b p = 0))) := by
  refine am_enter ok_mo_hasClass rfl ?_
  have hb := es_bit_01 b p
  unfold es_bit at hb ⊢
  repeat' (first
    | (refine am_gp 80 [] rfl (by first | trivial | exact Or.inl rfl | exact Or.inr rfl | (simp (decide := true) only [am_p, am_u_at, am_u_j, am_u_ne]; omega) | (simp (decide := true) only [am_p, and_true, true_and, true_or, or_true, am_u_at, am_u_j, am_u_ne]; omega) | (simp (decide := true) [am_p, am_u_at, am_u_j, am_u_ne]; omega)) ?_)
    | (show am_V _ _ _ _ _ _ _; simp only [Int.reduceToNat])
    | (refine am_bt rfl (by first | omega | (simp (decide := true) only [am_u_at, am_u_j, am_u_ne]; omega)) (by first | omega | (simp (decide := true) only [am_u_at, am_u_j, am_u_ne]; omega)) ?_)
    | (refine am_bf rfl (by first | omega | (simp (decide := true) only [am_u_at, am_u_j, am_u_ne]; omega)) (by first | omega | (simp (decide := true) only [am_u_at, am_u_j, am_u_ne]; omega)) ?_)
    | (refine am_br rfl (by first | omega | (simp (decide := true) only [am_u_at, am_u_j, am_u_ne]; omega)) (fun h => ?_) (fun h => ?_))
    | (refine am_rt rfl (by first | trivial | exact Or.inl rfl | exact Or.inr rfl) ?_))
  · exact ⟨rfl, Or.inr ⟨rfl, by omega⟩⟩
  · exact ⟨rfl, Or.inl ⟨rfl, by omega⟩⟩
theorem c_cellAt (d : Nat) (i p s : Int) (I : am_I) : am_C d Y_mo_cellAt [.inl i, .inl p, .inl s] I (fun r I' => I' = I ∧ r = some (.inl ((37 * i + p) * 18 + s))) := by
  refine am_enter ok_mo_cellAt rfl ?_
  repeat' (first
    | (refine am_gp 80 [] rfl (by first | trivial | exact Or.inl rfl | exact Or.inr rfl | (simp (decide := true) only [am_p, am_u_at, am_u_j, am_u_ne]; omega) | (simp (decide := true) only [am_p, and_true, true_and, true_or, or_true, am_u_at, am_u_j, am_u_ne]; omega) | (simp (decide := true) [am_p, am_u_at, am_u_j, am_u_ne]; omega)) ?_)
    | (show am_V _ _ _ _ _ _ _; simp only [Int.reduceToNat])
    | (refine am_bt rfl (by first | omega | (simp (decide := true) only [am_u_at, am_u_j, am_u_ne]; omega)) (by first | omega | (simp (decide := true) only [am_u_at, am_u_j, am_u_ne]; omega)) ?_)
    | (refine am_bf rfl (by first | omega | (simp (decide := true) only [am_u_at, am_u_j, am_u_ne]; omega)) (by first | omega | (simp (decide := true) only [am_u_at, am_u_j, am_u_ne]; omega)) ?_)
    | (refine am_br rfl (by first | omega | (simp (decide := true) only [am_u_at, am_u_j, am_u_ne]; omega)) (fun h => ?_) (fun h => ?_))
    | (refine am_rt rfl (by first | trivial | exact Or.inl rfl | exact Or.inr rfl) ?_))
  exact ⟨rfl, rfl⟩
theorem c_costAt (d : Nat) (i j c t : Int) (I : am_I) : am_C d Y_mo_costAt [.inl i, .inl j, .inl c, .inl t] I (fun r I' => I' = I ∧ r = some (.inl (((25 * i + j) * 25 + c + 12) * 2 + t))) := by
  refine am_enter ok_mo_costAt rfl ?_
  repeat' (first
    | (refine am_gp 80 [] rfl (by first | trivial | exact Or.inl rfl | exact Or.inr rfl | (simp (decide := true) only [am_p, am_u_at, am_u_j, am_u_ne]; omega) | (simp (decide := true) only [am_p, and_true, true_and, true_or, or_true, am_u_at, am_u_j, am_u_ne]; omega) | (simp (decide := true) [am_p, am_u_at, am_u_j, am_u_ne]; omega)) ?_)
    | (show am_V _ _ _ _ _ _ _; simp only [Int.reduceToNat])
    | (refine am_bt rfl (by first | omega | (simp (decide := true) only [am_u_at, am_u_j, am_u_ne]; omega)) (by first | omega | (simp (decide := true) only [am_u_at, am_u_j, am_u_ne]; omega)) ?_)
    | (refine am_bf rfl (by first | omega | (simp (decide := true) only [am_u_at, am_u_j, am_u_ne]; omega)) (by first | omega | (simp (decide := true) only [am_u_at, am_u_j, am_u_ne]; omega)) ?_)
    | (refine am_br rfl (by first | omega | (simp (decide := true) only [am_u_at, am_u_j, am_u_ne]; omega)) (fun h => ?_) (fun h => ?_))
    | (refine am_rt rfl (by first | trivial | exact Or.inl rfl | exact Or.inr rfl) ?_))
  exact ⟨rfl, rfl⟩
theorem c_lay (d : Nat) (i p l : Int) (I : am_I) (hi : 0 ≤ i ∧ i < 24) : am_C d Y_mo_lay [.inr (.inr 44), .inl i, .inl p, .inl l] I (fun r I' => r = none ∧ I' = am_u (am_u I 45 i.toNat p) 46 i.toNat l) := by
  refine am_enter ok_mo_lay rfl ?_
  repeat' (first
    | (refine am_gp 80 [] rfl (by first | trivial | exact Or.inl rfl | exact Or.inr rfl | (simp (decide := true) only [am_p, am_u_at, am_u_j, am_u_ne]; omega) | (simp (decide := true) only [am_p, and_true, true_and, true_or, or_true, am_u_at, am_u_j, am_u_ne]; omega) | (simp (decide := true) [am_p, am_u_at, am_u_j, am_u_ne]; omega)) ?_)
    | (show am_V _ _ _ _ _ _ _; simp only [Int.reduceToNat])
    | (refine am_bt rfl (by first | omega | (simp (decide := true) only [am_u_at, am_u_j, am_u_ne]; omega)) (by first | omega | (simp (decide := true) only [am_u_at, am_u_j, am_u_ne]; omega)) ?_)
    | (refine am_bf rfl (by first | omega | (simp (decide := true) only [am_u_at, am_u_j, am_u_ne]; omega)) (by first | omega | (simp (decide := true) only [am_u_at, am_u_j, am_u_ne]; omega)) ?_)
    | (refine am_br rfl (by first | omega | (simp (decide := true) only [am_u_at, am_u_j, am_u_ne]; omega)) (fun h => ?_) (fun h => ?_))
    | (refine am_rt rfl (by first | trivial | exact Or.inl rfl | exact Or.inr rfl) ?_))
  exact ⟨rfl, rfl⟩
theorem c_laid (d : Nat) (k : Int) (I : am_I) : am_C d Y_mo_laid [.inr (.inr 44), .inl k] I (fun r I' => r = none ∧ I' = am_u (am_u I 44 0 k) 44 6 0) := by
  refine am_enter ok_mo_laid rfl ?_
  repeat' (first
    | (refine am_gp 80 [] rfl (by first | trivial | exact Or.inl rfl | exact Or.inr rfl | (simp (decide := true) only [am_p, am_u_at, am_u_j, am_u_ne]; omega) | (simp (decide := true) only [am_p, and_true, true_and, true_or, or_true, am_u_at, am_u_j, am_u_ne]; omega) | (simp (decide := true) [am_p, am_u_at, am_u_j, am_u_ne]; omega)) ?_)
    | (show am_V _ _ _ _ _ _ _; simp only [Int.reduceToNat])
    | (refine am_bt rfl (by first | omega | (simp (decide := true) only [am_u_at, am_u_j, am_u_ne]; omega)) (by first | omega | (simp (decide := true) only [am_u_at, am_u_j, am_u_ne]; omega)) ?_)
    | (refine am_bf rfl (by first | omega | (simp (decide := true) only [am_u_at, am_u_j, am_u_ne]; omega)) (by first | omega | (simp (decide := true) only [am_u_at, am_u_j, am_u_ne]; omega)) ?_)
    | (refine am_br rfl (by first | omega | (simp (decide := true) only [am_u_at, am_u_j, am_u_ne]; omega)) (fun h => ?_) (fun h => ?_))
    | (refine am_rt rfl (by first | trivial | exact Or.inl rfl | exact Or.inr rfl) ?_))
  exact ⟨rfl, rfl⟩
