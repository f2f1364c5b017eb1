theorem am_min32' {x y : Int} (hx : -2147483648 ≤ x ∧ x < 2147483648) (hy : -2147483648 ≤ y ∧ y < 2147483648) : (if Int32.ofInt y < Int32.ofInt x then Int32.ofInt y else Int32.ofInt x) = Int32.ofInt (min x y) := by
  have h := am_lt32 hy hx
  by_cases c : y < x
  · rw [if_pos (h.mpr c)]; congr 1; omega
  · rw [if_neg (fun q => c (h.mp q))]; congr 1; omega
theorem am_max32' {x y : Int} (hx : -2147483648 ≤ x ∧ x < 2147483648) (hy : -2147483648 ≤ y ∧ y < 2147483648) : (if Int32.ofInt x < Int32.ofInt y then Int32.ofInt y else Int32.ofInt x) = Int32.ofInt (max x y) := by
  have h := am_lt32 hx hy
  by_cases c : x < y
  · rw [if_pos (h.mpr c)]; congr 1; omega
  · rw [if_neg (fun q => c (h.mp q))]; congr 1; omega
theorem am_min64' {x y : Int} (hx : -9223372036854775808 ≤ x ∧ x < 9223372036854775808) (hy : -9223372036854775808 ≤ y ∧ y < 9223372036854775808) : (if Int64.ofInt y < Int64.ofInt x then Int64.ofInt y else Int64.ofInt x) = Int64.ofInt (min x y) := by
  have h := am_lt64 hy hx
  by_cases c : y < x
  · rw [if_pos (h.mpr c)]; congr 1; omega
  · rw [if_neg (fun q => c (h.mp q))]; congr 1; omega
theorem am_max64' {x y : Int} (hx : -9223372036854775808 ≤ x ∧ x < 9223372036854775808) (hy : -9223372036854775808 ≤ y ∧ y < 9223372036854775808) : (if Int64.ofInt y < Int64.ofInt x then Int64.ofInt x else Int64.ofInt y) = Int64.ofInt (max x y) := by
  have h := am_lt64 hy hx
  by_cases c : y < x
  · rw [if_pos (h.mpr c)]; congr 1; omega
  · rw [if_neg (fun q => c (h.mp q))]; congr 1; omega
theorem am_abs32' {x : Int} (hx : -2147483648 ≤ x ∧ x < 2147483648) : (if 0 ≤ Int32.ofInt x then Int32.ofInt x else 0 - Int32.ofInt x) = Int32.ofInt (max x (-x)) := by
  have e0 : (0 : Int32) = Int32.ofInt 0 := by decide +kernel
  have h : (0 ≤ Int32.ofInt x) ↔ 0 ≤ x := by rw [e0]; exact am_le32 (by omega) hx
  by_cases c : 0 ≤ x
  · rw [if_pos (h.mpr c)]; congr 1; omega
  · rw [if_neg (fun q => c (h.mp q)), e0, ← Int32.ofInt_sub]; congr 1; omega
def am_mtk (own : String) (n : Nat) (x : MethodName) (bs : ByteArray) (mL : Nat) (ret : Option FieldType) : Prop := Jvm.Cond.methodLink own n x ∈ es_gt ∧ Jvm.Cond.static x ∈ es_gt ∧ Jvm.Cond.initialized "java/lang/Math" ∈ es_gt ∧ Jvm.Cond.code x bs mL ret ∈ es_gt
section AMM
variable {y : am_Y} {d : Nat} {pc nx tg n : Nat} {ax : Int} {lv : List (Nat × am_v)} {r : List am_v} {I : am_I} {Po : Option am_v → am_I → Prop} {a b : Int}
theorem am_mini (hat : am_at y.2.2.2.2.1 pc = some (.invokestatic n, nx, ax, tg)) (hlk : am_mtk y.1.cls n Lib.Math.min.name Lib.Math.min.code 2 (some .int)) (hrm : Nat.ble (am_sz r) 8 = true) (hp : (-2147483648 ≤ a ∧ a < 2147483648) ∧ (-2147483648 ≤ b ∧ b < 2147483648)) (kk : am_V (d + 1) y Po nx lv (.inl (min a b) :: r) I) : am_V (d + 1) y Po pc lv (.inl (b) :: .inl (a) :: r) I := by
  intro I0 p l e R s m args below meth c D ad ca tys A H0 Q hE H locs ls hP hD hS hl
  obtain ⟨⟨hx, hb, hml, hown⟩, hts, hN, hK, hT, hA, hR, hC, hk⟩ := hE.1
  obtain ⟨hd, hn, -⟩ := am_v1_sp rfl (am_chk_1 hk (am_at_mem hat))
  have hr8 := Nat.le_of_ble_eq_true hrm
  refine va_mmin hx hb (by rw [hml]; exact hl.1.symm) hown (hts _ hlk.1) (hts _ hlk.2.1) (hts _ hlk.2.2.1) (hts _ hlk.2.2.2) (by omega) (by rw [am_sz_cat]; omega) hC.1 hC.2 hd ?_
  rw [am_min32' hp.1 hp.2]
  have e3 : nx = pc + 3 := hn
  subst e3
  exact kk I0 p l e R s m args below meth c D ad ca tys A H0 Q hE H locs ls hP hD hS hl
theorem am_maxi (hat : am_at y.2.2.2.2.1 pc = some (.invokestatic n, nx, ax, tg)) (hlk : am_mtk y.1.cls n Lib.Math.max.name Lib.Math.max.code 2 (some .int)) (hrm : Nat.ble (am_sz r) 8 = true) (hp : (-2147483648 ≤ a ∧ a < 2147483648) ∧ (-2147483648 ≤ b ∧ b < 2147483648)) (kk : am_V (d + 1) y Po nx lv (.inl (max a b) :: r) I) : am_V (d + 1) y Po pc lv (.inl (b) :: .inl (a) :: r) I := by
  intro I0 p l e R s m args below meth c D ad ca tys A H0 Q hE H locs ls hP hD hS hl
  obtain ⟨⟨hx, hb, hml, hown⟩, hts, hN, hK, hT, hA, hR, hC, hk⟩ := hE.1
  obtain ⟨hd, hn, -⟩ := am_v1_sp rfl (am_chk_1 hk (am_at_mem hat))
  have hr8 := Nat.le_of_ble_eq_true hrm
  refine va_mmax hx hb (by rw [hml]; exact hl.1.symm) hown (hts _ hlk.1) (hts _ hlk.2.1) (hts _ hlk.2.2.1) (hts _ hlk.2.2.2) (by omega) (by rw [am_sz_cat]; omega) hC.1 hC.2 hd ?_
  rw [am_max32' hp.1 hp.2]
  have e3 : nx = pc + 3 := hn
  subst e3
  exact kk I0 p l e R s m args below meth c D ad ca tys A H0 Q hE H locs ls hP hD hS hl
theorem am_absi (hat : am_at y.2.2.2.2.1 pc = some (.invokestatic n, nx, ax, tg)) (hlk : am_mtk y.1.cls n Lib.Math.abs.name Lib.Math.abs.code 1 (some .int)) (hrm : Nat.ble (am_sz r) 8 = true) (hp : (-2147483648 ≤ a ∧ a < 2147483648)) (kk : am_V (d + 1) y Po nx lv (.inl (max a (-a)) :: r) I) : am_V (d + 1) y Po pc lv (.inl (a) :: r) I := by
  intro I0 p l e R s m args below meth c D ad ca tys A H0 Q hE H locs ls hP hD hS hl
  obtain ⟨⟨hx, hb, hml, hown⟩, hts, hN, hK, hT, hA, hR, hC, hk⟩ := hE.1
  obtain ⟨hd, hn, -⟩ := am_v1_sp rfl (am_chk_1 hk (am_at_mem hat))
  have hr8 := Nat.le_of_ble_eq_true hrm
  refine va_mabs hx hb (by rw [hml]; exact hl.1.symm) hown (hts _ hlk.1) (hts _ hlk.2.1) (hts _ hlk.2.2.1) (hts _ hlk.2.2.2) (by omega) (by rw [am_sz_cat]; omega) hC.1 hC.2 hd ?_
  rw [am_abs32' hp]
  have e3 : nx = pc + 3 := hn
  subst e3
  exact kk I0 p l e R s m args below meth c D ad ca tys A H0 Q hE H locs ls hP hD hS hl
theorem am_minl (hat : am_at y.2.2.2.2.1 pc = some (.invokestatic n, nx, ax, tg)) (hlk : am_mtk y.1.cls n Lib.MathLoose.min_long.x Lib.MathLoose.min_long.code 4 (some .long)) (hrm : Nat.ble (am_sz r) 8 = true) (hp : (-9223372036854775808 ≤ a ∧ a < 9223372036854775808) ∧ (-9223372036854775808 ≤ b ∧ b < 9223372036854775808)) (kk : am_V (d + 1) y Po nx lv (.inr (.inl (min a b)) :: r) I) : am_V (d + 1) y Po pc lv (.inr (.inl (b)) :: .inr (.inl (a)) :: r) I := by
  intro I0 p l e R s m args below meth c D ad ca tys A H0 Q hE H locs ls hP hD hS hl
  obtain ⟨⟨hx, hb, hml, hown⟩, hts, hN, hK, hT, hA, hR, hC, hk⟩ := hE.1
  obtain ⟨hd, hn, -⟩ := am_v1_sp rfl (am_chk_1 hk (am_at_mem hat))
  have hr8 := Nat.le_of_ble_eq_true hrm
  refine va_mmin_long hx hb (by rw [hml]; exact hl.1.symm) hown (hts _ hlk.1) (hts _ hlk.2.1) (hts _ hlk.2.2.1) (hts _ hlk.2.2.2) (by omega) (by rw [am_sz_cat]; omega) hC.1 hC.2 hd ?_
  rw [am_min64' hp.1 hp.2]
  have e3 : nx = pc + 3 := hn
  subst e3
  exact kk I0 p l e R s m args below meth c D ad ca tys A H0 Q hE H locs ls hP hD hS hl
theorem am_maxl (hat : am_at y.2.2.2.2.1 pc = some (.invokestatic n, nx, ax, tg)) (hlk : am_mtk y.1.cls n Lib.MathLoose.max_long.x Lib.MathLoose.max_long.code 4 (some .long)) (hrm : Nat.ble (am_sz r) 8 = true) (hp : (-9223372036854775808 ≤ a ∧ a < 9223372036854775808) ∧ (-9223372036854775808 ≤ b ∧ b < 9223372036854775808)) (kk : am_V (d + 1) y Po nx lv (.inr (.inl (max a b)) :: r) I) : am_V (d + 1) y Po pc lv (.inr (.inl (b)) :: .inr (.inl (a)) :: r) I := by
  intro I0 p l e R s m args below meth c D ad ca tys A H0 Q hE H locs ls hP hD hS hl
  obtain ⟨⟨hx, hb, hml, hown⟩, hts, hN, hK, hT, hA, hR, hC, hk⟩ := hE.1
  obtain ⟨hd, hn, -⟩ := am_v1_sp rfl (am_chk_1 hk (am_at_mem hat))
  have hr8 := Nat.le_of_ble_eq_true hrm
  refine va_mmax_long hx hb (by rw [hml]; exact hl.1.symm) hown (hts _ hlk.1) (hts _ hlk.2.1) (hts _ hlk.2.2.1) (hts _ hlk.2.2.2) (by omega) (by rw [am_sz_cat]; omega) hC.1 hC.2 hd ?_
  rw [am_max64' hp.1 hp.2]
  have e3 : nx = pc + 3 := hn
  subst e3
  exact kk I0 p l e R s m args below meth c D ad ca tys A H0 Q hE H locs ls hP hD hS hl
end AMM
