def es_I0 : am_I := fun a j => if a = 7 then (if j = 5 then 1 else if j = 4 then 5 else if j = 3 then 8 else if j = 2 then 72 else if j = 1 then 60 else 0) else if a = 8 then (if j = 3 then 261888 else if j = 2 then 1 else if j = 1 then 4095 else if j = 0 then 2741 else 0) else if a = 14 then (if j = 3 then 48 else if j = 2 then 2 else 0) else if a = 17 then (if j = 3 then 5 else 0) else if a = 19 then (if j = 2 then 64 else if j = 1 then 55 else if j = 0 then 48 else 0) else if a = 44 then (if j = 23 then 5 else if j = 17 then 48 else if j = 16 then 2 else if j = 15 then 1 else if j = 14 then 5 else if j = 13 then 261888 else if j = 12 then 1 else if j = 11 then 4095 else if j = 10 then 2741 else if j = 9 then 8 else if j = 8 then 72 else if j = 7 then 60 else 0) else if a = 51 then (if j = 2 then 64 else if j = 1 then 55 else if j = 0 then 48 else 0) else 0
theorem es_rel0 : es_rel 0 es_I0 := by
  refine ⟨?_, ?_, ?_, ?_, ?_, ?_, ?_, ?_, ?_, ?_, ?_⟩
  · have e : es_I0 1 2 = 0 := rfl
    unfold rl_row
    rw [e]
    exact ⟨by omega, rfl, fun j hj => by omega⟩
  · have e : es_I0 4 2 = 0 := rfl
    unfold rl_mea
    rw [e]
    exact ⟨by omega, rfl, fun j hj => by omega⟩
  · unfold rl_rul es_rb
    decide
  · have e : es_I0 14 1 = 0 := rfl
    unfold rl_met es_mb es_srt es_hs
    rw [e]
    refine ⟨⟨by decide, by decide, by omega, fun i hi => by omega, fun i j hi hj => by omega⟩, by decide, fun j => ?_, fun x x1 x2 => ⟨fun z => ?_, fun z => ?_⟩⟩
    · show (0 : Int) ≤ 0 ∧ (0 : Int) ≤ 1
      omega
    · obtain ⟨i, hi, _⟩ := z
      omega
    · exact absurd (show (0 : Int) = 1 from z) (by decide)
  · have e : es_I0 17 2 = 0 := rfl
    unfold rl_har es_hc
    rw [e]
    exact ⟨⟨by omega, by decide, by decide, by decide, by decide, fun j hj => by omega⟩, by decide, fun j _ => rfl, fun j _ => rfl⟩
  · intro p j hp hj
    have h6 : p = 0 ∨ p = 1 ∨ p = 2 ∨ p = 3 ∨ p = 4 ∨ p = 5 := by omega
    rcases h6 with rfl | rfl | rfl | rfl | rfl | rfl
    all_goals
      refine ⟨⟨rfl, rfl⟩, ?_, ?_⟩
      · show (0 : Int) ≤ 0 ∧ (0 : Int) ≤ 24 * ((0 : Nat) : Int)
        omega
      · show (0 : Int) ≤ 0 ∧ (0 : Int) ≤ 24 * ((0 : Nat) : Int)
        omega
  · exact rl_jud_0 rfl rfl (by decide)
  · refine ⟨fun j => ?_, Or.inl rfl⟩
    show (0 : Int) ≤ 0 ∧ (0 : Int) ≤ 1000000000000000000
    omega
  · intro j
    show (-1 : Int) ≤ 0 ∧ (0 : Int) ≤ 1000000000
    omega
  · refine ⟨fun j => ?_, Or.inl rfl⟩
    show (0 : Int) ≤ 0 ∧ (0 : Int) ≤ 1000000000000000000
    omega
  · exact Or.inl rfl
def es_a0d (q : Nat) (as : Nat → Nat) (q2 : Nat) (as2 : Nat → Nat) (b : Nat) : Nat → Nat := fun k => if k = 0 then q else if k < 44 then as (k - 1) else if k = 44 then q2 else if k < 65 then as2 (k - 45) else b
def es_c0a (cs cs2 : Nat → ClassId) : Nat → ClassId := fun k => [0, 0, (cs 0), (cs 1), 0, (cs 2), (cs 3), 0, (cs 4), 0, (cs 5), 0, (cs 6), (cs 7), 0, (cs 8), (cs 9), 0, (cs 10), (cs 11), (cs 12), (cs 13), (cs 14), 0, (cs 15), (cs 16), (cs 17), (cs 18), (cs 19), 0, (cs 20), (cs 0), (cs 0), (cs 0), (cs 0), (cs 0), (cs 0), (cs 21), (cs 0), (cs 0), (cs 0), (cs 0), (cs 0), (cs 0), 0, (cs2 0), (cs2 1), (cs2 2), (cs2 3), (cs2 4), (cs2 5), (cs2 6), (cs2 7), (cs2 8), (cs2 9), (cs2 10), (cs2 11), (cs2 12), (cs2 13), (cs2 14), (cs2 15), (cs2 16), (cs2 17), (cs2 18), (cs2 19)].getD k 0
theorem es_u8 : (upd (upd (upd (upd (fun _ => 0) 0 (Int32.ofInt 2741)) 1 (Int32.ofInt 4095)) 2 (Int32.ofInt 1)) 3 (Int32.ofInt 261888) : Nat → Int32) = (fun i => Int32.ofInt (es_I0 8 i)) := by
  funext i
  have e : es_I0 8 i = (if i = 3 then 261888 else if i = 2 then 1 else if i = 1 then 4095 else if i = 0 then 2741 else 0) := rfl
  rw [e]
  unfold upd
  dsimp only
  by_cases h3 : i = 3
  · rw [if_pos h3, if_pos h3]
  rw [if_neg h3, if_neg h3]
  by_cases h2 : i = 2
  · rw [if_pos h2, if_pos h2]
  rw [if_neg h2, if_neg h2]
  by_cases h1 : i = 1
  · rw [if_pos h1, if_pos h1]
  rw [if_neg h1, if_neg h1]
  by_cases h0 : i = 0
  · rw [if_pos h0, if_pos h0]
  rw [if_neg h0, if_neg h0]
  rfl
theorem es_u19 : (upd (upd (upd (fun _ => 0) 0 (Int32.ofInt 48)) 1 (Int32.ofInt 55)) 2 (Int32.ofInt 64) : Nat → Int32) = (fun i => Int32.ofInt (es_I0 19 i)) := by
  funext i
  have e : es_I0 19 i = (if i = 2 then 64 else if i = 1 then 55 else if i = 0 then 48 else 0) := rfl
  rw [e]
  unfold upd
  dsimp only
  by_cases h2 : i = 2
  · rw [if_pos h2, if_pos h2]
  rw [if_neg h2, if_neg h2]
  by_cases h1 : i = 1
  · rw [if_pos h1, if_pos h1]
  rw [if_neg h1, if_neg h1]
  by_cases h0 : i = 0
  · rw [if_pos h0, if_pos h0]
  rw [if_neg h0, if_neg h0]
  rfl
theorem es_r30 (q : Nat) (as : Nat → Nat) (q2 : Nat) (as2 : Nat → Nat) (b : Nat) : (fun (i : Nat) => ([(as 30), (as 31), (as 32), (as 33), (as 34), (as 35)] : List Nat)[i]?) = (fun (i : Nat) => (([31, 32, 33, 34, 35, 36] : List Nat)[i]?).map (es_a0d q as q2 as2 b)) := by
  funext i
  have e : ([(as 30), (as 31), (as 32), (as 33), (as 34), (as 35)] : List Nat) = List.map (es_a0d q as q2 as2 b) [31, 32, 33, 34, 35, 36] := rfl
  rw [e, List.getElem?_map]
theorem es_r37 (q : Nat) (as : Nat → Nat) (q2 : Nat) (as2 : Nat → Nat) (b : Nat) : (fun (i : Nat) => ([(as 37), (as 38), (as 39), (as 40), (as 41), (as 42)] : List Nat)[i]?) = (fun (i : Nat) => (([38, 39, 40, 41, 42, 43] : List Nat)[i]?).map (es_a0d q as q2 as2 b)) := by
  funext i
  have e : ([(as 37), (as 38), (as 39), (as 40), (as 41), (as 42)] : List Nat) = List.map (es_a0d q as q2 as2 b) [38, 39, 40, 41, 42, 43] := rfl
  rw [e, List.getElem?_map]
set_option maxHeartbeats 20000000 in
set_option maxRecDepth 100000 in
theorem es_W0 (q : Nat) (as : Nat → Nat) (cs : Nat → ClassId) (q2 : Nat) (as2 : Nat → Nat) (cs2 : Nat → ClassId) (b : Nat) : w_es_init q as cs ++ w_mo_init q2 as2 cs2 = am_W (es_a0d q as q2 as2 b) (es_c0a cs cs2) es_I0 := by
  unfold w_es_init w_mo_init
  rw [es_u8, es_u19, es_r30 q as q2 as2 b, es_r37 q as q2 as2 b]
  rfl
theorem es_T0ok (cs cs2 : Nat → ClassId) : am_T (es_c0a cs cs2) (t_es_init cs ++ t_mo_init cs2) := by
  intro k a h
  have hk : k < 65 := by
    have h1 := h
    rw [am_nth_eq] at h1
    exact (List.getElem?_eq_some_iff.mp h1).1
  have h6 : k = 0 ∨ k = 1 ∨ k = 2 ∨ k = 3 ∨ k = 4 ∨ k = 5 ∨ k = 6 ∨ k = 7 ∨ k = 8 ∨ k = 9 ∨ k = 10 ∨ k = 11 ∨ k = 12 ∨ k = 13 ∨ k = 14 ∨ k = 15 ∨ k = 16 ∨ k = 17 ∨ k = 18 ∨ k = 19 ∨ k = 20 ∨ k = 21 ∨ k = 22 ∨ k = 23 ∨ k = 24 ∨ k = 25 ∨ k = 26 ∨ k = 27 ∨ k = 28 ∨ k = 29 ∨ k = 30 ∨ k = 31 ∨ k = 32 ∨ k = 33 ∨ k = 34 ∨ k = 35 ∨ k = 36 ∨ k = 37 ∨ k = 38 ∨ k = 39 ∨ k = 40 ∨ k = 41 ∨ k = 42 ∨ k = 43 ∨ k = 44 ∨ k = 45 ∨ k = 46 ∨ k = 47 ∨ k = 48 ∨ k = 49 ∨ k = 50 ∨ k = 51 ∨ k = 52 ∨ k = 53 ∨ k = 54 ∨ k = 55 ∨ k = 56 ∨ k = 57 ∨ k = 58 ∨ k = 59 ∨ k = 60 ∨ k = 61 ∨ k = 62 ∨ k = 63 ∨ k = 64 := by omega
  rcases h6 with rfl | rfl | rfl | rfl | rfl | rfl | rfl | rfl | rfl | rfl | rfl | rfl | rfl | rfl | rfl | rfl | rfl | rfl | rfl | rfl | rfl | rfl | rfl | rfl | rfl | rfl | rfl | rfl | rfl | rfl | rfl | rfl | rfl | rfl | rfl | rfl | rfl | rfl | rfl | rfl | rfl | rfl | rfl | rfl | rfl | rfl | rfl | rfl | rfl | rfl | rfl | rfl | rfl | rfl | rfl | rfl | rfl | rfl | rfl | rfl | rfl | rfl | rfl | rfl | rfl
  · have h2 : (some (.inl (0, [.inr 1, .inr 4, .inr 7, .inr 9, .inr 11, .inr 14, .inr 17, .inr 23, .inr 29])) : Option am_sh) = some (.inr a) := h
    cases h2
  · have h2 : (some (.inl (1, [.inr 2, .inr 3, .inl false])) : Option am_sh) = some (.inr a) := h
    cases h2
  · have h2 : (some (.inr (.int, 24, [])) : Option am_sh) = some (.inr a) := h
    cases h2
    exact ⟨0, rfl⟩
  · have h2 : (some (.inr (.int, 24, [])) : Option am_sh) = some (.inr a) := h
    cases h2
    exact ⟨1, rfl⟩
  · have h2 : (some (.inl (1, [.inr 5, .inr 6, .inl false])) : Option am_sh) = some (.inr a) := h
    cases h2
  · have h2 : (some (.inr (.int, 24, [])) : Option am_sh) = some (.inr a) := h
    cases h2
    exact ⟨2, rfl⟩
  · have h2 : (some (.inr (.int, 24, [])) : Option am_sh) = some (.inr a) := h
    cases h2
    exact ⟨3, rfl⟩
  · have h2 : (some (.inl (2, [.inr 8, .inl false, .inl false, .inl false, .inl false, .inl false])) : Option am_sh) = some (.inr a) := h
    cases h2
  · have h2 : (some (.inr (.int, 4, [])) : Option am_sh) = some (.inr a) := h
    cases h2
    exact ⟨4, rfl⟩
  · have h2 : (some (.inl (3, [.inr 7, .inr 10, .inl true])) : Option am_sh) = some (.inr a) := h
    cases h2
  · have h2 : (some (.inr (.long, 10656, [])) : Option am_sh) = some (.inr a) := h
    cases h2
    exact ⟨5, rfl⟩
  · have h2 : (some (.inl (4, [.inr 7, .inr 12, .inl true, .inr 13])) : Option am_sh) = some (.inr a) := h
    cases h2
  · have h2 : (some (.inr (.long, 10656, [])) : Option am_sh) = some (.inr a) := h
    cases h2
    exact ⟨6, rfl⟩
  · have h2 : (some (.inr (.int, 13, [])) : Option am_sh) = some (.inr a) := h
    cases h2
    exact ⟨7, rfl⟩
  · have h2 : (some (.inl (5, [.inr 15, .inl false, .inl false, .inl false, .inl true, .inr 16])) : Option am_sh) = some (.inr a) := h
    cases h2
  · have h2 : (some (.inr (.int, 6, [])) : Option am_sh) = some (.inr a) := h
    cases h2
    exact ⟨8, rfl⟩
  · have h2 : (some (.inr (.long, 14425, [])) : Option am_sh) = some (.inr a) := h
    cases h2
    exact ⟨9, rfl⟩
  · have h2 : (some (.inl (6, [.inr 18, .inr 19, .inl false, .inl false, .inl true, .inr 20, .inr 21, .inr 22])) : Option am_sh) = some (.inr a) := h
    cases h2
  · have h2 : (some (.inr (.int, 6, [])) : Option am_sh) = some (.inr a) := h
    cases h2
    exact ⟨10, rfl⟩
  · have h2 : (some (.inr (.int, 3, [])) : Option am_sh) = some (.inr a) := h
    cases h2
    exact ⟨11, rfl⟩
  · have h2 : (some (.inr (.int, 6, [])) : Option am_sh) = some (.inr a) := h
    cases h2
    exact ⟨12, rfl⟩
  · have h2 : (some (.inr (.int, 108, [])) : Option am_sh) = some (.inr a) := h
    cases h2
    exact ⟨13, rfl⟩
  · have h2 : (some (.inr (.long, 36, [])) : Option am_sh) = some (.inr a) := h
    cases h2
    exact ⟨14, rfl⟩
  · have h2 : (some (.inl (7, [.inr 4, .inr 1, .inr 24, .inr 25, .inr 26, .inr 27, .inr 28, .inl false, .inl false, .inl true])) : Option am_sh) = some (.inr a) := h
    cases h2
  · have h2 : (some (.inr (.int, 15625, [])) : Option am_sh) = some (.inr a) := h
    cases h2
    exact ⟨15, rfl⟩
  · have h2 : (some (.inr (.int, 96, [])) : Option am_sh) = some (.inr a) := h
    cases h2
    exact ⟨16, rfl⟩
  · have h2 : (some (.inr (.int, 96, [])) : Option am_sh) = some (.inr a) := h
    cases h2
    exact ⟨17, rfl⟩
  · have h2 : (some (.inr (.int, 96, [])) : Option am_sh) = some (.inr a) := h
    cases h2
    exact ⟨18, rfl⟩
  · have h2 : (some (.inr (.int, 96, [])) : Option am_sh) = some (.inr a) := h
    cases h2
    exact ⟨19, rfl⟩
  · have h2 : (some (.inl (8, [.inr 30, .inr 37])) : Option am_sh) = some (.inr a) := h
    cases h2
  · have h2 : (some (.inr (.array .int, 6, [31, 32, 33, 34, 35, 36])) : Option am_sh) = some (.inr a) := h
    cases h2
    exact ⟨21, rfl⟩
  · have h2 : (some (.inr (.int, 13, [])) : Option am_sh) = some (.inr a) := h
    cases h2
    exact ⟨0, rfl⟩
  · have h2 : (some (.inr (.int, 13, [])) : Option am_sh) = some (.inr a) := h
    cases h2
    exact ⟨0, rfl⟩
  · have h2 : (some (.inr (.int, 13, [])) : Option am_sh) = some (.inr a) := h
    cases h2
    exact ⟨0, rfl⟩
  · have h2 : (some (.inr (.int, 13, [])) : Option am_sh) = some (.inr a) := h
    cases h2
    exact ⟨0, rfl⟩
  · have h2 : (some (.inr (.int, 13, [])) : Option am_sh) = some (.inr a) := h
    cases h2
    exact ⟨0, rfl⟩
  · have h2 : (some (.inr (.int, 13, [])) : Option am_sh) = some (.inr a) := h
    cases h2
    exact ⟨0, rfl⟩
  · have h2 : (some (.inr (.array .int, 6, [38, 39, 40, 41, 42, 43])) : Option am_sh) = some (.inr a) := h
    cases h2
    exact ⟨22, rfl⟩
  · have h2 : (some (.inr (.int, 13, [])) : Option am_sh) = some (.inr a) := h
    cases h2
    exact ⟨0, rfl⟩
  · have h2 : (some (.inr (.int, 13, [])) : Option am_sh) = some (.inr a) := h
    cases h2
    exact ⟨0, rfl⟩
  · have h2 : (some (.inr (.int, 13, [])) : Option am_sh) = some (.inr a) := h
    cases h2
    exact ⟨0, rfl⟩
  · have h2 : (some (.inr (.int, 13, [])) : Option am_sh) = some (.inr a) := h
    cases h2
    exact ⟨0, rfl⟩
  · have h2 : (some (.inr (.int, 13, [])) : Option am_sh) = some (.inr a) := h
    cases h2
    exact ⟨0, rfl⟩
  · have h2 : (some (.inr (.int, 13, [])) : Option am_sh) = some (.inr a) := h
    cases h2
    exact ⟨0, rfl⟩
  · have h2 : (some (.inl (9, [.inl false, .inr 45, .inr 46, .inl false, .inr 47, .inr 48, .inl true, .inl false, .inl false, .inl false, .inl false, .inl false, .inl false, .inl false, .inl false, .inl false, .inl false, .inl false, .inr 49, .inl false, .inl false, .inr 50, .inr 51, .inl false, .inr 52, .inr 53, .inr 54, .inr 55, .inr 56, .inr 57, .inr 58, .inr 59, .inl false, .inr 60, .inr 61, .inr 62, .inr 63, .inr 64])) : Option am_sh) = some (.inr a) := h
    cases h2
  · have h2 : (some (.inr (.int, 24, [])) : Option am_sh) = some (.inr a) := h
    cases h2
    exact ⟨23, rfl⟩
  · have h2 : (some (.inr (.int, 24, [])) : Option am_sh) = some (.inr a) := h
    cases h2
    exact ⟨24, rfl⟩
  · have h2 : (some (.inr (.int, 24, [])) : Option am_sh) = some (.inr a) := h
    cases h2
    exact ⟨25, rfl⟩
  · have h2 : (some (.inr (.int, 24, [])) : Option am_sh) = some (.inr a) := h
    cases h2
    exact ⟨26, rfl⟩
  · have h2 : (some (.inr (.boolean, 97, [])) : Option am_sh) = some (.inr a) := h
    cases h2
    exact ⟨27, rfl⟩
  · have h2 : (some (.inr (.int, 6, [])) : Option am_sh) = some (.inr a) := h
    cases h2
    exact ⟨28, rfl⟩
  · have h2 : (some (.inr (.int, 3, [])) : Option am_sh) = some (.inr a) := h
    cases h2
    exact ⟨29, rfl⟩
  · have h2 : (some (.inr (.int, 78, [])) : Option am_sh) = some (.inr a) := h
    cases h2
    exact ⟨30, rfl⟩
  · have h2 : (some (.inr (.int, 78, [])) : Option am_sh) = some (.inr a) := h
    cases h2
    exact ⟨31, rfl⟩
  · have h2 : (some (.inr (.long, 10656, [])) : Option am_sh) = some (.inr a) := h
    cases h2
    exact ⟨32, rfl⟩
  · have h2 : (some (.inr (.long, 14425, [])) : Option am_sh) = some (.inr a) := h
    cases h2
    exact ⟨33, rfl⟩
  · have h2 : (some (.inr (.int, 540, [])) : Option am_sh) = some (.inr a) := h
    cases h2
    exact ⟨34, rfl⟩
  · have h2 : (some (.inr (.int, 6, [])) : Option am_sh) = some (.inr a) := h
    cases h2
    exact ⟨35, rfl⟩
  · have h2 : (some (.inr (.long, 180, [])) : Option am_sh) = some (.inr a) := h
    cases h2
    exact ⟨36, rfl⟩
  · have h2 : (some (.inr (.int, 31250, [])) : Option am_sh) = some (.inr a) := h
    cases h2
    exact ⟨37, rfl⟩
  · have h2 : (some (.inr (.int, 100, [])) : Option am_sh) = some (.inr a) := h
    cases h2
    exact ⟨38, rfl⟩
  · have h2 : (some (.inr (.int, 100, [])) : Option am_sh) = some (.inr a) := h
    cases h2
    exact ⟨39, rfl⟩
  · have h2 : (some (.inr (.int, 100, [])) : Option am_sh) = some (.inr a) := h
    cases h2
    exact ⟨40, rfl⟩
  · have h2 : (some (.inr (.int, 100, [])) : Option am_sh) = some (.inr a) := h
    cases h2
    exact ⟨41, rfl⟩
  · have h2 : (some (.inr (.int, 100, [])) : Option am_sh) = some (.inr a) := h
    cases h2
    exact ⟨42, rfl⟩
