def w_no_init (h0 : Nat) (as : Nat → Nat) (cs : Nat → ClassId) : va_W := [(h0, .inr (1, [.ref (as 0), .ref (as 1), .int (Int32.ofInt 0)])), ((as 0), .inl ((cs 0), 24, .inl (fun _ => 0))), ((as 1), .inl ((cs 1), 24, .inl (fun _ => 0)))]
def t_no_init (cs : Nat → ClassId) : List (ClassId × FieldType) := [((cs 0), .int), ((cs 1), .int)]
set_option maxHeartbeats 20000000 in
set_option maxRecDepth 100000 in
theorem c_no_init (l : Launch) (D : va_G) (h0 : Nat) : cs_C l D ⟨"EarSchool$Notes", "<init>", "()V"⟩ prog_7_method_1_code 1 { frames := 1, cells := 2, slots := 48, locals := 12 } h0 (.inr (1, [.null, .null, .int 0])) [] [] (w_no_init h0) (t_no_init) := by
  refine cs_enter (by decide +kernel) rfl (Nat.le_of_ble_eq_true rfl) ?_
  intro p e s m args below meth c sz hsz hE hin hr hlocks
  refine cs_al hE 0 (k := 0) (by decide +kernel) rfl ?_
  refine cs_oi (i := 3) hE (am_wd_in 79 (by decide +kernel)) (am_wd_in 72 (by decide +kernel)) (am_wd_in 73 (by decide +kernel)) (by decide +kernel) (Nat.le_of_ble_eq_true rfl) (Nat.le_of_ble_eq_true rfl) ?_
  refine cs_al hE 0 (k := 0) (by decide +kernel) rfl ?_
  refine cs_bp (n := 24) hE (by decide +kernel) (by decide +kernel) ?_
  refine cs_na (atype := .int) (ty := .int) (a0 := (24, .inl (fun _ => 0))) 24 hE (am_wd_in 102 (by decide +kernel)) rfl (fun _ => rfl) (by decide +kernel) (by decide +kernel) (Nat.le_of_ble_eq_true rfl) (Nat.le_of_ble_eq_true rfl) (Nat.le_of_ble_eq_true rfl) (by decide +kernel) (fun q0 c0 => ?_)
  refine cs_pf (ty := (.array .int)) (i := 9) 0 [.ref q0, .null, .int 0] hE hin rfl (by decide) (am_wd_in 80 (by decide +kernel)) rfl rfl (by decide +kernel) rfl rfl (Nat.le_of_ble_eq_true rfl) rfl (by decide +kernel) ?_
  refine cs_al hE 0 (k := 0) (by decide +kernel) rfl ?_
  refine cs_bp (n := 24) hE (by decide +kernel) (by decide +kernel) ?_
  refine cs_na (atype := .int) (ty := .int) (a0 := (24, .inl (fun _ => 0))) 24 hE (am_wd_in 102 (by decide +kernel)) rfl (fun _ => rfl) (by decide +kernel) (by decide +kernel) (Nat.le_of_ble_eq_true rfl) (Nat.le_of_ble_eq_true rfl) (Nat.le_of_ble_eq_true rfl) (by decide +kernel) (fun q1 c1 => ?_)
  refine cs_pf (ty := (.array .int)) (i := 15) 1 [.ref q0, .ref q1, .int 0] hE hin rfl (by decide) (am_wd_in 85 (by decide +kernel)) rfl rfl (by decide +kernel) rfl rfl (Nat.le_of_ble_eq_true rfl) rfl (by decide +kernel) ?_
  refine cs_al hE 0 (k := 0) (by decide +kernel) rfl ?_
  refine cs_ic (n := 0) hE (by decide +kernel) ?_
  refine cs_pn (ty := .int) (i := 18) 2 [.ref q0, .ref q1, .int (Int32.ofInt 0)] hE rfl (by decide) (am_wd_in 88 (by decide +kernel)) rfl (by decide +kernel) (by first | rfl | decide +kernel) (by first | rfl | decide +kernel) (Nat.le_of_ble_eq_true rfl) rfl (by decide +kernel) ?_
  exact cs_rt (fun k => [q0, q1].getD k 0) (fun k => [c0, c1].getD k 0) hE hr hlocks (by decide +kernel) hsz rfl rfl
def w_ru_init (h0 : Nat) (as : Nat → Nat) (cs : Nat → ClassId) : va_W := [(h0, .inr (2, [.ref (as 0), .int (Int32.ofInt 60), .int (Int32.ofInt 72), .int (Int32.ofInt 8), .int (Int32.ofInt 5), .int (Int32.ofInt 1)])), ((as 0), .inl ((cs 0), 4, .inl (upd (upd (upd (upd (fun _ => 0) 0 (Int32.ofInt 2741)) 1 (Int32.ofInt 4095)) 2 (Int32.ofInt 1)) 3 (Int32.ofInt 261888))))]
def t_ru_init (cs : Nat → ClassId) : List (ClassId × FieldType) := [((cs 0), .int)]
set_option maxHeartbeats 20000000 in
set_option maxRecDepth 100000 in
theorem c_ru_init (l : Launch) (D : va_G) (h0 : Nat) : cs_C l D ⟨"EarSchool$Rule", "<init>", "()V"⟩ prog_9_method_1_code 1 { frames := 1, cells := 1, slots := 4, locals := 12 } h0 (.inr (2, [.null, .int 0, .int 0, .int 0, .int 0, .int 0])) [] [] (w_ru_init h0) (t_ru_init) := by
  refine cs_enter (by decide +kernel) rfl (Nat.le_of_ble_eq_true rfl) ?_
  intro p e s m args below meth c sz hsz hE hin hr hlocks
  refine cs_al hE 0 (k := 0) (by decide +kernel) rfl ?_
  refine cs_oi (i := 3) hE (am_wd_in 108 (by decide +kernel)) (am_wd_in 72 (by decide +kernel)) (am_wd_in 73 (by decide +kernel)) (by decide +kernel) (Nat.le_of_ble_eq_true rfl) (Nat.le_of_ble_eq_true rfl) ?_
  refine cs_al hE 0 (k := 0) (by decide +kernel) rfl ?_
  refine cs_ic (n := 4) hE (by decide +kernel) ?_
  refine cs_na (atype := .int) (ty := .int) (a0 := (4, .inl (fun _ => 0))) 4 hE (am_wd_in 102 (by decide +kernel)) rfl (fun _ => rfl) (by decide +kernel) (by decide +kernel) (Nat.le_of_ble_eq_true rfl) (Nat.le_of_ble_eq_true rfl) (Nat.le_of_ble_eq_true rfl) (by decide +kernel) (fun q0 c0 => ?_)
  refine cs_dp hE (by decide +kernel) ?_
  refine cs_ic (n := 0) hE (by decide +kernel) ?_
  refine cs_sp (n := 2741) hE (by decide +kernel) (by decide +kernel) ?_
  refine cs_nf (ws' := [(h0, .inr (2, [.null, .int 0, .int 0, .int 0, .int 0, .int 0])), (q0, .inl (c0, 4, .inl (fun _ => 0)))]) (tys' := [(c0, .int)]) rfl rfl ?_
  refine cs_ia 1 0 0 hE rfl rfl (by unfold vp_in; decide +kernel) (by decide +kernel) (by decide +kernel) ?_
  refine cs_nf (ws' := [(h0, .inr (2, [.null, .int 0, .int 0, .int 0, .int 0, .int 0])), (q0, .inl (c0, 4, .inl (upd (fun _ => 0) 0 (Int32.ofInt 2741))))]) (tys' := [(c0, .int)]) rfl rfl ?_
  refine cs_dp hE (by decide +kernel) ?_
  refine cs_ic (n := 1) hE (by decide +kernel) ?_
  refine cs_sp (n := 4095) hE (by decide +kernel) (by decide +kernel) ?_
  refine cs_nf (ws' := [(h0, .inr (2, [.null, .int 0, .int 0, .int 0, .int 0, .int 0])), (q0, .inl (c0, 4, .inl (upd (fun _ => 0) 0 (Int32.ofInt 2741))))]) (tys' := [(c0, .int)]) rfl rfl ?_
  refine cs_ia 1 0 1 hE rfl rfl (by unfold vp_in; decide +kernel) (by decide +kernel) (by decide +kernel) ?_
  refine cs_nf (ws' := [(h0, .inr (2, [.null, .int 0, .int 0, .int 0, .int 0, .int 0])), (q0, .inl (c0, 4, .inl (upd (upd (fun _ => 0) 0 (Int32.ofInt 2741)) 1 (Int32.ofInt 4095))))]) (tys' := [(c0, .int)]) rfl rfl ?_
  refine cs_dp hE (by decide +kernel) ?_
  refine cs_ic (n := 2) hE (by decide +kernel) ?_
  refine cs_ic (n := 1) hE (by decide +kernel) ?_
  refine cs_nf (ws' := [(h0, .inr (2, [.null, .int 0, .int 0, .int 0, .int 0, .int 0])), (q0, .inl (c0, 4, .inl (upd (upd (fun _ => 0) 0 (Int32.ofInt 2741)) 1 (Int32.ofInt 4095))))]) (tys' := [(c0, .int)]) rfl rfl ?_
  refine cs_ia 1 0 2 hE rfl rfl (by unfold vp_in; decide +kernel) (by decide +kernel) (by decide +kernel) ?_
  refine cs_nf (ws' := [(h0, .inr (2, [.null, .int 0, .int 0, .int 0, .int 0, .int 0])), (q0, .inl (c0, 4, .inl (upd (upd (upd (fun _ => 0) 0 (Int32.ofInt 2741)) 1 (Int32.ofInt 4095)) 2 (Int32.ofInt 1))))]) (tys' := [(c0, .int)]) rfl rfl ?_
  refine cs_dp hE (by decide +kernel) ?_
  refine cs_ic (n := 3) hE (by decide +kernel) ?_
  refine cs_lc (n := 261888) (i := 9) hE (am_wd_in 109 (by decide +kernel)) (by decide +kernel) ?_
  refine cs_nf (ws' := [(h0, .inr (2, [.null, .int 0, .int 0, .int 0, .int 0, .int 0])), (q0, .inl (c0, 4, .inl (upd (upd (upd (fun _ => 0) 0 (Int32.ofInt 2741)) 1 (Int32.ofInt 4095)) 2 (Int32.ofInt 1))))]) (tys' := [(c0, .int)]) rfl rfl ?_
  refine cs_ia 1 0 3 hE rfl rfl (by unfold vp_in; decide +kernel) (by decide +kernel) (by decide +kernel) ?_
  refine cs_nf (ws' := [(h0, .inr (2, [.null, .int 0, .int 0, .int 0, .int 0, .int 0])), (q0, .inl (c0, 4, .inl (upd (upd (upd (upd (fun _ => 0) 0 (Int32.ofInt 2741)) 1 (Int32.ofInt 4095)) 2 (Int32.ofInt 1)) 3 (Int32.ofInt 261888))))]) (tys' := [(c0, .int)]) rfl rfl ?_
  refine cs_pf (ty := (.array .int)) (i := 10) 0 [.ref q0, .int 0, .int 0, .int 0, .int 0, .int 0] hE hin rfl (by decide) (am_wd_in 110 (by decide +kernel)) rfl rfl (by decide +kernel) rfl rfl (Nat.le_of_ble_eq_true rfl) rfl (by decide +kernel) ?_
  refine cs_al hE 0 (k := 0) (by decide +kernel) rfl ?_
  refine cs_bp (n := 60) hE (by decide +kernel) (by decide +kernel) ?_
  refine cs_pn (ty := .int) (i := 16) 1 [.ref q0, .int (Int32.ofInt 60), .int 0, .int 0, .int 0, .int 0] hE rfl (by decide) (am_wd_in 112 (by decide +kernel)) rfl (by decide +kernel) (by first | rfl | decide +kernel) (by first | rfl | decide +kernel) (Nat.le_of_ble_eq_true rfl) rfl (by decide +kernel) ?_
  refine cs_al hE 0 (k := 0) (by decide +kernel) rfl ?_
  refine cs_bp (n := 72) hE (by decide +kernel) (by decide +kernel) ?_
  refine cs_pn (ty := .int) (i := 20) 2 [.ref q0, .int (Int32.ofInt 60), .int (Int32.ofInt 72), .int 0, .int 0, .int 0] hE rfl (by decide) (am_wd_in 117 (by decide +kernel)) rfl (by decide +kernel) (by first | rfl | decide +kernel) (by first | rfl | decide +kernel) (Nat.le_of_ble_eq_true rfl) rfl (by decide +kernel) ?_
  refine cs_al hE 0 (k := 0) (by decide +kernel) rfl ?_
  refine cs_bp (n := 8) hE (by decide +kernel) (by decide +kernel) ?_
  refine cs_pn (ty := .int) (i := 23) 3 [.ref q0, .int (Int32.ofInt 60), .int (Int32.ofInt 72), .int (Int32.ofInt 8), .int 0, .int 0] hE rfl (by decide) (am_wd_in 122 (by decide +kernel)) rfl (by decide +kernel) (by first | rfl | decide +kernel) (by first | rfl | decide +kernel) (Nat.le_of_ble_eq_true rfl) rfl (by decide +kernel) ?_
  refine cs_al hE 0 (k := 0) (by decide +kernel) rfl ?_
  refine cs_ic (n := 5) hE (by decide +kernel) ?_
  refine cs_pn (ty := .int) (i := 26) 4 [.ref q0, .int (Int32.ofInt 60), .int (Int32.ofInt 72), .int (Int32.ofInt 8), .int (Int32.ofInt 5), .int 0] hE rfl (by decide) (am_wd_in 127 (by decide +kernel)) rfl (by decide +kernel) (by first | rfl | decide +kernel) (by first | rfl | decide +kernel) (Nat.le_of_ble_eq_true rfl) rfl (by decide +kernel) ?_
  refine cs_al hE 0 (k := 0) (by decide +kernel) rfl ?_
  refine cs_ic (n := 1) hE (by decide +kernel) ?_
  refine cs_pn (ty := .int) (i := 29) 5 [.ref q0, .int (Int32.ofInt 60), .int (Int32.ofInt 72), .int (Int32.ofInt 8), .int (Int32.ofInt 5), .int (Int32.ofInt 1)] hE rfl (by decide) (am_wd_in 129 (by decide +kernel)) rfl (by decide +kernel) (by first | rfl | decide +kernel) (by first | rfl | decide +kernel) (Nat.le_of_ble_eq_true rfl) rfl (by decide +kernel) ?_
  exact cs_rt (fun k => [q0].getD k 0) (fun k => [c0].getD k 0) hE hr hlocks (by decide +kernel) hsz rfl rfl
def w_mt3_init (h0 : Nat) (a0 : Nat) (as : Nat → Nat) (cs : Nat → ClassId) : va_W := [(h0, .inr (3, [.ref a0, .ref (as 0), .int (Int32.ofInt 0)])), ((as 0), .inl ((cs 0), 10656, .inr (.inl (fun _ => 0))))]
def t_mt3_init (cs : Nat → ClassId) : List (ClassId × FieldType) := [((cs 0), .long)]
set_option maxHeartbeats 20000000 in
set_option maxRecDepth 100000 in
theorem c_mt3_init (l : Launch) (D : va_G) (h0 : Nat) (a0 : Nat) : cs_C l D ⟨"EarSchool$MelodyTable", "<init>", "(LEarSchool$Rule;)V"⟩ prog_5_method_1_code 2 { frames := 1, cells := 1, slots := 10656, locals := 12 } h0 (.inr (3, [.null, .null, .int 0])) [.ref a0] [] (w_mt3_init h0 a0) (t_mt3_init) := by
  refine cs_enter (by decide +kernel) rfl (Nat.le_of_ble_eq_true rfl) ?_
  intro p e s m args below meth c sz hsz hE hin hr hlocks
  refine cs_al hE 0 (k := 0) (by decide +kernel) rfl ?_
  refine cs_oi (i := 3) hE (am_wd_in 153 (by decide +kernel)) (am_wd_in 72 (by decide +kernel)) (am_wd_in 73 (by decide +kernel)) (by decide +kernel) (Nat.le_of_ble_eq_true rfl) (Nat.le_of_ble_eq_true rfl) ?_
  refine cs_al hE 0 (k := 0) (by decide +kernel) rfl ?_
  refine cs_sp (n := 10656) hE (by decide +kernel) (by decide +kernel) ?_
  refine cs_na (atype := .long) (ty := .long) (a0 := (10656, .inr (.inl (fun _ => 0)))) 10656 hE (am_wd_in 168 (by decide +kernel)) rfl (fun _ => rfl) (by decide +kernel) (by decide +kernel) (Nat.le_of_ble_eq_true rfl) (Nat.le_of_ble_eq_true rfl) (Nat.le_of_ble_eq_true rfl) (by decide +kernel) (fun q0 c0 => ?_)
  refine cs_pf (ty := (.array .long)) (i := 13) 1 [.null, .ref q0, .int 0] hE hin rfl (by decide) (am_wd_in 159 (by decide +kernel)) rfl rfl (by decide +kernel) rfl rfl (Nat.le_of_ble_eq_true rfl) rfl (by decide +kernel) ?_
  refine cs_al hE 0 (k := 0) (by decide +kernel) rfl ?_
  refine cs_ic (n := 0) hE (by decide +kernel) ?_
  refine cs_pn (ty := .boolean) (i := 17) 2 [.null, .ref q0, .int (Int32.ofInt 0)] hE rfl (by decide) (am_wd_in 160 (by decide +kernel)) rfl (by decide +kernel) (by first | rfl | decide +kernel) (by first | rfl | decide +kernel) (Nat.le_of_ble_eq_true rfl) rfl (by decide +kernel) ?_
  refine cs_al hE 0 (k := 0) (by decide +kernel) rfl ?_
  refine cs_al hE 1 (k := 1) (by decide +kernel) rfl ?_
  refine cs_pf (ty := (.object "EarSchool$Rule")) (i := 21) 0 [.ref a0, .ref q0, .int (Int32.ofInt 0)] hE hin rfl (by decide) (am_wd_in 154 (by decide +kernel)) rfl rfl (by decide +kernel) rfl rfl (Nat.le_of_ble_eq_true rfl) rfl (by decide +kernel) ?_
  exact cs_rt (fun k => [q0].getD k 0) (fun k => [c0].getD k 0) hE hr hlocks (by decide +kernel) hsz rfl rfl
def w_mt4_init (h0 : Nat) (a0 : Nat) (as : Nat → Nat) (cs : Nat → ClassId) : va_W := [(h0, .inr (4, [.ref a0, .ref (as 0), .int (Int32.ofInt 0), .null])), ((as 0), .inl ((cs 0), 10656, .inr (.inl (fun _ => 0))))]
def t_mt4_init (cs : Nat → ClassId) : List (ClassId × FieldType) := [((cs 0), .long)]
set_option maxHeartbeats 20000000 in
set_option maxRecDepth 100000 in
theorem c_mt4_init (l : Launch) (D : va_G) (h0 : Nat) (a0 : Nat) : cs_C l D ⟨"EarSchool$MelodyTable", "<init>", "(LEarSchool$Rule;)V"⟩ prog_5_method_1_code 2 { frames := 1, cells := 1, slots := 10656, locals := 12 } h0 (.inr (4, [.null, .null, .int 0, .null])) [.ref a0] [] (w_mt4_init h0 a0) (t_mt4_init) := by
  refine cs_enter (by decide +kernel) rfl (Nat.le_of_ble_eq_true rfl) ?_
  intro p e s m args below meth c sz hsz hE hin hr hlocks
  refine cs_al hE 0 (k := 0) (by decide +kernel) rfl ?_
  refine cs_oi (i := 3) hE (am_wd_in 153 (by decide +kernel)) (am_wd_in 72 (by decide +kernel)) (am_wd_in 73 (by decide +kernel)) (by decide +kernel) (Nat.le_of_ble_eq_true rfl) (Nat.le_of_ble_eq_true rfl) ?_
  refine cs_al hE 0 (k := 0) (by decide +kernel) rfl ?_
  refine cs_sp (n := 10656) hE (by decide +kernel) (by decide +kernel) ?_
  refine cs_na (atype := .long) (ty := .long) (a0 := (10656, .inr (.inl (fun _ => 0)))) 10656 hE (am_wd_in 168 (by decide +kernel)) rfl (fun _ => rfl) (by decide +kernel) (by decide +kernel) (Nat.le_of_ble_eq_true rfl) (Nat.le_of_ble_eq_true rfl) (Nat.le_of_ble_eq_true rfl) (by decide +kernel) (fun q0 c0 => ?_)
  refine cs_pf (ty := (.array .long)) (i := 13) 1 [.null, .ref q0, .int 0, .null] hE hin rfl (by decide) (am_wd_in 159 (by decide +kernel)) rfl rfl (by decide +kernel) rfl rfl (Nat.le_of_ble_eq_true rfl) rfl (by decide +kernel) ?_
  refine cs_al hE 0 (k := 0) (by decide +kernel) rfl ?_
  refine cs_ic (n := 0) hE (by decide +kernel) ?_
  refine cs_pn (ty := .boolean) (i := 17) 2 [.null, .ref q0, .int (Int32.ofInt 0), .null] hE rfl (by decide) (am_wd_in 160 (by decide +kernel)) rfl (by decide +kernel) (by first | rfl | decide +kernel) (by first | rfl | decide +kernel) (Nat.le_of_ble_eq_true rfl) rfl (by decide +kernel) ?_
  refine cs_al hE 0 (k := 0) (by decide +kernel) rfl ?_
  refine cs_al hE 1 (k := 1) (by decide +kernel) rfl ?_
  refine cs_pf (ty := (.object "EarSchool$Rule")) (i := 21) 0 [.ref a0, .ref q0, .int (Int32.ofInt 0), .null] hE hin rfl (by decide) (am_wd_in 154 (by decide +kernel)) rfl rfl (by decide +kernel) rfl rfl (Nat.le_of_ble_eq_true rfl) rfl (by decide +kernel) ?_
  exact cs_rt (fun k => [q0].getD k 0) (fun k => [c0].getD k 0) hE hr hlocks (by decide +kernel) hsz rfl rfl
def w_ct_init (h0 : Nat) (a0 : Nat) (as : Nat → Nat) (cs : Nat → ClassId) : va_W := [(h0, .inr (3, [.ref a0, .ref (as 0), .int (Int32.ofInt 0)])), ((as 0), .inl ((cs 0), 10656, .inr (.inl (fun _ => 0))))]
def t_ct_init (cs : Nat → ClassId) : List (ClassId × FieldType) := [((cs 0), .long)]
set_option maxHeartbeats 20000000 in
set_option maxRecDepth 100000 in
theorem c_ct_init (l : Launch) (D : va_G) (h0 : Nat) (a0 : Nat) : cs_C l D ⟨"EarSchool$CountTable", "<init>", "(LEarSchool$Rule;)V"⟩ prog_2_method_1_code 2 { frames := 2, cells := 1, slots := 10656, locals := 33 } h0 (.inr (3, [.null, .null, .int 0])) [.ref a0] [] (w_ct_init h0 a0) (t_ct_init) := by
  refine cs_enter (by decide +kernel) rfl (Nat.le_of_ble_eq_true rfl) ?_
  intro p e s m args below meth c sz hsz hE hin hr hlocks
  refine cs_al hE 0 (k := 0) (by decide +kernel) rfl ?_
  refine cs_al hE 1 (k := 1) (by decide +kernel) rfl ?_
  refine cs_cI (i := 3) (n := 1) (As := [.ref a0]) (wr := []) hE (c_mt3_init l D h0 a0) (am_wd_in 152 (by decide +kernel)) (am_wd_in 150 (by decide +kernel)) (am_wd_in 56 (by decide +kernel)) (am_wd_in 151 (by decide +kernel)) rfl (by decide +kernel) (by decide +kernel) rfl ⟨(Nat.le_of_ble_eq_true rfl), (Nat.le_of_ble_eq_true rfl)⟩ (fun q hq => by cases hq) (Nat.le_of_ble_eq_true rfl) (by decide +kernel) ⟨(Nat.le_of_ble_eq_true rfl), (Nat.le_of_ble_eq_true rfl)⟩ (fun as0 cs0 => ?_)
  exact cs_rt (fun k => [(as0 0)].getD k 0) (fun k => [(cs0 0)].getD k 0) hE hr hlocks (by decide +kernel) hsz rfl rfl
def w_wt_init (h0 : Nat) (a0 : Nat) (as : Nat → Nat) (cs : Nat → ClassId) : va_W := [(h0, .inr (4, [.ref a0, .ref (as 0), .int (Int32.ofInt 0), .ref (as 1)])), ((as 0), .inl ((cs 0), 10656, .inr (.inl (fun _ => 0)))), ((as 1), .inl ((cs 1), 13, .inl (fun _ => 0)))]
def t_wt_init (cs : Nat → ClassId) : List (ClassId × FieldType) := [((cs 0), .long), ((cs 1), .int)]
set_option maxHeartbeats 20000000 in
set_option maxRecDepth 100000 in
theorem c_wt_init (l : Launch) (D : va_G) (h0 : Nat) (a0 : Nat) : cs_C l D ⟨"EarSchool$WeightTable", "<init>", "(LEarSchool$Rule;)V"⟩ prog_10_method_1_code 2 { frames := 2, cells := 2, slots := 10669, locals := 33 } h0 (.inr (4, [.null, .null, .int 0, .null])) [.ref a0] [] (w_wt_init h0 a0) (t_wt_init) := by
  refine cs_enter (by decide +kernel) rfl (Nat.le_of_ble_eq_true rfl) ?_
  intro p e s m args below meth c sz hsz hE hin hr hlocks
  refine cs_al hE 0 (k := 0) (by decide +kernel) rfl ?_
  refine cs_al hE 1 (k := 1) (by decide +kernel) rfl ?_
  refine cs_cI (i := 3) (n := 1) (As := [.ref a0]) (wr := []) hE (c_mt4_init l D h0 a0) (am_wd_in 152 (by decide +kernel)) (am_wd_in 174 (by decide +kernel)) (am_wd_in 56 (by decide +kernel)) (am_wd_in 151 (by decide +kernel)) rfl (by decide +kernel) (by decide +kernel) rfl ⟨(Nat.le_of_ble_eq_true rfl), (Nat.le_of_ble_eq_true rfl)⟩ (fun q hq => by cases hq) (Nat.le_of_ble_eq_true rfl) (by decide +kernel) ⟨(Nat.le_of_ble_eq_true rfl), (Nat.le_of_ble_eq_true rfl)⟩ (fun as0 cs0 => ?_)
  refine cs_al hE 0 (k := 0) (by decide +kernel) rfl ?_
  refine cs_bp (n := 13) hE (by decide +kernel) (by decide +kernel) ?_
  refine cs_na (atype := .int) (ty := .int) (a0 := (13, .inl (fun _ => 0))) 13 hE (am_wd_in 102 (by decide +kernel)) rfl (fun _ => rfl) (by decide +kernel) (by decide +kernel) (Nat.le_of_ble_eq_true rfl) (Nat.le_of_ble_eq_true rfl) (Nat.le_of_ble_eq_true rfl) (by decide +kernel) (fun q1 c1 => ?_)
  refine cs_pf (ty := (.array .int)) (i := 9) 3 [.ref a0, .ref (as0 0), .int (Int32.ofInt 0), .ref q1] hE hin rfl (by decide) (am_wd_in 175 (by decide +kernel)) rfl rfl (by decide +kernel) rfl rfl (Nat.le_of_ble_eq_true rfl) rfl (by decide +kernel) ?_
  exact cs_rt (fun k => [(as0 0), q1].getD k 0) (fun k => [(cs0 0), c1].getD k 0) hE hr hlocks (by decide +kernel) hsz rfl rfl
def w_me_init (h0 : Nat) (as : Nat → Nat) (cs : Nat → ClassId) : va_W := [(h0, .inr (5, [.ref (as 0), .int (Int32.ofInt 0), .int (Int32.ofInt 2), .int (Int32.ofInt 48), .int (Int32.ofInt 0), .ref (as 1)])), ((as 0), .inl ((cs 0), 6, .inl (fun _ => 0))), ((as 1), .inl ((cs 1), 14425, .inr (.inl (fun _ => 0))))]
def t_me_init (cs : Nat → ClassId) : List (ClassId × FieldType) := [((cs 0), .int), ((cs 1), .long)]
set_option maxHeartbeats 20000000 in
set_option maxRecDepth 100000 in
theorem c_me_init (l : Launch) (D : va_G) (h0 : Nat) : cs_C l D ⟨"EarSchool$Metre", "<init>", "()V"⟩ prog_6_method_1_code 1 { frames := 1, cells := 2, slots := 14431, locals := 12 } h0 (.inr (5, [.null, .int 0, .int 0, .int 0, .int 0, .null])) [] [] (w_me_init h0) (t_me_init) := by
  refine cs_enter (by decide +kernel) rfl (Nat.le_of_ble_eq_true rfl) ?_
  intro p e s m args below meth c sz hsz hE hin hr hlocks
  refine cs_al hE 0 (k := 0) (by decide +kernel) rfl ?_
  refine cs_oi (i := 5) hE (am_wd_in 188 (by decide +kernel)) (am_wd_in 72 (by decide +kernel)) (am_wd_in 73 (by decide +kernel)) (by decide +kernel) (Nat.le_of_ble_eq_true rfl) (Nat.le_of_ble_eq_true rfl) ?_
  refine cs_al hE 0 (k := 0) (by decide +kernel) rfl ?_
  refine cs_bp (n := 6) hE (by decide +kernel) (by decide +kernel) ?_
  refine cs_na (atype := .int) (ty := .int) (a0 := (6, .inl (fun _ => 0))) 6 hE (am_wd_in 102 (by decide +kernel)) rfl (fun _ => rfl) (by decide +kernel) (by decide +kernel) (Nat.le_of_ble_eq_true rfl) (Nat.le_of_ble_eq_true rfl) (Nat.le_of_ble_eq_true rfl) (by decide +kernel) (fun q0 c0 => ?_)
  refine cs_pf (ty := (.array .int)) (i := 11) 0 [.ref q0, .int 0, .int 0, .int 0, .int 0, .null] hE hin rfl (by decide) (am_wd_in 189 (by decide +kernel)) rfl rfl (by decide +kernel) rfl rfl (Nat.le_of_ble_eq_true rfl) rfl (by decide +kernel) ?_
  refine cs_al hE 0 (k := 0) (by decide +kernel) rfl ?_
  refine cs_ic (n := 0) hE (by decide +kernel) ?_
  refine cs_pn (ty := .int) (i := 15) 1 [.ref q0, .int (Int32.ofInt 0), .int 0, .int 0, .int 0, .null] hE rfl (by decide) (am_wd_in 190 (by decide +kernel)) rfl (by decide +kernel) (by first | rfl | decide +kernel) (by first | rfl | decide +kernel) (Nat.le_of_ble_eq_true rfl) rfl (by decide +kernel) ?_
  refine cs_al hE 0 (k := 0) (by decide +kernel) rfl ?_
  refine cs_ic (n := 2) hE (by decide +kernel) ?_
  refine cs_pn (ty := .int) (i := 19) 2 [.ref q0, .int (Int32.ofInt 0), .int (Int32.ofInt 2), .int 0, .int 0, .null] hE rfl (by decide) (am_wd_in 192 (by decide +kernel)) rfl (by decide +kernel) (by first | rfl | decide +kernel) (by first | rfl | decide +kernel) (Nat.le_of_ble_eq_true rfl) rfl (by decide +kernel) ?_
  refine cs_al hE 0 (k := 0) (by decide +kernel) rfl ?_
  refine cs_bp (n := 48) hE (by decide +kernel) (by decide +kernel) ?_
  refine cs_pn (ty := .int) (i := 22) 3 [.ref q0, .int (Int32.ofInt 0), .int (Int32.ofInt 2), .int (Int32.ofInt 48), .int 0, .null] hE rfl (by decide) (am_wd_in 194 (by decide +kernel)) rfl (by decide +kernel) (by first | rfl | decide +kernel) (by first | rfl | decide +kernel) (Nat.le_of_ble_eq_true rfl) rfl (by decide +kernel) ?_
  refine cs_al hE 0 (k := 0) (by decide +kernel) rfl ?_
  refine cs_ic (n := 0) hE (by decide +kernel) ?_
  refine cs_pn (ty := .boolean) (i := 25) 4 [.ref q0, .int (Int32.ofInt 0), .int (Int32.ofInt 2), .int (Int32.ofInt 48), .int (Int32.ofInt 0), .null] hE rfl (by decide) (am_wd_in 196 (by decide +kernel)) rfl (by decide +kernel) (by first | rfl | decide +kernel) (by first | rfl | decide +kernel) (Nat.le_of_ble_eq_true rfl) rfl (by decide +kernel) ?_
  refine cs_al hE 0 (k := 0) (by decide +kernel) rfl ?_
  refine cs_sp (n := 14425) hE (by decide +kernel) (by decide +kernel) ?_
  refine cs_na (atype := .long) (ty := .long) (a0 := (14425, .inr (.inl (fun _ => 0)))) 14425 hE (am_wd_in 168 (by decide +kernel)) rfl (fun _ => rfl) (by decide +kernel) (by decide +kernel) (Nat.le_of_ble_eq_true rfl) (Nat.le_of_ble_eq_true rfl) (Nat.le_of_ble_eq_true rfl) (by decide +kernel) (fun q1 c1 => ?_)
  refine cs_pf (ty := (.array .long)) (i := 29) 5 [.ref q0, .int (Int32.ofInt 0), .int (Int32.ofInt 2), .int (Int32.ofInt 48), .int (Int32.ofInt 0), .ref q1] hE hin rfl (by decide) (am_wd_in 198 (by decide +kernel)) rfl rfl (by decide +kernel) rfl rfl (Nat.le_of_ble_eq_true rfl) rfl (by decide +kernel) ?_
  exact cs_rt (fun k => [q0, q1].getD k 0) (fun k => [c0, c1].getD k 0) hE hr hlocks (by decide +kernel) hsz rfl rfl
def w_ha_init (h0 : Nat) (as : Nat → Nat) (cs : Nat → ClassId) : va_W := [(h0, .inr (6, [.ref (as 0), .ref (as 1), .int (Int32.ofInt 0), .int (Int32.ofInt 5), .int (Int32.ofInt 0), .ref (as 2), .ref (as 3), .ref (as 4)])), ((as 0), .inl ((cs 0), 6, .inl (fun _ => 0))), ((as 1), .inl ((cs 1), 3, .inl (upd (upd (upd (fun _ => 0) 0 (Int32.ofInt 48)) 1 (Int32.ofInt 55)) 2 (Int32.ofInt 64)))), ((as 2), .inl ((cs 2), 6, .inl (fun _ => 0))), ((as 3), .inl ((cs 3), 108, .inl (fun _ => 0))), ((as 4), .inl ((cs 4), 36, .inr (.inl (fun _ => 0))))]
def t_ha_init (cs : Nat → ClassId) : List (ClassId × FieldType) := [((cs 0), .int), ((cs 1), .int), ((cs 2), .int), ((cs 3), .int), ((cs 4), .long)]
set_option maxHeartbeats 20000000 in
set_option maxRecDepth 100000 in
theorem c_ha_init (l : Launch) (D : va_G) (h0 : Nat) : cs_C l D ⟨"EarSchool$Harmony", "<init>", "()V"⟩ prog_3_method_1_code 1 { frames := 1, cells := 5, slots := 159, locals := 12 } h0 (.inr (6, [.null, .null, .int 0, .int 0, .int 0, .null, .null, .null])) [] [] (w_ha_init h0) (t_ha_init) := by
  refine cs_enter (by decide +kernel) rfl (Nat.le_of_ble_eq_true rfl) ?_
  intro p e s m args below meth c sz hsz hE hin hr hlocks
  refine cs_al hE 0 (k := 0) (by decide +kernel) rfl ?_
  refine cs_oi (i := 3) hE (am_wd_in 217 (by decide +kernel)) (am_wd_in 72 (by decide +kernel)) (am_wd_in 73 (by decide +kernel)) (by decide +kernel) (Nat.le_of_ble_eq_true rfl) (Nat.le_of_ble_eq_true rfl) ?_
  refine cs_al hE 0 (k := 0) (by decide +kernel) rfl ?_
  refine cs_bp (n := 6) hE (by decide +kernel) (by decide +kernel) ?_
  refine cs_na (atype := .int) (ty := .int) (a0 := (6, .inl (fun _ => 0))) 6 hE (am_wd_in 102 (by decide +kernel)) rfl (fun _ => rfl) (by decide +kernel) (by decide +kernel) (Nat.le_of_ble_eq_true rfl) (Nat.le_of_ble_eq_true rfl) (Nat.le_of_ble_eq_true rfl) (by decide +kernel) (fun q0 c0 => ?_)
  refine cs_pf (ty := (.array .int)) (i := 11) 0 [.ref q0, .null, .int 0, .int 0, .int 0, .null, .null, .null] hE hin rfl (by decide) (am_wd_in 218 (by decide +kernel)) rfl rfl (by decide +kernel) rfl rfl (Nat.le_of_ble_eq_true rfl) rfl (by decide +kernel) ?_
  refine cs_al hE 0 (k := 0) (by decide +kernel) rfl ?_
  refine cs_ic (n := 3) hE (by decide +kernel) ?_
  refine cs_na (atype := .int) (ty := .int) (a0 := (3, .inl (fun _ => 0))) 3 hE (am_wd_in 102 (by decide +kernel)) rfl (fun _ => rfl) (by decide +kernel) (by decide +kernel) (Nat.le_of_ble_eq_true rfl) (Nat.le_of_ble_eq_true rfl) (Nat.le_of_ble_eq_true rfl) (by decide +kernel) (fun q1 c1 => ?_)
  refine cs_dp hE (by decide +kernel) ?_
  refine cs_ic (n := 0) hE (by decide +kernel) ?_
  refine cs_bp (n := 48) hE (by decide +kernel) (by decide +kernel) ?_
  refine cs_nf (ws' := [(h0, .inr (6, [.ref q0, .null, .int 0, .int 0, .int 0, .null, .null, .null])), (q0, .inl (c0, 6, .inl (fun _ => 0))), (q1, .inl (c1, 3, .inl (fun _ => 0)))]) (tys' := [(c0, .int), (c1, .int)]) rfl rfl ?_
  refine cs_ia 2 1 0 hE rfl rfl (by unfold vp_in; decide +kernel) (by decide +kernel) (by decide +kernel) ?_
  refine cs_nf (ws' := [(h0, .inr (6, [.ref q0, .null, .int 0, .int 0, .int 0, .null, .null, .null])), (q0, .inl (c0, 6, .inl (fun _ => 0))), (q1, .inl (c1, 3, .inl (upd (fun _ => 0) 0 (Int32.ofInt 48))))]) (tys' := [(c0, .int), (c1, .int)]) rfl rfl ?_
  refine cs_dp hE (by decide +kernel) ?_
  refine cs_ic (n := 1) hE (by decide +kernel) ?_
  refine cs_bp (n := 55) hE (by decide +kernel) (by decide +kernel) ?_
  refine cs_nf (ws' := [(h0, .inr (6, [.ref q0, .null, .int 0, .int 0, .int 0, .null, .null, .null])), (q0, .inl (c0, 6, .inl (fun _ => 0))), (q1, .inl (c1, 3, .inl (upd (fun _ => 0) 0 (Int32.ofInt 48))))]) (tys' := [(c0, .int), (c1, .int)]) rfl rfl ?_
  refine cs_ia 2 1 1 hE rfl rfl (by unfold vp_in; decide +kernel) (by decide +kernel) (by decide +kernel) ?_
  refine cs_nf (ws' := [(h0, .inr (6, [.ref q0, .null, .int 0, .int 0, .int 0, .null, .null, .null])), (q0, .inl (c0, 6, .inl (fun _ => 0))), (q1, .inl (c1, 3, .inl (upd (upd (fun _ => 0) 0 (Int32.ofInt 48)) 1 (Int32.ofInt 55))))]) (tys' := [(c0, .int), (c1, .int)]) rfl rfl ?_
  refine cs_dp hE (by decide +kernel) ?_
  refine cs_ic (n := 2) hE (by decide +kernel) ?_
  refine cs_bp (n := 64) hE (by decide +kernel) (by decide +kernel) ?_
  refine cs_nf (ws' := [(h0, .inr (6, [.ref q0, .null, .int 0, .int 0, .int 0, .null, .null, .null])), (q0, .inl (c0, 6, .inl (fun _ => 0))), (q1, .inl (c1, 3, .inl (upd (upd (fun _ => 0) 0 (Int32.ofInt 48)) 1 (Int32.ofInt 55))))]) (tys' := [(c0, .int), (c1, .int)]) rfl rfl ?_
  refine cs_ia 2 1 2 hE rfl rfl (by unfold vp_in; decide +kernel) (by decide +kernel) (by decide +kernel) ?_
  refine cs_nf (ws' := [(h0, .inr (6, [.ref q0, .null, .int 0, .int 0, .int 0, .null, .null, .null])), (q0, .inl (c0, 6, .inl (fun _ => 0))), (q1, .inl (c1, 3, .inl (upd (upd (upd (fun _ => 0) 0 (Int32.ofInt 48)) 1 (Int32.ofInt 55)) 2 (Int32.ofInt 64))))]) (tys' := [(c0, .int), (c1, .int)]) rfl rfl ?_
  refine cs_pf (ty := (.array .int)) (i := 15) 1 [.ref q0, .ref q1, .int 0, .int 0, .int 0, .null, .null, .null] hE hin rfl (by decide) (am_wd_in 220 (by decide +kernel)) rfl rfl (by decide +kernel) rfl rfl (Nat.le_of_ble_eq_true rfl) rfl (by decide +kernel) ?_
  refine cs_al hE 0 (k := 0) (by decide +kernel) rfl ?_
  refine cs_ic (n := 0) hE (by decide +kernel) ?_
  refine cs_pn (ty := .int) (i := 18) 2 [.ref q0, .ref q1, .int (Int32.ofInt 0), .int 0, .int 0, .null, .null, .null] hE rfl (by decide) (am_wd_in 222 (by decide +kernel)) rfl (by decide +kernel) (by first | rfl | decide +kernel) (by first | rfl | decide +kernel) (Nat.le_of_ble_eq_true rfl) rfl (by decide +kernel) ?_
  refine cs_al hE 0 (k := 0) (by decide +kernel) rfl ?_
  refine cs_ic (n := 5) hE (by decide +kernel) ?_
  refine cs_pn (ty := .int) (i := 22) 3 [.ref q0, .ref q1, .int (Int32.ofInt 0), .int (Int32.ofInt 5), .int 0, .null, .null, .null] hE rfl (by decide) (am_wd_in 224 (by decide +kernel)) rfl (by decide +kernel) (by first | rfl | decide +kernel) (by first | rfl | decide +kernel) (Nat.le_of_ble_eq_true rfl) rfl (by decide +kernel) ?_
  refine cs_al hE 0 (k := 0) (by decide +kernel) rfl ?_
  refine cs_ic (n := 0) hE (by decide +kernel) ?_
  refine cs_pn (ty := .boolean) (i := 25) 4 [.ref q0, .ref q1, .int (Int32.ofInt 0), .int (Int32.ofInt 5), .int (Int32.ofInt 0), .null, .null, .null] hE rfl (by decide) (am_wd_in 226 (by decide +kernel)) rfl (by decide +kernel) (by first | rfl | decide +kernel) (by first | rfl | decide +kernel) (Nat.le_of_ble_eq_true rfl) rfl (by decide +kernel) ?_
  refine cs_al hE 0 (k := 0) (by decide +kernel) rfl ?_
  refine cs_bp (n := 6) hE (by decide +kernel) (by decide +kernel) ?_
  refine cs_na (atype := .int) (ty := .int) (a0 := (6, .inl (fun _ => 0))) 6 hE (am_wd_in 102 (by decide +kernel)) rfl (fun _ => rfl) (by decide +kernel) (by decide +kernel) (Nat.le_of_ble_eq_true rfl) (Nat.le_of_ble_eq_true rfl) (Nat.le_of_ble_eq_true rfl) (by decide +kernel) (fun q2 c2 => ?_)
  refine cs_pf (ty := (.array .int)) (i := 29) 5 [.ref q0, .ref q1, .int (Int32.ofInt 0), .int (Int32.ofInt 5), .int (Int32.ofInt 0), .ref q2, .null, .null] hE hin rfl (by decide) (am_wd_in 228 (by decide +kernel)) rfl rfl (by decide +kernel) rfl rfl (Nat.le_of_ble_eq_true rfl) rfl (by decide +kernel) ?_
  refine cs_al hE 0 (k := 0) (by decide +kernel) rfl ?_
  refine cs_bp (n := 108) hE (by decide +kernel) (by decide +kernel) ?_
  refine cs_na (atype := .int) (ty := .int) (a0 := (108, .inl (fun _ => 0))) 108 hE (am_wd_in 102 (by decide +kernel)) rfl (fun _ => rfl) (by decide +kernel) (by decide +kernel) (Nat.le_of_ble_eq_true rfl) (Nat.le_of_ble_eq_true rfl) (Nat.le_of_ble_eq_true rfl) (by decide +kernel) (fun q3 c3 => ?_)
  refine cs_pf (ty := (.array .int)) (i := 32) 6 [.ref q0, .ref q1, .int (Int32.ofInt 0), .int (Int32.ofInt 5), .int (Int32.ofInt 0), .ref q2, .ref q3, .null] hE hin rfl (by decide) (am_wd_in 229 (by decide +kernel)) rfl rfl (by decide +kernel) rfl rfl (Nat.le_of_ble_eq_true rfl) rfl (by decide +kernel) ?_
  refine cs_al hE 0 (k := 0) (by decide +kernel) rfl ?_
  refine cs_bp (n := 36) hE (by decide +kernel) (by decide +kernel) ?_
  refine cs_na (atype := .long) (ty := .long) (a0 := (36, .inr (.inl (fun _ => 0)))) 36 hE (am_wd_in 168 (by decide +kernel)) rfl (fun _ => rfl) (by decide +kernel) (by decide +kernel) (Nat.le_of_ble_eq_true rfl) (Nat.le_of_ble_eq_true rfl) (Nat.le_of_ble_eq_true rfl) (by decide +kernel) (fun q4 c4 => ?_)
  refine cs_pf (ty := (.array .long)) (i := 35) 7 [.ref q0, .ref q1, .int (Int32.ofInt 0), .int (Int32.ofInt 5), .int (Int32.ofInt 0), .ref q2, .ref q3, .ref q4] hE hin rfl (by decide) (am_wd_in 230 (by decide +kernel)) rfl rfl (by decide +kernel) rfl rfl (Nat.le_of_ble_eq_true rfl) rfl (by decide +kernel) ?_
  exact cs_rt (fun k => [q0, q1, q2, q3, q4].getD k 0) (fun k => [c0, c1, c2, c3, c4].getD k 0) hE hr hlocks (by decide +kernel) hsz rfl rfl
def w_ju_init (h0 : Nat) (a0 : Nat) (a1 : Nat) (as : Nat → Nat) (cs : Nat → ClassId) : va_W := [(h0, .inr (7, [.ref a0, .ref a1, .ref (as 0), .ref (as 1), .ref (as 2), .ref (as 3), .ref (as 4), .int (Int32.ofInt 0), .int (Int32.ofInt 0), .int (Int32.ofInt 0)])), ((as 0), .inl ((cs 0), 15625, .inl (fun _ => 0))), ((as 1), .inl ((cs 1), 96, .inl (fun _ => 0))), ((as 2), .inl ((cs 2), 96, .inl (fun _ => 0))), ((as 3), .inl ((cs 3), 96, .inl (fun _ => 0))), ((as 4), .inl ((cs 4), 96, .inl (fun _ => 0)))]
def t_ju_init (cs : Nat → ClassId) : List (ClassId × FieldType) := [((cs 0), .int), ((cs 1), .int), ((cs 2), .int), ((cs 3), .int), ((cs 4), .int)]
set_option maxHeartbeats 20000000 in
set_option maxRecDepth 100000 in
theorem c_ju_init (l : Launch) (D : va_G) (h0 : Nat) (a0 : Nat) (a1 : Nat) : cs_C l D ⟨"EarSchool$Judgement", "<init>", "(LEarSchool$Notes;LEarSchool$Notes;)V"⟩ prog_4_method_1_code 3 { frames := 1, cells := 5, slots := 16009, locals := 12 } h0 (.inr (7, [.null, .null, .null, .null, .null, .null, .null, .int 0, .int 0, .int 0])) [.ref a0, .ref a1] [] (w_ju_init h0 a0 a1) (t_ju_init) := by
  refine cs_enter (by decide +kernel) rfl (Nat.le_of_ble_eq_true rfl) ?_
  intro p e s m args below meth c sz hsz hE hin hr hlocks
  refine cs_al hE 0 (k := 0) (by decide +kernel) rfl ?_
  refine cs_oi (i := 3) hE (am_wd_in 253 (by decide +kernel)) (am_wd_in 72 (by decide +kernel)) (am_wd_in 73 (by decide +kernel)) (by decide +kernel) (Nat.le_of_ble_eq_true rfl) (Nat.le_of_ble_eq_true rfl) ?_
  refine cs_al hE 0 (k := 0) (by decide +kernel) rfl ?_
  refine cs_sp (n := 15625) hE (by decide +kernel) (by decide +kernel) ?_
  refine cs_na (atype := .int) (ty := .int) (a0 := (15625, .inl (fun _ => 0))) 15625 hE (am_wd_in 102 (by decide +kernel)) rfl (fun _ => rfl) (by decide +kernel) (by decide +kernel) (Nat.le_of_ble_eq_true rfl) (Nat.le_of_ble_eq_true rfl) (Nat.le_of_ble_eq_true rfl) (by decide +kernel) (fun q0 c0 => ?_)
  refine cs_pf (ty := (.array .int)) (i := 11) 2 [.null, .null, .ref q0, .null, .null, .null, .null, .int 0, .int 0, .int 0] hE hin rfl (by decide) (am_wd_in 256 (by decide +kernel)) rfl rfl (by decide +kernel) rfl rfl (Nat.le_of_ble_eq_true rfl) rfl (by decide +kernel) ?_
  refine cs_al hE 0 (k := 0) (by decide +kernel) rfl ?_
  refine cs_bp (n := 96) hE (by decide +kernel) (by decide +kernel) ?_
  refine cs_na (atype := .int) (ty := .int) (a0 := (96, .inl (fun _ => 0))) 96 hE (am_wd_in 102 (by decide +kernel)) rfl (fun _ => rfl) (by decide +kernel) (by decide +kernel) (Nat.le_of_ble_eq_true rfl) (Nat.le_of_ble_eq_true rfl) (Nat.le_of_ble_eq_true rfl) (by decide +kernel) (fun q1 c1 => ?_)
  refine cs_pf (ty := (.array .int)) (i := 15) 3 [.null, .null, .ref q0, .ref q1, .null, .null, .null, .int 0, .int 0, .int 0] hE hin rfl (by decide) (am_wd_in 257 (by decide +kernel)) rfl rfl (by decide +kernel) rfl rfl (Nat.le_of_ble_eq_true rfl) rfl (by decide +kernel) ?_
  refine cs_al hE 0 (k := 0) (by decide +kernel) rfl ?_
  refine cs_bp (n := 96) hE (by decide +kernel) (by decide +kernel) ?_
  refine cs_na (atype := .int) (ty := .int) (a0 := (96, .inl (fun _ => 0))) 96 hE (am_wd_in 102 (by decide +kernel)) rfl (fun _ => rfl) (by decide +kernel) (by decide +kernel) (Nat.le_of_ble_eq_true rfl) (Nat.le_of_ble_eq_true rfl) (Nat.le_of_ble_eq_true rfl) (by decide +kernel) (fun q2 c2 => ?_)
  refine cs_pf (ty := (.array .int)) (i := 18) 4 [.null, .null, .ref q0, .ref q1, .ref q2, .null, .null, .int 0, .int 0, .int 0] hE hin rfl (by decide) (am_wd_in 259 (by decide +kernel)) rfl rfl (by decide +kernel) rfl rfl (Nat.le_of_ble_eq_true rfl) rfl (by decide +kernel) ?_
  refine cs_al hE 0 (k := 0) (by decide +kernel) rfl ?_
  refine cs_bp (n := 96) hE (by decide +kernel) (by decide +kernel) ?_
  refine cs_na (atype := .int) (ty := .int) (a0 := (96, .inl (fun _ => 0))) 96 hE (am_wd_in 102 (by decide +kernel)) rfl (fun _ => rfl) (by decide +kernel) (by decide +kernel) (Nat.le_of_ble_eq_true rfl) (Nat.le_of_ble_eq_true rfl) (Nat.le_of_ble_eq_true rfl) (by decide +kernel) (fun q3 c3 => ?_)
  refine cs_pf (ty := (.array .int)) (i := 21) 5 [.null, .null, .ref q0, .ref q1, .ref q2, .ref q3, .null, .int 0, .int 0, .int 0] hE hin rfl (by decide) (am_wd_in 262 (by decide +kernel)) rfl rfl (by decide +kernel) rfl rfl (Nat.le_of_ble_eq_true rfl) rfl (by decide +kernel) ?_
  refine cs_al hE 0 (k := 0) (by decide +kernel) rfl ?_
  refine cs_bp (n := 96) hE (by decide +kernel) (by decide +kernel) ?_
  refine cs_na (atype := .int) (ty := .int) (a0 := (96, .inl (fun _ => 0))) 96 hE (am_wd_in 102 (by decide +kernel)) rfl (fun _ => rfl) (by decide +kernel) (by decide +kernel) (Nat.le_of_ble_eq_true rfl) (Nat.le_of_ble_eq_true rfl) (Nat.le_of_ble_eq_true rfl) (by decide +kernel) (fun q4 c4 => ?_)
  refine cs_pf (ty := (.array .int)) (i := 24) 6 [.null, .null, .ref q0, .ref q1, .ref q2, .ref q3, .ref q4, .int 0, .int 0, .int 0] hE hin rfl (by decide) (am_wd_in 264 (by decide +kernel)) rfl rfl (by decide +kernel) rfl rfl (Nat.le_of_ble_eq_true rfl) rfl (by decide +kernel) ?_
  refine cs_al hE 0 (k := 0) (by decide +kernel) rfl ?_
  refine cs_ic (n := 0) hE (by decide +kernel) ?_
  refine cs_pn (ty := .int) (i := 27) 7 [.null, .null, .ref q0, .ref q1, .ref q2, .ref q3, .ref q4, .int (Int32.ofInt 0), .int 0, .int 0] hE rfl (by decide) (am_wd_in 266 (by decide +kernel)) rfl (by decide +kernel) (by first | rfl | decide +kernel) (by first | rfl | decide +kernel) (Nat.le_of_ble_eq_true rfl) rfl (by decide +kernel) ?_
  refine cs_al hE 0 (k := 0) (by decide +kernel) rfl ?_
  refine cs_ic (n := 0) hE (by decide +kernel) ?_
  refine cs_pn (ty := .int) (i := 31) 8 [.null, .null, .ref q0, .ref q1, .ref q2, .ref q3, .ref q4, .int (Int32.ofInt 0), .int (Int32.ofInt 0), .int 0] hE rfl (by decide) (am_wd_in 269 (by decide +kernel)) rfl (by decide +kernel) (by first | rfl | decide +kernel) (by first | rfl | decide +kernel) (Nat.le_of_ble_eq_true rfl) rfl (by decide +kernel) ?_
  refine cs_al hE 0 (k := 0) (by decide +kernel) rfl ?_
  refine cs_ic (n := 0) hE (by decide +kernel) ?_
  refine cs_pn (ty := .boolean) (i := 34) 9 [.null, .null, .ref q0, .ref q1, .ref q2, .ref q3, .ref q4, .int (Int32.ofInt 0), .int (Int32.ofInt 0), .int (Int32.ofInt 0)] hE rfl (by decide) (am_wd_in 271 (by decide +kernel)) rfl (by decide +kernel) (by first | rfl | decide +kernel) (by first | rfl | decide +kernel) (Nat.le_of_ble_eq_true rfl) rfl (by decide +kernel) ?_
  refine cs_al hE 0 (k := 0) (by decide +kernel) rfl ?_
  refine cs_al hE 1 (k := 1) (by decide +kernel) rfl ?_
  refine cs_pf (ty := (.object "EarSchool$Notes")) (i := 38) 0 [.ref a0, .null, .ref q0, .ref q1, .ref q2, .ref q3, .ref q4, .int (Int32.ofInt 0), .int (Int32.ofInt 0), .int (Int32.ofInt 0)] hE hin rfl (by decide) (am_wd_in 254 (by decide +kernel)) rfl rfl (by decide +kernel) rfl rfl (Nat.le_of_ble_eq_true rfl) rfl (by decide +kernel) ?_
  refine cs_al hE 0 (k := 0) (by decide +kernel) rfl ?_
  refine cs_al hE 2 (k := 2) (by decide +kernel) rfl ?_
  refine cs_pf (ty := (.object "EarSchool$Notes")) (i := 42) 1 [.ref a0, .ref a1, .ref q0, .ref q1, .ref q2, .ref q3, .ref q4, .int (Int32.ofInt 0), .int (Int32.ofInt 0), .int (Int32.ofInt 0)] hE hin rfl (by decide) (am_wd_in 255 (by decide +kernel)) rfl rfl (by decide +kernel) rfl rfl (Nat.le_of_ble_eq_true rfl) rfl (by decide +kernel) ?_
  exact cs_rt (fun k => [q0, q1, q2, q3, q4].getD k 0) (fun k => [c0, c1, c2, c3, c4].getD k 0) hE hr hlocks (by decide +kernel) hsz rfl rfl
def w_pu_init (h0 : Nat) (ci0 : ClassId) (as : Nat → Nat) (cs : Nat → ClassId) : va_W := [(h0, .inr (8, [.ref (as 0), .ref (as 7)])), ((as 0), .inl ((cs 0), 6, .inr (.inr (.inr (.inr (fun i => ([(as 1), (as 2), (as 3), (as 4), (as 5), (as 6)] : List Nat)[i]?)))))), ((as 1), .inl (ci0, 13, .inl (fun _ => 0))), ((as 2), .inl (ci0, 13, .inl (fun _ => 0))), ((as 3), .inl (ci0, 13, .inl (fun _ => 0))), ((as 4), .inl (ci0, 13, .inl (fun _ => 0))), ((as 5), .inl (ci0, 13, .inl (fun _ => 0))), ((as 6), .inl (ci0, 13, .inl (fun _ => 0))), ((as 7), .inl ((cs 1), 6, .inr (.inr (.inr (.inr (fun i => ([(as 8), (as 9), (as 10), (as 11), (as 12), (as 13)] : List Nat)[i]?)))))), ((as 8), .inl (ci0, 13, .inl (fun _ => 0))), ((as 9), .inl (ci0, 13, .inl (fun _ => 0))), ((as 10), .inl (ci0, 13, .inl (fun _ => 0))), ((as 11), .inl (ci0, 13, .inl (fun _ => 0))), ((as 12), .inl (ci0, 13, .inl (fun _ => 0))), ((as 13), .inl (ci0, 13, .inl (fun _ => 0)))]
def t_pu_init (ci0 : ClassId) (cs : Nat → ClassId) : List (ClassId × FieldType) := [(ci0, .int), ((cs 0), (.array .int)), ((cs 1), (.array .int))]
set_option maxHeartbeats 20000000 in
set_option maxRecDepth 100000 in
theorem c_pu_init (l : Launch) (D : va_G) (h0 : Nat) (ci0 : ClassId) : cs_C l D ⟨"EarSchool$Pupils", "<init>", "()V"⟩ prog_8_method_1_code 1 { frames := 1, cells := 14, slots := 168, locals := 12 } h0 (.inr (8, [.null, .null])) [] [(ci0, .int)] (w_pu_init h0 ci0) (t_pu_init ci0) := by
  refine cs_enter (by decide +kernel) rfl (Nat.le_of_ble_eq_true rfl) ?_
  intro p e s m args below meth c sz hsz hE hin hr hlocks
  refine cs_al hE 0 (k := 0) (by decide +kernel) rfl ?_
  refine cs_oi (i := 3) hE (am_wd_in 299 (by decide +kernel)) (am_wd_in 72 (by decide +kernel)) (am_wd_in 73 (by decide +kernel)) (by decide +kernel) (Nat.le_of_ble_eq_true rfl) (Nat.le_of_ble_eq_true rfl) ?_
  refine cs_al hE 0 (k := 0) (by decide +kernel) rfl ?_
  refine cs_bp (n := 6) hE (by decide +kernel) (by decide +kernel) ?_
  refine cs_bp (n := 13) hE (by decide +kernel) (by decide +kernel) ?_
  refine cs_mn (i := 9) 6 13 hE (am_wd_in 300 (by decide +kernel)) (am_wd_in 102 (by decide +kernel)) 0 rfl (by decide +kernel) (by decide +kernel) (by decide +kernel) (by decide +kernel) (Nat.le_of_ble_eq_true rfl) (Nat.le_of_ble_eq_true rfl) (Nat.le_of_ble_eq_true rfl) (Nat.le_of_ble_eq_true rfl) (Nat.le_of_ble_eq_true rfl) (fun _ => rfl) (by decide +kernel) (fun q0 r0 c0 => ?_)
  refine cs_pf (ty := (.array (.array .int))) (i := 11) 0 [.ref q0, .null] hE hin rfl (by decide) (am_wd_in 302 (by decide +kernel)) rfl rfl (by decide +kernel) rfl rfl (Nat.le_of_ble_eq_true rfl) rfl (by decide +kernel) ?_
  refine cs_al hE 0 (k := 0) (by decide +kernel) rfl ?_
  refine cs_bp (n := 6) hE (by decide +kernel) (by decide +kernel) ?_
  refine cs_bp (n := 13) hE (by decide +kernel) (by decide +kernel) ?_
  refine cs_mn (i := 9) 6 13 hE (am_wd_in 300 (by decide +kernel)) (am_wd_in 102 (by decide +kernel)) 0 rfl (by decide +kernel) (by decide +kernel) (by decide +kernel) (by decide +kernel) (Nat.le_of_ble_eq_true rfl) (Nat.le_of_ble_eq_true rfl) (Nat.le_of_ble_eq_true rfl) (Nat.le_of_ble_eq_true rfl) (Nat.le_of_ble_eq_true rfl) (fun _ => rfl) (by decide +kernel) (fun q1 r1 c1 => ?_)
  refine cs_pf (ty := (.array (.array .int))) (i := 16) 1 [.ref q0, .ref q1] hE hin rfl (by decide) (am_wd_in 304 (by decide +kernel)) rfl rfl (by decide +kernel) rfl rfl (Nat.le_of_ble_eq_true rfl) rfl (by decide +kernel) ?_
  exact cs_rt (fun k => [q0, (r0 0), (r0 1), (r0 2), (r0 3), (r0 4), (r0 5), q1, (r1 0), (r1 1), (r1 2), (r1 3), (r1 4), (r1 5)].getD k 0) (fun k => [c0, c1].getD k 0) hE hr hlocks (by decide +kernel) hsz rfl rfl
