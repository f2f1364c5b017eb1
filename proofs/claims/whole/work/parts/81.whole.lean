theorem whole_start {p : Program} {e : Env} {s : State} {m : MethodId} {below : List Frame} {meth : Method} {c : Code} (l : Launch) {b L : Nat} {xs : Nat → Int32} (hL : L ≤ 2560) (C0 : lw_At p s m meth c b L xs) : W p l e room_1 s m #[Value.ref b] below meth c s.heap [] 0 0 (lw_Z below #[Value.ref b] s) (entryFrame m ([Value.ref b] : List Value).toArray 4) := by
  obtain ⟨hx, hb, hr, hml, hown, hts, hX, hbl, hlocks, hgv⟩ := C0
  have hg := es_gt_hts (es_hts hts)
  have hN := es_N.of hts
  have hO : es_AO s := hts (.arrayOver (.array .int)) (List.mem_of_getElem? (i := 291) (by decide +kernel))
  obtain ⟨c0, i0, k0⟩ := u_known (C := "EarSchool") (T := es_T0) (N := 9) (n := 9) hg (am_uws (ci := 0) rfl) (hg _ (am_wd_in 67 (by decide +kernel)))
  obtain ⟨c1, i1, k1⟩ := u_known (C := "EarSchool$Notes") (T := es_T1) (N := 3) (n := 3) hg (am_uws (ci := 1) rfl) (hg _ (am_wd_in 75 (by decide +kernel)))
  obtain ⟨c2, i2, k2⟩ := u_known (C := "EarSchool$Rule") (T := es_T2) (N := 6) (n := 6) hg (am_uws (ci := 2) rfl) (hg _ (am_wd_in 104 (by decide +kernel)))
  obtain ⟨c3, i3, k3⟩ := u_known (C := "EarSchool$CountTable") (T := es_T3) (N := 3) (n := 3) hg (am_uws (ci := 3) rfl) (hg _ (am_wd_in 146 (by decide +kernel)))
  obtain ⟨c4, i4, k4⟩ := u_known (C := "EarSchool$WeightTable") (T := es_T4) (N := 4) (n := 4) hg (am_uws (ci := 4) rfl) (hg _ (am_wd_in 170 (by decide +kernel)))
  obtain ⟨c5, i5, k5⟩ := u_known (C := "EarSchool$Metre") (T := es_T5) (N := 6) (n := 6) hg (am_uws (ci := 5) rfl) (hg _ (am_wd_in 184 (by decide +kernel)))
  obtain ⟨c6, i6, k6⟩ := u_known (C := "EarSchool$Harmony") (T := es_T6) (N := 8) (n := 8) hg (am_uws (ci := 6) rfl) (hg _ (am_wd_in 213 (by decide +kernel)))
  obtain ⟨c7, i7, k7⟩ := u_known (C := "EarSchool$Judgement") (T := es_T7) (N := 10) (n := 10) hg (am_uws (ci := 7) rfl) (hg _ (am_wd_in 249 (by decide +kernel)))
  obtain ⟨c8, i8, k8⟩ := u_known (C := "EarSchool$Pupils") (T := es_T8) (N := 2) (n := 2) hg (am_uws (ci := 8) rfl) (hg _ (am_wd_in 295 (by decide +kernel)))
  obtain ⟨c9, i9, k9⟩ := u_known (C := "EarSchoolModel") (T := es_T9) (N := 38) (n := 38) hg (am_uws (ci := 9) rfl) (hg _ (am_wd_in 787 (by decide +kernel)))
  have hK : va_K (fun c => [c0, c1, c2, c3, c4, c5, c6, c7, c8, c9].getD c 0, fun c => [i0, i1, i2, i3, i4, i5, i6, i7, i8, i9].getD c (fun _ => 0)) es_cl [] s := by
    refine ⟨fun c q hq => ?_, fun k q hq => by cases hq⟩
    have hc : c < 10 := (List.getElem?_eq_some_iff.mp hq).1
    have h6 : c = 0 ∨ c = 1 ∨ c = 2 ∨ c = 3 ∨ c = 4 ∨ c = 5 ∨ c = 6 ∨ c = 7 ∨ c = 8 ∨ c = 9 := by omega
    rcases h6 with rfl | rfl | rfl | rfl | rfl | rfl | rfl | rfl | rfl | rfl
    · have h2 : some ("EarSchool", es_T0, 9) = some q := hq
      cases h2
      exact k0
    · have h2 : some ("EarSchool$Notes", es_T1, 3) = some q := hq
      cases h2
      exact k1
    · have h2 : some ("EarSchool$Rule", es_T2, 6) = some q := hq
      cases h2
      exact k2
    · have h2 : some ("EarSchool$CountTable", es_T3, 3) = some q := hq
      cases h2
      exact k3
    · have h2 : some ("EarSchool$WeightTable", es_T4, 4) = some q := hq
      cases h2
      exact k4
    · have h2 : some ("EarSchool$Metre", es_T5, 6) = some q := hq
      cases h2
      exact k5
    · have h2 : some ("EarSchool$Harmony", es_T6, 8) = some q := hq
      cases h2
      exact k6
    · have h2 : some ("EarSchool$Judgement", es_T7, 10) = some q := hq
      cases h2
      exact k7
    · have h2 : some ("EarSchool$Pupils", es_T8, 2) = some q := hq
      cases h2
      exact k8
    · have h2 : some ("EarSchoolModel", es_T9, 38) = some q := hq
      cases h2
      exact k9
  generalize (fun c => [c0, c1, c2, c3, c4, c5, c6, c7, c8, c9].getD c 0, fun c => [i0, i1, i2, i3, i4, i5, i6, i7, i8, i9].getD c (fun _ => 0)) = D at hK
  have hE : cs_E 4 code "EarSchoolLaw" p s m #[Value.ref b] c (fun q => s.heap.size ≤ q) s.heap := ⟨⟨hx, hb, hml, hown⟩, hg, hN, hO, fun q h => h⟩
  have main : cs_w p l e room_1 s m #[Value.ref b] below meth c D (fun q => s.heap.size ≤ q) s.heap (lw_Z below #[Value.ref b] s) 4 0 0 [] [] 0 [(0, .ref b)] [] := by
    refine cs_nw (ci := 0) (i := 7) [.null, .null, .null, .null, .null, .null, .null, .null, .null] hE rfl (am_wd_in 66 (by decide +kernel)) (am_wd_in 67 (by decide +kernel)) (am_wd_in 53 (by decide +kernel)) (by decide +kernel) (Nat.le_of_ble_eq_true rfl) (Nat.le_of_ble_eq_true rfl) (by decide +kernel) (fun q => ?_)
    refine cs_dp hE (by decide +kernel) ?_
    refine cs_cI (i := 9) (n := 0) (As := []) (wr := []) hE (c_es_init l D q) (am_wd_in 70 (by decide +kernel)) (am_wd_in 68 (by decide +kernel)) (am_wd_in 53 (by decide +kernel)) (am_wd_in 69 (by decide +kernel)) rfl (by decide +kernel) (by decide +kernel) rfl ⟨(Nat.le_of_ble_eq_true rfl), (Nat.le_of_ble_eq_true rfl)⟩ (fun q hq => by cases hq) (Nat.le_of_ble_eq_true rfl) (by decide +kernel) ⟨(Nat.le_of_ble_eq_true rfl), (Nat.le_of_ble_eq_true rfl)⟩ (fun as cs => ?_)
    refine cs_as (k := 1) (lv' := [(1, .ref q), (0, .ref b)]) hE (by decide +kernel) (by decide) rfl ?_
    refine cs_nw (ci := 9) (i := 10) [.int 0, .null, .null, .int 0, .null, .null, .int 0, .int 0, .int 0, .int 0, .int 0, .int 0, .int 0, .int 0, .int 0, .int 0, .int 0, .int 0, .null, .int 0, .int 0, .null, .null, .int 0, .null, .null, .null, .null, .null, .null, .null, .null, .int 0, .null, .null, .null, .null, .null] hE rfl (am_wd_in 786 (by decide +kernel)) (am_wd_in 787 (by decide +kernel)) (am_wd_in 63 (by decide +kernel)) (by decide +kernel) (Nat.le_of_ble_eq_true rfl) (Nat.le_of_ble_eq_true rfl) (by decide +kernel) (fun q2 => ?_)
    refine cs_dp hE (by decide +kernel) ?_
    refine cs_cI (i := 12) (n := 0) (As := []) (wr := (w_es_init q as cs)) hE (c_mo_init l D q2) (am_wd_in 790 (by decide +kernel)) (am_wd_in 788 (by decide +kernel)) (am_wd_in 63 (by decide +kernel)) (am_wd_in 789 (by decide +kernel)) rfl (by decide +kernel) (by decide +kernel) rfl ⟨(Nat.le_of_ble_eq_true rfl), (Nat.le_of_ble_eq_true rfl)⟩ (fun q hq => by cases hq) (Nat.le_of_ble_eq_true rfl) (by decide +kernel) ⟨(Nat.le_of_ble_eq_true rfl), (Nat.le_of_ble_eq_true rfl)⟩ (fun as2 cs2 => ?_)
    refine cs_as (k := 2) (lv' := [(2, .ref q2), (1, .ref q), (0, .ref b)]) hE (by decide +kernel) (by decide) rfl ?_
    intro H locs ls hK1 hP1 hD1 hS1 hl1
    have hP2 : va_P D es_cl (w_es_init q as cs ++ w_mo_init q2 as2 cs2) H := hP1
    have hD2 : va_D (fun q => s.heap.size ≤ q) (w_es_init q as cs ++ w_mo_init q2 as2 cs2) := hD1
    rw [es_W0 q as cs q2 as2 cs2 b] at hP2 hD2
    refine W.widen (k := 600000) (n := 7302250) (Nat.le_of_ble_eq_true rfl) (Nat.le_of_ble_eq_true rfl) ?_
    have hlaw : la_V L xs 16 [(0, .inr (.inr 65)), (1, .inr (.inr 0)), (2, .inr (.inr 44))] [] es_I0 := by
      refine la_gp oy_la_h 2 [18] rfl True.intro ?_
      exact la_loop hL (L + 1) 0 es_I0 0 es_rel0 (by omega) (by omega) (by omega)
    refine hlaw p l e s m below meth c b D (es_a0d q as q2 as2 b) (es_c0a cs cs2) (t_es_init cs ++ t_mo_init cs2) ⟨⟨hx, hb, hml, hown⟩, hg, hN, hK1, es_T0ok cs cs2, ⟨hX, hbl, rfl⟩, hr, hlocks⟩ H locs ls hP2 hD2 hS1 ⟨hl1.1, hl1.2.1, fun z hz => hl1.2.2 z ?_⟩
    have hz2 : z ∈ [((0 : Nat), Value.ref b), (1, Value.ref q), (2, Value.ref q2)] := hz
    simp only [List.mem_cons, List.not_mem_nil, or_false] at hz2 ⊢
    rcases hz2 with h | h | h
    · exact Or.inr (Or.inr h)
    · exact Or.inr (Or.inl h)
    · exact Or.inl h
  have hl := lv_entry ([.ref b]) (n := 4) (Nat.le_of_ble_eq_true rfl)
  rw [lg_entry_eq]
  exact main s.heap [] _ hK (fun k q h => by cases h) ⟨fun i j x y hi _ _ => (by cases hi), fun k q h => (by cases h)⟩ va_S.rf hl
set_option maxHeartbeats 4000000 in
theorem lw_walk (l : Launch) (b : Addr) (xs : List Int32) : MetFree l x (headSpec (Jvm.Cond.code x code maxLocals ret :: tables_1) room_1) (lw_P b xs) (fun _ _ _ _ _ => True) lw_Q := by
  refine MetFree.of_bodyS (code := code) (maxLocals := maxLocals) (ret := ret) (by decide) ?_ ?_
  · intro args s m h hn
    obtain ⟨meth, c, h1, h2, h3, h4, h5, h6, -, -⟩ := Cond.code_spec hn (atoms_spec (ws := Jvm.Cond.code x code maxLocals ret :: tables_1) h _ List.mem_cons_self)
    exact ⟨meth, c, h1, h2, h3, h4, h5, h6⟩
  · intro p e s m args below meth c s₁ B hml0 hP _
    obtain ⟨rfl, hx, hbd, hgv⟩ := hP
    obtain ⟨scr, harrAt, hlist, hof, hsmall⟩ := hx
    obtain ⟨hcb, hkn, -, -⟩ := State.arrayAt?_spec harrAt
    have hown : s.vm.findClass R_law = some m.cls := findClass_of_methodNamed B.named
    have hts0 : ∀ c ∈ (Jvm.Cond.code x code maxLocals ret :: tables_1), c.before #[Value.ref b] s = true := atoms_spec (ws := Jvm.Cond.code x code maxLocals ret :: tables_1) B.pre
    have hts : ∀ w ∈ lw_tbl, w.before #[Value.ref b] s = true := k2_hts_sels lw_privs (fun w hw => hts0 w (List.mem_cons_of_mem _ hw)) lw_privs_ok
    have hml : c.maxLocals = 4 := B.maxLocals_eq (hts0 _ List.mem_cons_self)
    have X₀ : Stand p l e room_1 s m #[Value.ref b] below meth c s₁ [] 0 0 := Stand.of_body B
    have hh0 : s₁.heap = s.heap := by rw [B.state]; rfl
    have hsz : scr.slots.size = xs.length := by rw [← Array.length_toList, hlist, List.length_map]
    have hval : ∀ j : Nat, j < xs.length → scr.slots[j]? = some (.int (xs.getD j 0)) := fun j hj => by
      rw [← Array.getElem?_toList, hlist]
      simp [hj]
    have hbl : b < s.heap.size := (Array.getElem?_eq_some_iff.mp hcb).1
    have hX : va_X b xs.length (fun j => xs.getD j 0) s s.heap := ⟨scr, hcb, hof, hkn, hsz, hval⟩
    have K : W p l e room_1 s m #[Value.ref b] below meth c s₁.heap [] 0 0 (lw_Z below #[Value.ref b] s) (entryFrame m ([Value.ref b] : List Value).toArray 4) := by
      rw [hh0]
      exact whole_start l hbd ⟨B.exec, B.bytes, B.returns, hml, hown, hts, hX, hbl, B.notSynchronized, hgv⟩
    obtain ⟨t, a1, o, b1, b2, b3⟩ := K s₁ rfl X₀
    exact ⟨t, o, a1, b1, b2, b3⟩
theorem lw_pre_spec {args : Array Value} {s : State} (h : (Jvm.Cond.and given_1 narrow_1).before args s = true) (hr : rest_1_c.before args s = true) : ∃ (b : Addr) (xs : List Int32), lw_P b xs args s := by
  have hs := flat_of_before _ h
  have hq := flat_of_before _ hr
  have hc : (Cond.count 1).before args s = true := hs _ (by decide +kernel)
  have harr : (Cond.arrayOf (.arg 0) .int).before args s = true := hs _ (by decide +kernel)
  have hle : (Cond.le (.length (.arg 0)) (.int 2560)).before args s = true := hs _ (by decide +kernel)
  have hlen : (Cond.isInt (.length (.arg 0))).before args s = true := hq _ (by decide +kernel)
  have hall : (Cond.all (.arg 0) (.isInt (.elem (.arg 0) (.index 0)))).before args s = true := hq _ (by decide +kernel)
  obtain ⟨b, xs, hb, hx⟩ := State.ints_of_pre rfl harr hlen hall
  have hsm : xs.length < 2 ^ 31 := hx.choose_spec.2.2.2
  have hev : (Term.length (.arg 0)).eval args s none [] s = some (.int xs.length.toInt32) := hx.length_eval hb
  have hv := Cond.le_ints hev (show (Term.int 2560).eval args s none [] s = some (.int 2560) from rfl)
  have hd : xs.length.toInt32 ≤ 2560 := by
    simpa [Cond.before, Cond.holds, hv] using hle
  have hN : xs.length ≤ 2560 := (Int32.ofNat_le_ofNat hsm (by decide)).mp (show Int32.ofNat xs.length ≤ Int32.ofNat 2560 from hd)
  exact ⟨b, xs, Cond.one_arg hc (show args[0]? = some (.ref b) from hb), hx, hN, h⟩
theorem lw_comes (l : Launch) : Comes l x (Jvm.Cond.code x code maxLocals ret :: tables_1) room_1 (fun tb e args s => Calls_1 tb e args s ∧ rest_1 tb e args s ∧ Pre_1 tb e args s)
    (fun _ _ args s o t => lw_Q args s o t) := by
  intro p e ha hc hk s m args below hf hfit hheap happ hpre
  obtain ⟨b, xs, hP⟩ := lw_pre_spec hpre.2.2 hpre.2.1
  obtain ⟨k, o, h1, h2, h3, hQ⟩ := lw_walk l b xs p e ha hc hk s m args below hf ((Spec.applies_iff_loose hf).mp happ).1 hP trivial
  exact ⟨k, o, h1, h2, h3, hQ⟩
theorem lw_frame {s t : State} {o : Outcome} {args : Array Value} (h : Framed s o t [] 600000 7302250) :
    Framed s o t (fieldLocs frame_1_writes args s ++ arrayLocs frame_1_arrays args s ++ staticLocs frame_1_statics s) 600000 7302250 := h
theorem lw_limb (L : Cond) (hL : ∀ (args : Array Value) (s t : State), L.after args s (.returned (some (.int 1))) t = true) :
    ArmFor flags0 classFile x code maxLocals ret World_1 tables_1 room_1 Calls_1 rest_1 Pre_1
      (fun tb e a s o t => postC L tb e a s o t ∧ Framed s o t (fieldLocs frame_1_writes a s ++ arrayLocs frame_1_arrays a s ++ staticLocs frame_1_statics s) 600000 7302250) := by
  intro l _ _ _ p e ha hc hk s m args below hf hfit hheap happ hpre
  obtain ⟨k, o, h1, h2, h3, rfl, hF⟩ := lw_comes l p e ha hc hk s m args below hf hfit hheap happ hpre
  exact ⟨k, _, h1, h2, h3, hL args s _, lw_frame hF⟩
theorem i_vc : Claimed_1_1 ∧ Claimed_1_2 := ⟨lw_limb limb_1_1 (fun args s t => by simp [limb_1_1, Cond.after, Cond.holds, Cond.value]), lw_limb limb_1_2 (fun args s t => Cond.after_iff.mpr (by
  first | (rw [show limb_1_2 = Cond.eq .result (.int 1) from rfl, Cond.eq_ints (x := 1) (y := 1) rfl rfl]; simp; done) | (simp [limb_1_2, Cond.value, Term.eval]; done)))⟩

