section
-- ===== PART A: goes FIRST, ahead of the names: the tables' words, and 'selects' of the private methods out of them =====
/-- a private method of a class that the tables say can be made, by its rows of tables_1 -/
def lw_okq (q : MethodName × Nat) : Prop := (q.1.cls ≠ "java/lang/invoke/MethodHandle" ∧ q.1.cls ≠ "java/lang/invoke/VarHandle") ∧ Cond.instantiable q.1.cls q.2 ∈ tables_1 ∧ Cond.privateMethod q.1 ∈ tables_1 ∧ Cond.instanceMethod q.1 ∈ tables_1
theorem lw_p0 : lw_okq (⟨"EarSchool$Metre", "fillBar", "(II)V"⟩, 6) := ⟨⟨by decide +kernel, by decide +kernel⟩, List.mem_of_getElem? (i := 132) (by decide +kernel), List.mem_of_getElem? (i := 502) (by decide +kernel), List.mem_of_getElem? (i := 503) (by decide +kernel)⟩
theorem lw_p1 : lw_okq (⟨"EarSchool$Metre", "onward", "(IIII)J"⟩, 6) := ⟨⟨by decide +kernel, by decide +kernel⟩, List.mem_of_getElem? (i := 132) (by decide +kernel), List.mem_of_getElem? (i := 506) (by decide +kernel), List.mem_of_getElem? (i := 507) (by decide +kernel)⟩
theorem lw_p2 : lw_okq (⟨"EarSchool$Metre", "put", "(IIJ)V"⟩, 6) := ⟨⟨by decide +kernel, by decide +kernel⟩, List.mem_of_getElem? (i := 132) (by decide +kernel), List.mem_of_getElem? (i := 512) (by decide +kernel), List.mem_of_getElem? (i := 513) (by decide +kernel)⟩
theorem lw_p3 : lw_okq (⟨"EarSchool$Harmony", "findThrees", "(I)V"⟩, 8) := ⟨⟨by decide +kernel, by decide +kernel⟩, List.mem_of_getElem? (i := 161) (by decide +kernel), List.mem_of_getElem? (i := 555) (by decide +kernel), List.mem_of_getElem? (i := 556) (by decide +kernel)⟩
theorem lw_p4 : lw_okq (⟨"EarSchool$Harmony", "findAbove", "(II)V"⟩, 8) := ⟨⟨by decide +kernel, by decide +kernel⟩, List.mem_of_getElem? (i := 161) (by decide +kernel), List.mem_of_getElem? (i := 560) (by decide +kernel), List.mem_of_getElem? (i := 561) (by decide +kernel)⟩
theorem lw_p5 : lw_okq (⟨"EarSchool$Harmony", "waysBehind", "(II)J"⟩, 8) := ⟨⟨by decide +kernel, by decide +kernel⟩, List.mem_of_getElem? (i := 161) (by decide +kernel), List.mem_of_getElem? (i := 567) (by decide +kernel), List.mem_of_getElem? (i := 568) (by decide +kernel)⟩
theorem lw_p6 : lw_okq (⟨"EarSchool$Harmony", "mayFollow", "(III)Z"⟩, 8) := ⟨⟨by decide +kernel, by decide +kernel⟩, List.mem_of_getElem? (i := 161) (by decide +kernel), List.mem_of_getElem? (i := 571) (by decide +kernel), List.mem_of_getElem? (i := 572) (by decide +kernel)⟩
theorem lw_p7 : lw_okq (⟨"EarSchool$Harmony", "parallel", "(IIIII)Z"⟩, 8) := ⟨⟨by decide +kernel, by decide +kernel⟩, List.mem_of_getElem? (i := 161) (by decide +kernel), List.mem_of_getElem? (i := 581) (by decide +kernel), List.mem_of_getElem? (i := 582) (by decide +kernel)⟩
theorem lw_p8 : lw_okq (⟨"EarSchool$Judgement", "fillBorder", "(II)V"⟩, 10) := ⟨⟨by decide +kernel, by decide +kernel⟩, List.mem_of_getElem? (i := 197) (by decide +kernel), List.mem_of_getElem? (i := 616) (by decide +kernel), List.mem_of_getElem? (i := 617) (by decide +kernel)⟩
theorem lw_p9 : lw_okq (⟨"EarSchool$Judgement", "index", "(III)I"⟩, 10) := ⟨⟨by decide +kernel, by decide +kernel⟩, List.mem_of_getElem? (i := 197) (by decide +kernel), List.mem_of_getElem? (i := 620) (by decide +kernel), List.mem_of_getElem? (i := 621) (by decide +kernel)⟩
theorem lw_p10 : lw_okq (⟨"EarSchool$Judgement", "unshifted", "(III)I"⟩, 10) := ⟨⟨by decide +kernel, by decide +kernel⟩, List.mem_of_getElem? (i := 197) (by decide +kernel), List.mem_of_getElem? (i := 624) (by decide +kernel), List.mem_of_getElem? (i := 625) (by decide +kernel)⟩
theorem lw_p11 : lw_okq (⟨"EarSchool$Judgement", "byHit", "(III)I"⟩, 10) := ⟨⟨by decide +kernel, by decide +kernel⟩, List.mem_of_getElem? (i := 197) (by decide +kernel), List.mem_of_getElem? (i := 628) (by decide +kernel), List.mem_of_getElem? (i := 629) (by decide +kernel)⟩
theorem lw_p12 : lw_okq (⟨"EarSchool$Judgement", "hitCost", "(III)I"⟩, 10) := ⟨⟨by decide +kernel, by decide +kernel⟩, List.mem_of_getElem? (i := 197) (by decide +kernel), List.mem_of_getElem? (i := 633) (by decide +kernel), List.mem_of_getElem? (i := 634) (by decide +kernel)⟩
theorem lw_p13 : lw_okq (⟨"EarSchool$Judgement", "lengthCost", "(II)I"⟩, 10) := ⟨⟨by decide +kernel, by decide +kernel⟩, List.mem_of_getElem? (i := 197) (by decide +kernel), List.mem_of_getElem? (i := 637) (by decide +kernel), List.mem_of_getElem? (i := 638) (by decide +kernel)⟩
theorem lw_p14 : lw_okq (⟨"EarSchool$Judgement", "from", "(III)I"⟩, 10) := ⟨⟨by decide +kernel, by decide +kernel⟩, List.mem_of_getElem? (i := 197) (by decide +kernel), List.mem_of_getElem? (i := 641) (by decide +kernel), List.mem_of_getElem? (i := 642) (by decide +kernel)⟩
theorem lw_p15 : lw_okq (⟨"EarSchool$Judgement", "byLost", "(III)I"⟩, 10) := ⟨⟨by decide +kernel, by decide +kernel⟩, List.mem_of_getElem? (i := 197) (by decide +kernel), List.mem_of_getElem? (i := 646) (by decide +kernel), List.mem_of_getElem? (i := 647) (by decide +kernel)⟩
def lw_privs_1 : List (MethodName × Nat) := [(⟨"EarSchool$Metre", "fillBar", "(II)V"⟩, 6), (⟨"EarSchool$Metre", "onward", "(IIII)J"⟩, 6), (⟨"EarSchool$Metre", "put", "(IIJ)V"⟩, 6), (⟨"EarSchool$Harmony", "findThrees", "(I)V"⟩, 8), (⟨"EarSchool$Harmony", "findAbove", "(II)V"⟩, 8), (⟨"EarSchool$Harmony", "waysBehind", "(II)J"⟩, 8), (⟨"EarSchool$Harmony", "mayFollow", "(III)Z"⟩, 8), (⟨"EarSchool$Harmony", "parallel", "(IIIII)Z"⟩, 8), (⟨"EarSchool$Judgement", "fillBorder", "(II)V"⟩, 10), (⟨"EarSchool$Judgement", "index", "(III)I"⟩, 10), (⟨"EarSchool$Judgement", "unshifted", "(III)I"⟩, 10), (⟨"EarSchool$Judgement", "byHit", "(III)I"⟩, 10), (⟨"EarSchool$Judgement", "hitCost", "(III)I"⟩, 10), (⟨"EarSchool$Judgement", "lengthCost", "(II)I"⟩, 10), (⟨"EarSchool$Judgement", "from", "(III)I"⟩, 10), (⟨"EarSchool$Judgement", "byLost", "(III)I"⟩, 10)]
theorem lw_r1 : ∀ q ∈ lw_privs_1, lw_okq q := List.forall_mem_cons.mpr ⟨lw_p0, List.forall_mem_cons.mpr ⟨lw_p1, List.forall_mem_cons.mpr ⟨lw_p2, List.forall_mem_cons.mpr ⟨lw_p3, List.forall_mem_cons.mpr ⟨lw_p4, List.forall_mem_cons.mpr ⟨lw_p5, List.forall_mem_cons.mpr ⟨lw_p6, List.forall_mem_cons.mpr ⟨lw_p7, List.forall_mem_cons.mpr ⟨lw_p8, List.forall_mem_cons.mpr ⟨lw_p9, List.forall_mem_cons.mpr ⟨lw_p10, List.forall_mem_cons.mpr ⟨lw_p11, List.forall_mem_cons.mpr ⟨lw_p12, List.forall_mem_cons.mpr ⟨lw_p13, List.forall_mem_cons.mpr ⟨lw_p14, List.forall_mem_cons.mpr ⟨lw_p15, fun _ h => absurd h List.not_mem_nil⟩⟩⟩⟩⟩⟩⟩⟩⟩⟩⟩⟩⟩⟩⟩⟩
theorem lw_p16 : lw_okq (⟨"EarSchool$Judgement", "byMore", "(III)I"⟩, 10) := ⟨⟨by decide +kernel, by decide +kernel⟩, List.mem_of_getElem? (i := 197) (by decide +kernel), List.mem_of_getElem? (i := 650) (by decide +kernel), List.mem_of_getElem? (i := 651) (by decide +kernel)⟩
theorem lw_p17 : lw_okq (⟨"EarSchool$Judgement", "moreCost", "(I)I"⟩, 10) := ⟨⟨by decide +kernel, by decide +kernel⟩, List.mem_of_getElem? (i := 197) (by decide +kernel), List.mem_of_getElem? (i := 654) (by decide +kernel), List.mem_of_getElem? (i := 655) (by decide +kernel)⟩
theorem lw_p18 : lw_okq (⟨"EarSchool$Judgement", "fillInside", "(II)V"⟩, 10) := ⟨⟨by decide +kernel, by decide +kernel⟩, List.mem_of_getElem? (i := 197) (by decide +kernel), List.mem_of_getElem? (i := 659) (by decide +kernel), List.mem_of_getElem? (i := 660) (by decide +kernel)⟩
theorem lw_p19 : lw_okq (⟨"EarSchool$Judgement", "readActs", "()V"⟩, 10) := ⟨⟨by decide +kernel, by decide +kernel⟩, List.mem_of_getElem? (i := 197) (by decide +kernel), List.mem_of_getElem? (i := 663) (by decide +kernel), List.mem_of_getElem? (i := 664) (by decide +kernel)⟩
theorem lw_p20 : lw_okq (⟨"EarSchool$Judgement", "nextAct", "(IIIZ)I"⟩, 10) := ⟨⟨by decide +kernel, by decide +kernel⟩, List.mem_of_getElem? (i := 197) (by decide +kernel), List.mem_of_getElem? (i := 667) (by decide +kernel), List.mem_of_getElem? (i := 668) (by decide +kernel)⟩
theorem lw_p21 : lw_okq (⟨"EarSchool$Judgement", "push", "(IIII)V"⟩, 10) := ⟨⟨by decide +kernel, by decide +kernel⟩, List.mem_of_getElem? (i := 197) (by decide +kernel), List.mem_of_getElem? (i := 671) (by decide +kernel), List.mem_of_getElem? (i := 672) (by decide +kernel)⟩
theorem lw_p22 : lw_okq (⟨"EarSchoolModel", "countWays", "()V"⟩, 38) := ⟨⟨by decide +kernel, by decide +kernel⟩, List.mem_of_getElem? (i := 735) (by decide +kernel), List.mem_of_getElem? (i := 897) (by decide +kernel), List.mem_of_getElem? (i := 898) (by decide +kernel)⟩
theorem lw_p23 : lw_okq (⟨"EarSchoolModel", "fits", "(II)Z"⟩, 38) := ⟨⟨by decide +kernel, by decide +kernel⟩, List.mem_of_getElem? (i := 735) (by decide +kernel), List.mem_of_getElem? (i := 904) (by decide +kernel), List.mem_of_getElem? (i := 905) (by decide +kernel)⟩
theorem lw_p24 : lw_okq (⟨"EarSchoolModel", "waysOn", "(III)J"⟩, 38) := ⟨⟨by decide +kernel, by decide +kernel⟩, List.mem_of_getElem? (i := 735) (by decide +kernel), List.mem_of_getElem? (i := 911) (by decide +kernel), List.mem_of_getElem? (i := 912) (by decide +kernel)⟩
theorem lw_p25 : lw_okq (⟨"EarSchoolModel", "behind", "(II)I"⟩, 38) := ⟨⟨by decide +kernel, by decide +kernel⟩, List.mem_of_getElem? (i := 735) (by decide +kernel), List.mem_of_getElem? (i := 915) (by decide +kernel), List.mem_of_getElem? (i := 916) (by decide +kernel)⟩
theorem lw_p26 : lw_okq (⟨"EarSchoolModel", "lay", "(III)V"⟩, 38) := ⟨⟨by decide +kernel, by decide +kernel⟩, List.mem_of_getElem? (i := 735) (by decide +kernel), List.mem_of_getElem? (i := 930) (by decide +kernel), List.mem_of_getElem? (i := 931) (by decide +kernel)⟩
theorem lw_p27 : lw_okq (⟨"EarSchoolModel", "laid", "(I)V"⟩, 38) := ⟨⟨by decide +kernel, by decide +kernel⟩, List.mem_of_getElem? (i := 735) (by decide +kernel), List.mem_of_getElem? (i := 934) (by decide +kernel), List.mem_of_getElem? (i := 935) (by decide +kernel)⟩
theorem lw_p28 : lw_okq (⟨"EarSchoolModel", "countFills", "()V"⟩, 38) := ⟨⟨by decide +kernel, by decide +kernel⟩, List.mem_of_getElem? (i := 735) (by decide +kernel), List.mem_of_getElem? (i := 956) (by decide +kernel), List.mem_of_getElem? (i := 957) (by decide +kernel)⟩
theorem lw_p29 : lw_okq (⟨"EarSchoolModel", "goes", "(II)Z"⟩, 38) := ⟨⟨by decide +kernel, by decide +kernel⟩, List.mem_of_getElem? (i := 735) (by decide +kernel), List.mem_of_getElem? (i := 960) (by decide +kernel), List.mem_of_getElem? (i := 961) (by decide +kernel)⟩
theorem lw_p30 : lw_okq (⟨"EarSchoolModel", "countChords", "()V"⟩, 38) := ⟨⟨by decide +kernel, by decide +kernel⟩, List.mem_of_getElem? (i := 735) (by decide +kernel), List.mem_of_getElem? (i := 986) (by decide +kernel), List.mem_of_getElem? (i := 987) (by decide +kernel)⟩
theorem lw_p31 : lw_okq (⟨"EarSchoolModel", "findThrees", "(I)V"⟩, 38) := ⟨⟨by decide +kernel, by decide +kernel⟩, List.mem_of_getElem? (i := 735) (by decide +kernel), List.mem_of_getElem? (i := 990) (by decide +kernel), List.mem_of_getElem? (i := 991) (by decide +kernel)⟩
def lw_privs_2 : List (MethodName × Nat) := [(⟨"EarSchool$Judgement", "byMore", "(III)I"⟩, 10), (⟨"EarSchool$Judgement", "moreCost", "(I)I"⟩, 10), (⟨"EarSchool$Judgement", "fillInside", "(II)V"⟩, 10), (⟨"EarSchool$Judgement", "readActs", "()V"⟩, 10), (⟨"EarSchool$Judgement", "nextAct", "(IIIZ)I"⟩, 10), (⟨"EarSchool$Judgement", "push", "(IIII)V"⟩, 10), (⟨"EarSchoolModel", "countWays", "()V"⟩, 38), (⟨"EarSchoolModel", "fits", "(II)Z"⟩, 38), (⟨"EarSchoolModel", "waysOn", "(III)J"⟩, 38), (⟨"EarSchoolModel", "behind", "(II)I"⟩, 38), (⟨"EarSchoolModel", "lay", "(III)V"⟩, 38), (⟨"EarSchoolModel", "laid", "(I)V"⟩, 38), (⟨"EarSchoolModel", "countFills", "()V"⟩, 38), (⟨"EarSchoolModel", "goes", "(II)Z"⟩, 38), (⟨"EarSchoolModel", "countChords", "()V"⟩, 38), (⟨"EarSchoolModel", "findThrees", "(I)V"⟩, 38)]
theorem lw_r2 : ∀ q ∈ lw_privs_2, lw_okq q := List.forall_mem_cons.mpr ⟨lw_p16, List.forall_mem_cons.mpr ⟨lw_p17, List.forall_mem_cons.mpr ⟨lw_p18, List.forall_mem_cons.mpr ⟨lw_p19, List.forall_mem_cons.mpr ⟨lw_p20, List.forall_mem_cons.mpr ⟨lw_p21, List.forall_mem_cons.mpr ⟨lw_p22, List.forall_mem_cons.mpr ⟨lw_p23, List.forall_mem_cons.mpr ⟨lw_p24, List.forall_mem_cons.mpr ⟨lw_p25, List.forall_mem_cons.mpr ⟨lw_p26, List.forall_mem_cons.mpr ⟨lw_p27, List.forall_mem_cons.mpr ⟨lw_p28, List.forall_mem_cons.mpr ⟨lw_p29, List.forall_mem_cons.mpr ⟨lw_p30, List.forall_mem_cons.mpr ⟨lw_p31, fun _ h => absurd h List.not_mem_nil⟩⟩⟩⟩⟩⟩⟩⟩⟩⟩⟩⟩⟩⟩⟩⟩
theorem lw_p32 : lw_okq (⟨"EarSchoolModel", "follows", "(III)Z"⟩, 38) := ⟨⟨by decide +kernel, by decide +kernel⟩, List.mem_of_getElem? (i := 735) (by decide +kernel), List.mem_of_getElem? (i := 994) (by decide +kernel), List.mem_of_getElem? (i := 995) (by decide +kernel)⟩
theorem lw_p33 : lw_okq (⟨"EarSchoolModel", "pitchOf", "(III)I"⟩, 38) := ⟨⟨by decide +kernel, by decide +kernel⟩, List.mem_of_getElem? (i := 735) (by decide +kernel), List.mem_of_getElem? (i := 998) (by decide +kernel), List.mem_of_getElem? (i := 999) (by decide +kernel)⟩
theorem lw_p34 : lw_okq (⟨"EarSchoolModel", "leastAt", "(IIII)I"⟩, 38) := ⟨⟨by decide +kernel, by decide +kernel⟩, List.mem_of_getElem? (i := 735) (by decide +kernel), List.mem_of_getElem? (i := 1019) (by decide +kernel), List.mem_of_getElem? (i := 1020) (by decide +kernel)⟩
theorem lw_p35 : lw_okq (⟨"EarSchoolModel", "by", "(IIIII)I"⟩, 38) := ⟨⟨by decide +kernel, by decide +kernel⟩, List.mem_of_getElem? (i := 735) (by decide +kernel), List.mem_of_getElem? (i := 1023) (by decide +kernel), List.mem_of_getElem? (i := 1024) (by decide +kernel)⟩
theorem lw_p36 : lw_okq (⟨"EarSchoolModel", "hitCost", "(III)I"⟩, 38) := ⟨⟨by decide +kernel, by decide +kernel⟩, List.mem_of_getElem? (i := 735) (by decide +kernel), List.mem_of_getElem? (i := 1027) (by decide +kernel), List.mem_of_getElem? (i := 1028) (by decide +kernel)⟩
theorem lw_p37 : lw_okq (⟨"EarSchoolModel", "moreCost", "(I)I"⟩, 38) := ⟨⟨by decide +kernel, by decide +kernel⟩, List.mem_of_getElem? (i := 735) (by decide +kernel), List.mem_of_getElem? (i := 1031) (by decide +kernel), List.mem_of_getElem? (i := 1032) (by decide +kernel)⟩
theorem lw_p38 : lw_okq (⟨"EarSchoolModel", "layAct", "(IIIII)V"⟩, 38) := ⟨⟨by decide +kernel, by decide +kernel⟩, List.mem_of_getElem? (i := 735) (by decide +kernel), List.mem_of_getElem? (i := 1035) (by decide +kernel), List.mem_of_getElem? (i := 1036) (by decide +kernel)⟩
theorem lw_p39 : lw_okq (⟨"EarSchoolModel", "weight", "(II)I"⟩, 38) := ⟨⟨by decide +kernel, by decide +kernel⟩, List.mem_of_getElem? (i := 735) (by decide +kernel), List.mem_of_getElem? (i := 1052) (by decide +kernel), List.mem_of_getElem? (i := 1053) (by decide +kernel)⟩
theorem lw_p40 : lw_okq (⟨"EarSchoolModel", "bestOn", "(IIII)J"⟩, 38) := ⟨⟨by decide +kernel, by decide +kernel⟩, List.mem_of_getElem? (i := 735) (by decide +kernel), List.mem_of_getElem? (i := 1060) (by decide +kernel), List.mem_of_getElem? (i := 1061) (by decide +kernel)⟩
theorem lw_p41 : lw_okq (⟨"EarSchoolModel", "goingOn", "(IIIII)J"⟩, 38) := ⟨⟨by decide +kernel, by decide +kernel⟩, List.mem_of_getElem? (i := 735) (by decide +kernel), List.mem_of_getElem? (i := 1064) (by decide +kernel), List.mem_of_getElem? (i := 1065) (by decide +kernel)⟩
def lw_privs_3 : List (MethodName × Nat) := [(⟨"EarSchoolModel", "follows", "(III)Z"⟩, 38), (⟨"EarSchoolModel", "pitchOf", "(III)I"⟩, 38), (⟨"EarSchoolModel", "leastAt", "(IIII)I"⟩, 38), (⟨"EarSchoolModel", "by", "(IIIII)I"⟩, 38), (⟨"EarSchoolModel", "hitCost", "(III)I"⟩, 38), (⟨"EarSchoolModel", "moreCost", "(I)I"⟩, 38), (⟨"EarSchoolModel", "layAct", "(IIIII)V"⟩, 38), (⟨"EarSchoolModel", "weight", "(II)I"⟩, 38), (⟨"EarSchoolModel", "bestOn", "(IIII)J"⟩, 38), (⟨"EarSchoolModel", "goingOn", "(IIIII)J"⟩, 38)]
theorem lw_r3 : ∀ q ∈ lw_privs_3, lw_okq q := List.forall_mem_cons.mpr ⟨lw_p32, List.forall_mem_cons.mpr ⟨lw_p33, List.forall_mem_cons.mpr ⟨lw_p34, List.forall_mem_cons.mpr ⟨lw_p35, List.forall_mem_cons.mpr ⟨lw_p36, List.forall_mem_cons.mpr ⟨lw_p37, List.forall_mem_cons.mpr ⟨lw_p38, List.forall_mem_cons.mpr ⟨lw_p39, List.forall_mem_cons.mpr ⟨lw_p40, List.forall_mem_cons.mpr ⟨lw_p41, fun _ h => absurd h List.not_mem_nil⟩⟩⟩⟩⟩⟩⟩⟩⟩⟩
def lw_privs : List (MethodName × Nat) := lw_privs_1 ++ (lw_privs_2 ++ (lw_privs_3))
def lw_tbl : List Cond := k2_sels lw_privs ++ tables_1
theorem lw_privs_ok : ∀ q ∈ lw_privs, lw_okq q := by
  show ∀ q ∈ lw_privs_1 ++ (lw_privs_2 ++ (lw_privs_3)), lw_okq q
  exact List.forall_mem_append.mpr ⟨lw_r1, List.forall_mem_append.mpr ⟨lw_r2, lw_r3⟩⟩
/-! the classes whose objects the worlds hold, their fields in the order of the slots -/
def es_F0 : List (String × String × String × Bool) := [("EarSchool", "row", "LEarSchool$Notes;", true), ("EarSchool", "intended", "LEarSchool$Notes;", true), ("EarSchool", "rule", "LEarSchool$Rule;", true), ("EarSchool", "counts", "LEarSchool$CountTable;", true), ("EarSchool", "weights", "LEarSchool$WeightTable;", true), ("EarSchool", "metre", "LEarSchool$Metre;", true), ("EarSchool", "harmony", "LEarSchool$Harmony;", true), ("EarSchool", "judgement", "LEarSchool$Judgement;", true), ("EarSchool", "pupils", "LEarSchool$Pupils;", true)]
def es_T0 : u_T := fun k => es_F0.getD k ("", "I", "I", false)
def es_F1 : List (String × String × String × Bool) := [("EarSchool$Notes", "pitch", "[I", true), ("EarSchool$Notes", "length", "[I", true), ("EarSchool$Notes", "size", "I", false)]
def es_T1 : u_T := fun k => es_F1.getD k ("", "I", "I", false)
def es_F2 : List (String × String × String × Bool) := [("EarSchool$Rule", "bitsOf", "[I", true), ("EarSchool$Rule", "low", "I", false), ("EarSchool$Rule", "high", "I", false), ("EarSchool$Rule", "n", "I", false), ("EarSchool$Rule", "leap", "I", false), ("EarSchool$Rule", "repeats", "I", false)]
def es_T2 : u_T := fun k => es_F2.getD k ("", "I", "I", false)
def es_F3 : List (String × String × String × Bool) := [("EarSchool$MelodyTable", "rule", "LEarSchool$Rule;", true), ("EarSchool$MelodyTable", "worth", "[J", true), ("EarSchool$MelodyTable", "filled", "Z", false)]
def es_T3 : u_T := fun k => es_F3.getD k ("", "I", "I", false)
def es_F4 : List (String × String × String × Bool) := [("EarSchool$MelodyTable", "rule", "LEarSchool$Rule;", true), ("EarSchool$MelodyTable", "worth", "[J", true), ("EarSchool$MelodyTable", "filled", "Z", false), ("EarSchool$WeightTable", "weightOf", "[I", true)]
def es_T4 : u_T := fun k => es_F4.getD k ("", "I", "I", false)
def es_F5 : List (String × String × String × Bool) := [("EarSchool$Metre", "lengths", "[I", true), ("EarSchool$Metre", "size", "I", false), ("EarSchool$Metre", "many", "I", false), ("EarSchool$Metre", "beat", "I", false), ("EarSchool$Metre", "filled", "Z", false), ("EarSchool$Metre", "ways", "[J", true)]
def es_T5 : u_T := fun k => es_F5.getD k ("", "I", "I", false)
def es_F6 : List (String × String × String × Bool) := [("EarSchool$Harmony", "masks", "[I", true), ("EarSchool$Harmony", "lowest", "[I", true), ("EarSchool$Harmony", "size", "I", false), ("EarSchool$Harmony", "most", "I", false), ("EarSchool$Harmony", "filled", "Z", false), ("EarSchool$Harmony", "threes", "[I", true), ("EarSchool$Harmony", "pitches", "[I", true), ("EarSchool$Harmony", "ways", "[J", true)]
def es_T6 : u_T := fun k => es_F6.getD k ("", "I", "I", false)
def es_F7 : List (String × String × String × Bool) := [("EarSchool$Judgement", "meantNotes", "LEarSchool$Notes;", true), ("EarSchool$Judgement", "answer", "LEarSchool$Notes;", true), ("EarSchool$Judgement", "least", "[I", true), ("EarSchool$Judgement", "number", "[I", true), ("EarSchool$Judgement", "ofMeant", "[I", true), ("EarSchool$Judgement", "ofAnswer", "[I", true), ("EarSchool$Judgement", "cost", "[I", true), ("EarSchool$Judgement", "size", "I", false), ("EarSchool$Judgement", "sum", "I", false), ("EarSchool$Judgement", "standing", "Z", false)]
def es_T7 : u_T := fun k => es_F7.getD k ("", "I", "I", false)
def es_F8 : List (String × String × String × Bool) := [("EarSchool$Pupils", "asked", "[[I", true), ("EarSchool$Pupils", "missed", "[[I", true)]
def es_T8 : u_T := fun k => es_F8.getD k ("", "I", "I", false)
def es_F9 : List (String × String × String × Bool) := [("EarSchoolModel", "notes", "I", false), ("EarSchoolModel", "pitch", "[I", true), ("EarSchoolModel", "length", "[I", true), ("EarSchoolModel", "meantMany", "I", false), ("EarSchoolModel", "meantPitch", "[I", true), ("EarSchoolModel", "meantLength", "[I", true), ("EarSchoolModel", "isJudged", "Z", false), ("EarSchoolModel", "low", "I", false), ("EarSchoolModel", "high", "I", false), ("EarSchoolModel", "n", "I", false), ("EarSchoolModel", "scale", "I", false), ("EarSchoolModel", "begin", "I", false), ("EarSchoolModel", "end", "I", false), ("EarSchoolModel", "steps", "I", false), ("EarSchoolModel", "leap", "I", false), ("EarSchoolModel", "repeats", "I", false), ("EarSchoolModel", "bars", "I", false), ("EarSchoolModel", "beat", "I", false), ("EarSchoolModel", "isSome", "[Z", true), ("EarSchoolModel", "someMany", "I", false), ("EarSchoolModel", "masks", "I", false), ("EarSchoolModel", "mask", "[I", true), ("EarSchoolModel", "lowest", "[I", true), ("EarSchoolModel", "most", "I", false), ("EarSchoolModel", "asked", "[I", true), ("EarSchoolModel", "missed", "[I", true), ("EarSchoolModel", "ways", "[J", true), ("EarSchoolModel", "fills", "[J", true), ("EarSchoolModel", "threes", "[I", true), ("EarSchoolModel", "threeMany", "[I", true), ("EarSchoolModel", "chordWays", "[J", true), ("EarSchoolModel", "costs", "[I", true), ("EarSchoolModel", "acts", "I", false), ("EarSchoolModel", "actNumber", "[I", true), ("EarSchoolModel", "actMeant", "[I", true), ("EarSchoolModel", "actOwn", "[I", true), ("EarSchoolModel", "actCost", "[I", true), ("EarSchoolModel", "actShift", "[I", true)]
def es_T9 : u_T := fun k => es_F9.getD k ("", "I", "I", false)
def es_cl : List vw_C := [("EarSchool", es_T0, 9), ("EarSchool$Notes", es_T1, 3), ("EarSchool$Rule", es_T2, 6), ("EarSchool$CountTable", es_T3, 3), ("EarSchool$WeightTable", es_T4, 4), ("EarSchool$Metre", es_T5, 6), ("EarSchool$Harmony", es_T6, 8), ("EarSchool$Judgement", es_T7, 10), ("EarSchool$Pupils", es_T8, 2), ("EarSchoolModel", es_T9, 38)]
def es_ty (T : u_T) : Nat → FieldType := fun k => (parseFieldDescriptor (T k).2.2.1).getD .int
def es_clok (q : vw_C) : Prop := (∀ w ∈ u_ws q.1 q.2.1 q.2.2, w ∈ lw_tbl) ∧ (∀ k, k < q.2.2 → parseFieldDescriptor (q.2.1 k).2.2.1 = some (es_ty q.2.1 k)) ∧ (∀ a, a < q.2.2 → ∀ b, b < q.2.2 → a ≠ b → (q.2.1 a).2.1 ≠ (q.2.1 b).2.1)
theorem es_ok0 : es_clok ("EarSchool", es_T0, 9) := ⟨by decide +kernel, by decide +kernel, by decide +kernel⟩
theorem es_ok1 : es_clok ("EarSchool$Notes", es_T1, 3) := ⟨by decide +kernel, by decide +kernel, by decide +kernel⟩
theorem es_ok2 : es_clok ("EarSchool$Rule", es_T2, 6) := ⟨by decide +kernel, by decide +kernel, by decide +kernel⟩
theorem es_ok3 : es_clok ("EarSchool$CountTable", es_T3, 3) := ⟨by decide +kernel, by decide +kernel, by decide +kernel⟩
theorem es_ok4 : es_clok ("EarSchool$WeightTable", es_T4, 4) := ⟨by decide +kernel, by decide +kernel, by decide +kernel⟩
theorem es_ok5 : es_clok ("EarSchool$Metre", es_T5, 6) := ⟨by decide +kernel, by decide +kernel, by decide +kernel⟩
theorem es_ok6 : es_clok ("EarSchool$Harmony", es_T6, 8) := ⟨by decide +kernel, by decide +kernel, by decide +kernel⟩
theorem es_ok7 : es_clok ("EarSchool$Judgement", es_T7, 10) := ⟨by decide +kernel, by decide +kernel, by decide +kernel⟩
theorem es_ok8 : es_clok ("EarSchool$Pupils", es_T8, 2) := ⟨by decide +kernel, by decide +kernel, by decide +kernel⟩
theorem es_ok9 : es_clok ("EarSchoolModel", es_T9, 38) := ⟨by decide +kernel, by decide +kernel, by decide +kernel⟩
theorem es_cl_ok : ∀ (ci : Nat) (q : vw_C), es_cl[ci]? = some q → es_clok q := by
  intro ci q h
  have hm := List.mem_of_getElem? h
  simp only [es_cl, List.mem_cons, List.not_mem_nil, or_false] at hm
  rcases hm with rfl | rfl | rfl | rfl | rfl | rfl | rfl | rfl | rfl | rfl
  · exact es_ok0
  · exact es_ok1
  · exact es_ok2
  · exact es_ok3
  · exact es_ok4
  · exact es_ok5
  · exact es_ok6
  · exact es_ok7
  · exact es_ok8
  · exact es_ok9
/-! the private methods of the abstract class, chosen at either of its subclasses -/
def es_mp : List MethodName := [⟨"EarSchool$MelodyTable", "fillPitch", "(II)V"⟩, ⟨"EarSchool$MelodyTable", "fillStates", "(IIJ)V"⟩, ⟨"EarSchool$MelodyTable", "put", "(IIIJ)V"⟩, ⟨"EarSchool$MelodyTable", "index", "(III)I"⟩, ⟨"EarSchool$MelodyTable", "byStep", "(IIII)J"⟩]
def es_xs : List Cond := es_mp.map (fun y => Cond.selects "EarSchool$CountTable" y y) ++ es_mp.map (fun y => Cond.selects "EarSchool$WeightTable" y y)
def es_tbl : List Cond := es_xs ++ lw_tbl
theorem es_selp {y : MethodName} {C : String} {s : State} {args : Array Value} {n : Nat} {a b d : String} (hy : y.cls ≠ "java/lang/invoke/MethodHandle" ∧ y.cls ≠ "java/lang/invoke/VarHandle")
    (hins : (Cond.instantiable C n).before args s = true) (hsm : (Cond.sameMethod y.cls a b d).before args s = true) (hpriv : (Cond.privateMethod y).before args s = true) (hinst : (Cond.instanceMethod y).before args s = true) :
    (Cond.selects C y y).before args s = true := by
  obtain ⟨c, k, hc, hk, -, -, -, -⟩ := Cond.instantiable_spec hins
  obtain ⟨c2, k2, r2, hc2, hk2, hni2, -, -⟩ := Cond.sameMethod_found hsm
  obtain ⟨mk, methM, hnamed, hmethM, -, -⟩ := Cond.instanceMethod_spec hinst
  have hfound : s.methodFound? y.cls y.name y.desc = some mk := State.methodFound?_of_named hnamed hy
  have hcls : mk.cls = c2 := Option.some.inj ((findClass_of_methodNamed hnamed).symm.trans hc2)
  have hsel : selectMethod {} s.vm c mk = .method mk := selectMethod_private hmethM (Cond.privateMethod_at hpriv mk methM hnamed hmethM)
  simp only [Cond.before, Cond.holds, Cond.value, hc, hfound, hnamed, hsel, hcls, hk2]
  simp; exact hni2
theorem es_mp_ok : ∀ y ∈ es_mp, y.cls = "EarSchool$MelodyTable" ∧ Cond.privateMethod y ∈ lw_tbl ∧ Cond.instanceMethod y ∈ lw_tbl := by decide +kernel
theorem es_hts {args : Array Value} {s : State} (h : ∀ w ∈ lw_tbl, w.before args s = true) : ∀ w ∈ es_tbl, w.before args s = true := by
  have i1 := h (.instantiable "EarSchool$CountTable" 3) (by decide +kernel)
  have i2 := h (.instantiable "EarSchool$WeightTable" 4) (by decide +kernel)
  have sm := h (.sameMethod "EarSchool$MelodyTable" "EarSchool$MelodyTable" "ofNone" "()J") (by decide +kernel)
  intro w hw
  rcases List.mem_append.mp hw with hw | hw
  · rcases List.mem_append.mp hw with hw | hw
    · obtain ⟨y, hy, rfl⟩ := List.mem_map.mp hw
      obtain ⟨e, p1, p2⟩ := es_mp_ok y hy
      exact es_selp (by rw [e]; decide) i1 (by rw [e]; exact sm) (h _ p1) (h _ p2)
    · obtain ⟨y, hy, rfl⟩ := List.mem_map.mp hw
      obtain ⟨e, p1, p2⟩ := es_mp_ok y hy
      exact es_selp (by rw [e]; decide) i2 (by rw [e]; exact sm) (h _ p1) (h _ p2)
  · exact h w hw
theorem es_in {w : Cond} (h : w ∈ lw_tbl) : w ∈ es_tbl := List.mem_append_right _ h
def es_gt : List Cond := es_tbl.filter goodWord
theorem es_gt_in {w : Cond} (h : w ∈ es_tbl) (hg : goodWord w = true) : w ∈ es_gt := List.mem_filter.mpr ⟨h, hg⟩
theorem es_gt_good : ∀ w ∈ es_gt, (w.onTables && w.keeps) = true ∨ ∃ ty, w = .arrayClass ty := fun w h => good_of_word (List.mem_filter.mp h).2
theorem es_gt_hts {args : Array Value} {s : State} (h : ∀ w ∈ es_tbl, w.before args s = true) : ∀ w ∈ es_gt, w.before args s = true := fun w hw => h w (List.mem_filter.mp hw).1
def es_isN : Cond → Bool
  | .methodLinkNest .. => true
  | .declares _ => true
  | _ => false
/-- the words of nest mates and of abstract methods -/
def es_N (U : State) : Prop := ∀ w ∈ lw_tbl, es_isN w = true → va_Nw w U
theorem es_N.warm {s U : State} (hW : s.WarmedH U.vm) (h : es_N s) : es_N U := by
  intro w hw hi
  have h1 := h w hw hi
  cases w <;> first | exact va_Nw.warmM hW h1 | exact va_Nw.warmD hW h1 | exact absurd hi Bool.false_ne_true
theorem es_N.same {u U : State} (hv : u.vm = U.vm) (h : es_N u) : es_N U := by
  intro w hw hi
  have h1 := h w hw hi
  cases w <;> first | exact absurd hi Bool.false_ne_true | exact va_Nw.same rfl hv h1
theorem es_N.of {args : Array Value} {s : State} (h : ∀ w ∈ lw_tbl, w.before args s = true) : es_N s := by
  intro w hw hi
  have h1 := h w hw
  cases w <;> first | exact absurd hi Bool.false_ne_true | exact va_Nw.of rfl h1
end
section
abbrev am_v : Type := Int ⊕ (Int ⊕ Nat)
abbrev am_I : Type := Nat → Nat → Int
abbrev am_sh : Type := (Nat × List (Bool ⊕ Nat)) ⊕ (FieldType × Int × List Nat)
abbrev am_e : Type := Nat × Instr × Nat × Int × Nat
abbrev am_Y : Type := MethodName × ByteArray × Nat × Option FieldType × List am_e × List (Nat × Nat × Nat)
def ES : List am_sh := [
  .inl (0, [.inr 1, .inr 4, .inr 7, .inr 9, .inr 11, .inr 14, .inr 17, .inr 23, .inr 29]),
  .inl (1, [.inr 2, .inr 3, .inl false]),
  .inr (.int, 24, []),
  .inr (.int, 24, []),
  .inl (1, [.inr 5, .inr 6, .inl false]),
  .inr (.int, 24, []),
  .inr (.int, 24, []),
  .inl (2, [.inr 8, .inl false, .inl false, .inl false, .inl false, .inl false]),
  .inr (.int, 4, []),
  .inl (3, [.inr 7, .inr 10, .inl true]),
  .inr (.long, 10656, []),
  .inl (4, [.inr 7, .inr 12, .inl true, .inr 13]),
  .inr (.long, 10656, []),
  .inr (.int, 13, []),
  .inl (5, [.inr 15, .inl false, .inl false, .inl false, .inl true, .inr 16]),
  .inr (.int, 6, []),
  .inr (.long, 14425, []),
  .inl (6, [.inr 18, .inr 19, .inl false, .inl false, .inl true, .inr 20, .inr 21, .inr 22]),
  .inr (.int, 6, []),
  .inr (.int, 3, []),
  .inr (.int, 6, []),
  .inr (.int, 108, []),
  .inr (.long, 36, []),
  .inl (7, [.inr 4, .inr 1, .inr 24, .inr 25, .inr 26, .inr 27, .inr 28, .inl false, .inl false, .inl true]),
  .inr (.int, 15625, []),
  .inr (.int, 96, []),
  .inr (.int, 96, []),
  .inr (.int, 96, []),
  .inr (.int, 96, []),
  .inl (8, [.inr 30, .inr 37]),
  .inr (.array .int, 6, [31, 32, 33, 34, 35, 36]),
  .inr (.int, 13, []),
  .inr (.int, 13, []),
  .inr (.int, 13, []),
  .inr (.int, 13, []),
  .inr (.int, 13, []),
  .inr (.int, 13, []),
  .inr (.array .int, 6, [38, 39, 40, 41, 42, 43]),
  .inr (.int, 13, []),
  .inr (.int, 13, []),
  .inr (.int, 13, []),
  .inr (.int, 13, []),
  .inr (.int, 13, []),
  .inr (.int, 13, []),
  .inl (9, [.inl false, .inr 45, .inr 46, .inl false, .inr 47, .inr 48, .inl true, .inl false, .inl false, .inl false, .inl false, .inl false, .inl false, .inl false, .inl false, .inl false, .inl false, .inl false, .inr 49, .inl false, .inl false, .inr 50, .inr 51, .inl false, .inr 52, .inr 53, .inr 54, .inr 55, .inr 56, .inr 57, .inr 58, .inr 59, .inl false, .inr 60, .inr 61, .inr 62, .inr 63, .inr 64]),
  .inr (.int, 24, []),
  .inr (.int, 24, []),
  .inr (.int, 24, []),
  .inr (.int, 24, []),
  .inr (.boolean, 97, []),
  .inr (.int, 6, []),
  .inr (.int, 3, []),
  .inr (.int, 78, []),
  .inr (.int, 78, []),
  .inr (.long, 10656, []),
  .inr (.long, 14425, []),
  .inr (.int, 540, []),
  .inr (.int, 6, []),
  .inr (.long, 180, []),
  .inr (.int, 31250, []),
  .inr (.int, 100, []),
  .inr (.int, 100, []),
  .inr (.int, 100, []),
  .inr (.int, 100, []),
  .inr (.int, 100, [])]
def am_c (ad : Nat → Nat) (v : am_v) : Value := match v with
  | .inl x => .int (Int32.ofInt x)
  | .inr (.inl x) => .long (Int64.ofInt x)
  | .inr (.inr k) => .ref (ad k)
def am_fv (ad : Nat → Nat) (f : Nat → Int) : Nat → List (Bool ⊕ Nat) → List Value
  | _, [] => []
  | j, .inl _ :: l => .int (Int32.ofInt (f j)) :: am_fv ad f (j + 1) l
  | j, .inr r :: l => .ref (ad r) :: am_fv ad f (j + 1) l
def am_ar (ad : Nat → Nat) (ty : FieldType) (rs : List Nat) (f : Nat → Int) : (Nat → Int32) ⊕ (Nat → Int64) ⊕ (Nat → UInt32) ⊕ (Nat → UInt64) ⊕ (Nat → Option Nat) := match ty with
  | .long => .inr (.inl (fun i => Int64.ofInt (f i)))
  | .array _ => .inr (.inr (.inr (.inr (fun i => (rs[i]?).map ad))))
  | _ => .inl (fun i => Int32.ofInt (f i))
def am_cell (ad : Nat → Nat) (ca : Nat → ClassId) (I : am_I) (k : Nat) (x : am_sh) : Nat × va_E := match x with
  | .inl o => (ad k, .inr (o.1, am_fv ad (I k) 0 o.2))
  | .inr a => (ad k, .inl (ca k, a.2.1.toNat, am_ar ad a.1 a.2.2 (I k)))
def am_Wf (ad : Nat → Nat) (ca : Nat → ClassId) (I : am_I) : Nat → List am_sh → va_W
  | _, [] => []
  | k, x :: l => am_cell ad ca I k x :: am_Wf ad ca I (k + 1) l
def am_W (ad : Nat → Nat) (ca : Nat → ClassId) (I : am_I) : va_W := am_Wf ad ca I 0 ES
def am_up (f : Nat → Int) (j : Nat) (x : Int) : Nat → Int := fun b => if b = j then x else f b
def am_u (I : am_I) (k j : Nat) (x : Int) : am_I := fun a => if a = k then am_up (I k) j x else I a
theorem am_up_eq (f : Nat → Int) (j : Nat) (x : Int) : am_up f j x j = x := if_pos rfl
theorem am_up_ne {f : Nat → Int} {j b : Nat} {x : Int} (h : b ≠ j) : am_up f j x b = f b := if_neg h
theorem am_u_eq (I : am_I) (k j : Nat) (x : Int) : am_u I k j x k = am_up (I k) j x := if_pos rfl
theorem am_u_ne {I : am_I} {k j a : Nat} {x : Int} (h : a ≠ k) : am_u I k j x a = I a := if_neg h
def am_nth {α : Type} : List α → Nat → Option α
  | [], _ => none
  | x :: _, 0 => some x
  | _ :: l, n + 1 => am_nth l n
theorem am_nth_eq {α : Type} : ∀ (l : List α) (n : Nat), am_nth l n = l[n]?
  | [], n => by simp [am_nth]
  | x :: l, 0 => by simp [am_nth]
  | x :: l, n + 1 => by simp only [am_nth, List.getElem?_cons_succ]; exact am_nth_eq l n
theorem am_Wf_get (ad : Nat → Nat) (ca : Nat → ClassId) (I : am_I) : ∀ (l : List am_sh) (k i : Nat), (am_Wf ad ca I k l)[i]? = (l[i]?).map (am_cell ad ca I (k + i))
  | [], k, i => by simp [am_Wf]
  | x :: l, k, 0 => by simp [am_Wf]
  | x :: l, k, i + 1 => by
    simp only [am_Wf, List.getElem?_cons_succ]
    rw [am_Wf_get ad ca I l (k + 1) i, show k + 1 + i = k + (i + 1) by omega]
theorem am_W_get (ad : Nat → Nat) (ca : Nat → ClassId) (I : am_I) (i : Nat) : (am_W ad ca I)[i]? = (ES[i]?).map (am_cell ad ca I i) := by
  unfold am_W
  rw [am_Wf_get, Nat.zero_add]
theorem am_W_at {ad : Nat → Nat} {ca : Nat → ClassId} (I : am_I) {k : Nat} {x : am_sh} (h : am_nth ES k = some x) : (am_W ad ca I)[k]? = some (am_cell ad ca I k x) := by
  rw [am_W_get, ← am_nth_eq, h]; rfl
theorem am_cell_congr {ad : Nat → Nat} {ca : Nat → ClassId} {I I' : am_I} {k : Nat} (x : am_sh) (h : I' k = I k) : am_cell ad ca I' k x = am_cell ad ca I k x := by
  unfold am_cell; rw [h]
theorem am_W_put {ad : Nat → Nat} {ca : Nat → ClassId} {I I' : am_I} {k : Nat} {x : am_sh} (h : am_nth ES k = some x) (hI : ∀ a, a ≠ k → I' a = I a) : (am_W ad ca I).set k (am_cell ad ca I' k x) = am_W ad ca I' := by
  rw [am_nth_eq] at h
  apply List.ext_getElem?
  intro i
  by_cases e : i = k
  · subst e
    have hl : i < (am_W ad ca I).length := by
      have h1 : (am_W ad ca I)[i]? = some (am_cell ad ca I i x) := by rw [am_W_get, h]; rfl
      exact (List.getElem?_eq_some_iff.mp h1).1
    rw [List.getElem?_set_self hl, am_W_get, h]; rfl
  · rw [List.getElem?_set_ne (Ne.symm e), am_W_get, am_W_get]
    cases ES[i]? with
    | none => rfl
    | some y => show some _ = some _; rw [am_cell_congr y (hI i e)]
theorem am_fv_get (ad : Nat → Nat) (f : Nat → Int) : ∀ (l : List (Bool ⊕ Nat)) (j i : Nat), (am_fv ad f j l)[i]? = (l[i]?).map (fun x => match x with | .inl _ => Value.int (Int32.ofInt (f (j + i))) | .inr r => Value.ref (ad r))
  | [], j, i => by simp [am_fv]
  | .inl b :: l, j, 0 => by simp [am_fv]
  | .inr b :: l, j, 0 => by simp [am_fv]
  | .inl b :: l, j, i + 1 => by
    simp only [am_fv, List.getElem?_cons_succ]
    rw [am_fv_get ad f l (j + 1) i, show j + 1 + i = j + (i + 1) by omega]
  | .inr b :: l, j, i + 1 => by
    simp only [am_fv, List.getElem?_cons_succ]
    rw [am_fv_get ad f l (j + 1) i, show j + 1 + i = j + (i + 1) by omega]
theorem am_fv_len (ad : Nat → Nat) (f : Nat → Int) : ∀ (l : List (Bool ⊕ Nat)) (j : Nat), (am_fv ad f j l).length = l.length
  | [], j => rfl
  | .inl b :: l, j => by simp [am_fv, am_fv_len ad f l (j + 1)]
  | .inr b :: l, j => by simp [am_fv, am_fv_len ad f l (j + 1)]
theorem am_fv_set {ad : Nat → Nat} {f : Nat → Int} {l : List (Bool ⊕ Nat)} {i : Nat} {b : Bool} (x : Int) (h : l[i]? = some (.inl b)) : (am_fv ad f 0 l).set i (.int (Int32.ofInt x)) = am_fv ad (am_up f i x) 0 l := by
  apply List.ext_getElem?
  intro k
  have hl : i < (am_fv ad f 0 l).length := by rw [am_fv_len]; exact (List.getElem?_eq_some_iff.mp h).1
  by_cases e : k = i
  · subst e
    rw [List.getElem?_set_self hl, am_fv_get, h]
    simp [am_up]
  · rw [List.getElem?_set_ne (Ne.symm e), am_fv_get, am_fv_get]
    cases l[k]? with
    | none => rfl
    | some y =>
      cases y with
      | inl b => simp only [Option.map_some, Nat.zero_add]; rw [am_up_ne e]
      | inr r => rfl
def am_wide (v : am_v) : Bool := match v with
  | .inr (.inl _) => true
  | _ => false
theorem am_wide_cat (ad : Nat → Nat) (v : am_v) : (am_c ad v).category = if am_wide v then 2 else 1 := by
  rcases v with x | x | x <;> rfl
def am_cf (i : Nat) (w : Bool) (q : Nat × am_v) : Bool := match Nat.beq q.1 i with
  | true => true
  | false => match w && Nat.beq q.1 (i + 1) with
    | true => true
    | false => Nat.beq (q.1 + 1) i && am_wide q.2
def am_flt {α : Type} : List (Nat × am_v) → Nat → Bool → (List (Nat × am_v) → α) → α
  | [], _, _, k => k []
  | q :: l, i, w, k => match am_cf i w q with
    | true => am_flt l i w k
    | false => am_flt l i w (fun l' => k (q :: l'))
def am_ins {α : Type} : List (Nat × am_v) → Nat → am_v → (List (Nat × am_v) → α) → α
  | [], i, v, k => k [(i, v)]
  | q :: l, i, v, k => match Nat.ble i q.1 with
    | true => k ((i, v) :: q :: l)
    | false => am_ins l i v (fun l' => k (q :: l'))
def am_set {α : Type} (lv : List (Nat × am_v)) (i : Nat) (v : am_v) (k : List (Nat × am_v) → α) : α := am_flt lv i (am_wide v) (fun l => am_ins l i v k)
theorem am_flt_eq {α : Type} (i : Nat) (w : Bool) : ∀ (l : List (Nat × am_v)) (k : List (Nat × am_v) → α), ∃ l', am_flt l i w k = k l' ∧ ∀ q ∈ l', q ∈ l ∧ am_cf i w q = false
  | [], k => ⟨[], rfl, fun q h => by cases h⟩
  | q :: l, k => by
    unfold am_flt
    cases hc : am_cf i w q with
    | true =>
      obtain ⟨l', h1, h2⟩ := am_flt_eq i w l k
      exact ⟨l', h1, fun z hz => ⟨List.mem_cons_of_mem _ (h2 z hz).1, (h2 z hz).2⟩⟩
    | false =>
      obtain ⟨l', h1, h2⟩ := am_flt_eq i w l (fun l' => k (q :: l'))
      refine ⟨q :: l', h1, fun z hz => ?_⟩
      rcases List.mem_cons.mp hz with rfl | hz
      · exact ⟨List.mem_cons_self, hc⟩
      · exact ⟨List.mem_cons_of_mem _ (h2 z hz).1, (h2 z hz).2⟩
theorem am_ins_eq {α : Type} (i : Nat) (v : am_v) : ∀ (l : List (Nat × am_v)) (k : List (Nat × am_v) → α), ∃ l', am_ins l i v k = k l' ∧ ∀ q ∈ l', q = (i, v) ∨ q ∈ l
  | [], k => ⟨[(i, v)], rfl, fun q h => by rcases List.mem_cons.mp h with h | h; exact Or.inl h; cases h⟩
  | q :: l, k => by
    unfold am_ins
    cases hc : Nat.ble i q.1 with
    | true =>
      refine ⟨(i, v) :: q :: l, rfl, fun z hz => ?_⟩
      rcases List.mem_cons.mp hz with rfl | hz
      · exact Or.inl rfl
      · exact Or.inr hz
    | false =>
      obtain ⟨l', h1, h2⟩ := am_ins_eq i v l (fun l' => k (q :: l'))
      refine ⟨q :: l', h1, fun z hz => ?_⟩
      rcases List.mem_cons.mp hz with rfl | hz
      · exact Or.inr List.mem_cons_self
      · rcases h2 z hz with h | h
        · exact Or.inl h
        · exact Or.inr (List.mem_cons_of_mem _ h)
theorem am_set_eq {α : Type} (lv : List (Nat × am_v)) (i : Nat) (v : am_v) (k : List (Nat × am_v) → α) : ∃ l', am_set lv i v k = k l' ∧ ∀ q ∈ l', q = (i, v) ∨ (q ∈ lv ∧ am_cf i (am_wide v) q = false) := by
  obtain ⟨l1, e1, m1⟩ := am_flt_eq i (am_wide v) lv (fun l => am_ins l i v k)
  obtain ⟨l2, e2, m2⟩ := am_ins_eq i v l1 k
  refine ⟨l2, e1.trans e2, fun q hq => ?_⟩
  rcases m2 q hq with h | h
  · exact Or.inl h
  · exact Or.inr (m1 q h)
def am_lk : List (Nat × am_v) → Nat → Option am_v
  | [], _ => none
  | q :: l, i => match Nat.beq q.1 i with
    | true => some q.2
    | false => am_lk l i
theorem am_lk_mem : ∀ {l : List (Nat × am_v)} {i : Nat} {v : am_v}, am_lk l i = some v → (i, v) ∈ l
  | q :: l, i, v, h => by
    unfold am_lk at h
    cases hc : Nat.beq q.1 i with
    | true =>
      rw [hc] at h
      cases h
      have := Nat.eq_of_beq_eq_true hc
      subst this
      exact List.mem_cons_self
    | false =>
      rw [hc] at h
      exact List.mem_cons_of_mem _ (am_lk_mem h)
def am_cl (ad : Nat → Nat) (lv : List (Nat × am_v)) : List (Nat × Value) := lv.map (fun q => (q.1, am_c ad q.2))
theorem am_lv_get {ls : Array Slot} {nL : Nat} {ad : Nat → Nat} {lv : List (Nat × am_v)} {i : Nat} {v : am_v} (h : lv_has ls nL (am_cl ad lv)) (hk : am_lk lv i = some v) : ls[i]? = some (.val (am_c ad v)) :=
  h.2.2 (i, am_c ad v) (List.mem_map.mpr ⟨(i, v), am_lk_mem hk, rfl⟩)
theorem am_lv_set1 {ls : Array Slot} {nL : Nat} {ad : Nat → Nat} {lv l' : List (Nat × am_v)} {i : Nat} {v : am_v} (hw : am_wide v = false) (hm : ∀ q ∈ l', q = (i, v) ∨ (q ∈ lv ∧ am_cf i (am_wide v) q = false))
    (h : lv_has ls nL ((i, am_c ad v) :: (am_cl ad lv).filter (fun q => !(q.1 == i) && !(q.1 + 1 == i && q.2.category == 2)))) : lv_has ls nL (am_cl ad l') := by
  refine ⟨h.1, h.2.1, fun q hq => h.2.2 q ?_⟩
  obtain ⟨z, hz, rfl⟩ := List.mem_map.mp hq
  rcases hm z hz with rfl | ⟨h1, h2⟩
  · exact List.mem_cons_self
  · refine List.mem_cons_of_mem _ (List.mem_filter.mpr ⟨List.mem_map.mpr ⟨z, h1, rfl⟩, ?_⟩)
    simp only [am_cf] at h2
    cases e1 : Nat.beq z.1 i with
    | true => rw [e1] at h2; cases h2
    | false =>
      rw [e1] at h2
      rw [hw] at h2
      simp only [Bool.false_and] at h2
      have n1 : ¬ z.1 = i := fun q => by rw [q, Nat.beq_refl] at e1; cases e1
      show (!(z.1 == i) && !(z.1 + 1 == i && (am_c ad z.2).category == 2)) = true
      rw [am_wide_cat]
      by_cases e2 : z.1 + 1 = i
      · rw [e2, Nat.beq_refl, Bool.true_and] at h2
        simp [n1, h2]
      · simp [n1, e2]
theorem am_lv_set2 {ls : Array Slot} {nL : Nat} {ad : Nat → Nat} {lv l' : List (Nat × am_v)} {i : Nat} {v : am_v} (hw : am_wide v = true) (hm : ∀ q ∈ l', q = (i, v) ∨ (q ∈ lv ∧ am_cf i (am_wide v) q = false))
    (h : lv_has ls nL ((i, am_c ad v) :: (am_cl ad lv).filter (fun q => !(q.1 == i) && (!(q.1 == i + 1) && !(q.1 + 1 == i && q.2.category == 2))))) : lv_has ls nL (am_cl ad l') := by
  refine ⟨h.1, h.2.1, fun q hq => h.2.2 q ?_⟩
  obtain ⟨z, hz, rfl⟩ := List.mem_map.mp hq
  rcases hm z hz with rfl | ⟨h1, h2⟩
  · exact List.mem_cons_self
  · refine List.mem_cons_of_mem _ (List.mem_filter.mpr ⟨List.mem_map.mpr ⟨z, h1, rfl⟩, ?_⟩)
    simp only [am_cf] at h2
    cases e1 : Nat.beq z.1 i with
    | true => rw [e1] at h2; cases h2
    | false =>
      rw [e1] at h2
      rw [hw] at h2
      simp only [Bool.true_and] at h2
      cases e3 : Nat.beq z.1 (i + 1) with
      | true => rw [e3] at h2; cases h2
      | false =>
        rw [e3] at h2
        have n1 : ¬ z.1 = i := fun q => by rw [q, Nat.beq_refl] at e1; cases e1
        have n3 : ¬ z.1 = i + 1 := fun q => by rw [q, Nat.beq_refl] at e3; cases e3
        show (!(z.1 == i) && (!(z.1 == i + 1) && !(z.1 + 1 == i && (am_c ad z.2).category == 2))) = true
        rw [am_wide_cat]
        by_cases e2 : z.1 + 1 = i
        · simp only [e2, Nat.beq_refl, Bool.true_and] at h2
          simp [n1, n3, h2]
        · simp [n1, n3, e2]
def am_and (x y : Int) : Int := (Int32.ofInt x &&& Int32.ofInt y).toInt
def am_or (x y : Int) : Int := (Int32.ofInt x ||| Int32.ofInt y).toInt
def am_shl (x y : Int) : Int := (Int32.ofInt x <<< (Int32.ofInt y &&& 31)).toInt
def am_shr (x y : Int) : Int := (Int32.ofInt x >>> (Int32.ofInt y &&& 31)).toInt
def am_ushr (x y : Int) : Int := ((Int32.ofInt x).toUInt32 >>> ((Int32.ofInt y).toUInt32 &&& Int32.toUInt32 31)).toInt32.toInt
def am_landL (x y : Int) : Int := (Int64.ofInt x &&& Int64.ofInt y).toInt
def am_lorL (x y : Int) : Int := (Int64.ofInt x ||| Int64.ofInt y).toInt
def am_lshlL (x y : Int) : Int := (Int64.ofInt x <<< ((Int32.ofInt y).toInt64 &&& 63)).toInt
theorem am_of (z : Int32) : Int32.ofInt z.toInt = z := Int32.ofInt_toInt z
theorem am_ofL (z : Int64) : Int64.ofInt z.toInt = z := Int64.ofInt_toInt z
abbrev am_R : Type := Option (Option Prop × Nat × List (Nat × am_v) × List am_v × am_I)
def am_fs : List (Nat × Nat × Nat) → Nat → Nat → Option Nat
  | [], _, _ => none
  | e :: l, idx, ci => match Nat.beq e.1 idx with
    | true => match Nat.beq e.2.1 ci with
      | true => some e.2.2
      | false => am_fs l idx ci
    | false => am_fs l idx ci
theorem am_fs_mem : ∀ {l : List (Nat × Nat × Nat)} {idx ci j : Nat}, am_fs l idx ci = some j → (idx, ci, j) ∈ l
  | e :: l, idx, ci, j, h => by
    unfold am_fs at h
    cases h1 : Nat.beq e.1 idx with
    | true =>
      rw [h1] at h
      cases h2 : Nat.beq e.2.1 ci with
      | true =>
        rw [h2] at h
        cases h
        obtain ⟨a, b, c⟩ := e
        have e1 := Nat.eq_of_beq_eq_true h1
        have e2 := Nat.eq_of_beq_eq_true h2
        dsimp only at e1 e2
        subst e1; subst e2
        exact List.mem_cons_self
      | false => rw [h2] at h; exact List.mem_cons_of_mem _ (am_fs_mem h)
    | false => rw [h1] at h; exact List.mem_cons_of_mem _ (am_fs_mem h)
def am_ii (st : List am_v) (k : Int → Int → List am_v → am_R) : am_R := match st with
  | .inl y :: .inl x :: r => k x y r
  | _ => none
def am_i1 (st : List am_v) (k : Int → List am_v → am_R) : am_R := match st with
  | .inl x :: r => k x r
  | _ => none
def am_l1 (st : List am_v) (k : Int → List am_v → am_R) : am_R := match st with
  | .inr (.inl x) :: r => k x r
  | _ => none
def am_ll (st : List am_v) (k : Int → Int → List am_v → am_R) : am_R := match st with
  | .inr (.inl y) :: .inr (.inl x) :: r => k x y r
  | _ => none
def am_ai (st : List am_v) (k : Nat → Int → List am_v → am_R) : am_R := match st with
  | .inl i :: .inr (.inr a) :: r => k a i r
  | _ => none
def am_ldi (lv : List (Nat × am_v)) (i : Nat) (k : Int → am_R) : am_R := match am_lk lv i with
  | some (.inl x) => k x
  | _ => none
def am_ldl (lv : List (Nat × am_v)) (i : Nat) (k : Int → am_R) : am_R := match am_lk lv i with
  | some (.inr (.inl x)) => k x
  | _ => none
def am_lda (lv : List (Nat × am_v)) (i : Nat) (k : Nat → am_R) : am_R := match am_lk lv i with
  | some (.inr (.inr x)) => k x
  | _ => none
def am_ob (a : Nat) (k : Nat → List (Bool ⊕ Nat) → am_R) : am_R := match am_nth ES a with
  | some (.inl o) => k o.1 o.2
  | _ => none
def am_arr (a : Nat) (k : FieldType → Int → List Nat → am_R) : am_R := match am_nth ES a with
  | some (.inr o) => k o.1 o.2.1 o.2.2
  | _ => none
def am_fsk (fl : List (Nat × Nat × Nat)) (idx ci : Nat) (k : Nat → am_R) : am_R := match am_fs fl idx ci with
  | some j => k j
  | none => none
def am_gf (fs : List (Bool ⊕ Nat)) (j : Nat) (k1 : Bool → am_R) (k2 : Nat → am_R) : am_R := match am_nth fs j with
  | some (.inl b) => k1 b
  | some (.inr r) => k2 r
  | none => none
def am_isI (ty : FieldType) (k : am_R) : am_R := match ty with
  | .int => k
  | _ => none
def am_isL (ty : FieldType) (k : am_R) : am_R := match ty with
  | .long => k
  | _ => none
def am_isZ (ty : FieldType) (k : am_R) : am_R := match ty with
  | .boolean => k
  | _ => none
def am_isA (ty : FieldType) (k : am_R) : am_R := match ty with
  | .array .int => k
  | _ => none
def am_nk (rs : List Nat) (i : Nat) (k : Nat → am_R) : am_R := match am_nth rs i with
  | some q => k q
  | none => none
def am_ex (fl : List (Nat × Nat × Nat)) (ins : Instr) (nx : Nat) (ax : Int) (tg : Nat) (lv : List (Nat × am_v)) (st : List am_v) (I : am_I) : am_R := match ins with
  | .iconst _ => some (none, nx, lv, .inl ax :: st, I)
  | .bipush _ => some (none, nx, lv, .inl ax :: st, I)
  | .sipush _ => some (none, nx, lv, .inl ax :: st, I)
  | .ldc _ => some (none, nx, lv, .inl ax :: st, I)
  | .ldc_w _ => some (none, nx, lv, .inl ax :: st, I)
  | .lconst _ => some (none, nx, lv, .inr (.inl ax) :: st, I)
  | .ldc2_w _ => some (none, nx, lv, .inr (.inl ax) :: st, I)
  | .iload _ => am_ldi lv tg (fun x => some (none, nx, lv, .inl x :: st, I))
  | .iload_n _ => am_ldi lv tg (fun x => some (none, nx, lv, .inl x :: st, I))
  | .lload _ => am_ldl lv tg (fun x => some (none, nx, lv, .inr (.inl x) :: st, I))
  | .lload_n _ => am_ldl lv tg (fun x => some (none, nx, lv, .inr (.inl x) :: st, I))
  | .aload _ => am_lda lv tg (fun x => some (none, nx, lv, .inr (.inr x) :: st, I))
  | .aload_n _ => am_lda lv tg (fun x => some (none, nx, lv, .inr (.inr x) :: st, I))
  | .istore _ => am_i1 st (fun x r => am_set lv tg (.inl x) (fun l' => some (none, nx, l', r, I)))
  | .istore_n _ => am_i1 st (fun x r => am_set lv tg (.inl x) (fun l' => some (none, nx, l', r, I)))
  | .lstore _ => am_l1 st (fun x r => am_set lv tg (.inr (.inl x)) (fun l' => some (none, nx, l', r, I)))
  | .lstore_n _ => am_l1 st (fun x r => am_set lv tg (.inr (.inl x)) (fun l' => some (none, nx, l', r, I)))
  | .iinc _ _ => am_ldi lv tg (fun x => am_set lv tg (.inl (x + ax)) (fun l' => some (none, nx, l', st, I)))
  | .iadd => am_ii st (fun x y r => some (none, nx, lv, .inl (x + y) :: r, I))
  | .isub => am_ii st (fun x y r => some (none, nx, lv, .inl (x - y) :: r, I))
  | .imul => am_ii st (fun x y r => some (none, nx, lv, .inl (x * y) :: r, I))
  | .idiv => am_ii st (fun x y r => some (some ((0 ≤ x ∧ x < 2147483648) ∧ (0 < y ∧ y < 2147483648)), nx, lv, .inl (x / y) :: r, I))
  | .irem => am_ii st (fun x y r => some (some ((0 ≤ x ∧ x < 2147483648) ∧ (0 < y ∧ y < 2147483648)), nx, lv, .inl (x % y) :: r, I))
  | .ineg => am_i1 st (fun x r => some (none, nx, lv, .inl (-x) :: r, I))
  | .iand => am_ii st (fun x y r => some (none, nx, lv, .inl (am_and x y) :: r, I))
  | .ior => am_ii st (fun x y r => some (none, nx, lv, .inl (am_or x y) :: r, I))
  | .ishl => am_ii st (fun x y r => some (none, nx, lv, .inl (am_shl x y) :: r, I))
  | .ishr => am_ii st (fun x y r => some (none, nx, lv, .inl (am_shr x y) :: r, I))
  | .iushr => am_ii st (fun x y r => some (none, nx, lv, .inl (am_ushr x y) :: r, I))
  | .ladd => am_ll st (fun x y r => some (none, nx, lv, .inr (.inl (x + y)) :: r, I))
  | .lsub => am_ll st (fun x y r => some (none, nx, lv, .inr (.inl (x - y)) :: r, I))
  | .i2l => am_i1 st (fun x r => some (some (-2147483648 ≤ x ∧ x < 2147483648), nx, lv, .inr (.inl x) :: r, I))
  | .l2i => am_l1 st (fun x r => some (none, nx, lv, .inl x :: r, I))
  | .dup => match st with
    | .inl x :: r => some (none, nx, lv, .inl x :: .inl x :: r, I)
    | .inr (.inr x) :: r => some (none, nx, lv, .inr (.inr x) :: .inr (.inr x) :: r, I)
    | _ => none
  | .dup2 => am_ai st (fun a i r => some (none, nx, lv, .inl i :: .inr (.inr a) :: .inl i :: .inr (.inr a) :: r, I))
  | .goto _ => some (none, tg, lv, st, I)
  | .getfield idx => match st with
    | .inr (.inr a) :: r => am_ob a (fun ci fs => am_fsk fl idx ci (fun j => am_gf fs j (fun _ => some (none, nx, lv, .inl (I a j) :: r, I)) (fun q => some (none, nx, lv, .inr (.inr q) :: r, I))))
    | _ => none
  | .putfield idx => match st with
    | .inl x :: .inr (.inr a) :: r => am_ob a (fun ci fs => am_fsk fl idx ci (fun j => am_gf fs j (fun b => match b with
      | false => some (none, nx, lv, r, am_u I a j x)
      | true => some (some (x = 0 ∨ x = 1), nx, lv, r, am_u I a j x)) (fun _ => none)))
    | _ => none
  | .iaload => am_ai st (fun a i r => am_arr a (fun ty n _ => am_isI ty (some (some (0 ≤ i ∧ i < n), nx, lv, .inl (I a i.toNat) :: r, I))))
  | .laload => am_ai st (fun a i r => am_arr a (fun ty n _ => am_isL ty (some (some (0 ≤ i ∧ i < n), nx, lv, .inr (.inl (I a i.toNat)) :: r, I))))
  | .baload => am_ai st (fun a i r => am_arr a (fun ty n _ => am_isZ ty (some (some (0 ≤ i ∧ i < n), nx, lv, .inl (I a i.toNat) :: r, I))))
  | .aaload => am_ai st (fun a i r => am_arr a (fun ty n rs => am_isA ty (am_nk rs i.toNat (fun q => some (some (0 ≤ i ∧ i < n), nx, lv, .inr (.inr q) :: r, I)))))
  | .iastore => match st with
    | .inl x :: .inl i :: .inr (.inr a) :: r => am_arr a (fun ty n _ => am_isI ty (some (some (0 ≤ i ∧ i < n), nx, lv, r, am_u I a i.toNat x)))
    | _ => none
  | .bastore => match st with
    | .inl x :: .inl i :: .inr (.inr a) :: r => am_arr a (fun ty n _ => am_isZ ty (some (some ((0 ≤ i ∧ i < n) ∧ (x = 0 ∨ x = 1)), nx, lv, r, am_u I a i.toNat x)))
    | _ => none
  | .lastore => match st with
    | .inr (.inl x) :: .inl i :: .inr (.inr a) :: r => am_arr a (fun ty n _ => am_isL ty (some (some (0 ≤ i ∧ i < n), nx, lv, r, am_u I a i.toNat x)))
    | _ => none
  | .arraylength => match st with
    | .inr (.inr a) :: r => am_arr a (fun _ n _ => some (none, nx, lv, .inl n :: r, I))
    | _ => none
  | _ => none
def am_at : List am_e → Nat → Option (Instr × Nat × Int × Nat)
  | [], _ => none
  | e :: l, pc => match Nat.beq e.1 pc with
    | true => some e.2
    | false => am_at l pc
theorem am_at_mem : ∀ {l : List am_e} {pc : Nat} {q : Instr × Nat × Int × Nat}, am_at l pc = some q → (pc, q) ∈ l
  | e :: l, pc, q, h => by
    unfold am_at at h
    cases h1 : Nat.beq e.1 pc with
    | true =>
      rw [h1] at h
      cases h
      have e1 := Nat.eq_of_beq_eq_true h1
      subst e1
      exact List.mem_cons_self
    | false => rw [h1] at h; exact List.mem_cons_of_mem _ (am_at_mem h)
def am_step (y : am_Y) (pc : Nat) (lv : List (Nat × am_v)) (st : List am_v) (I : am_I) : am_R := match am_at y.2.2.2.2.1 pc with
  | none => none
  | some e => am_ex y.2.2.2.2.2 e.1 e.2.1 e.2.2.1 e.2.2.2 lv st I
def am_mem (n : Nat) : List Nat → Bool
  | [] => false
  | a :: l => match Nat.beq a n with
    | true => true
    | false => am_mem n l
def am_run : Nat → List Nat → am_Y → Nat → List (Nat × am_v) → List am_v → am_I → am_R
  | 0, _, _, pc, lv, st, I => some (none, pc, lv, st, I)
  | n + 1, ss, y, pc, lv, st, I => match am_step y pc lv st I with
    | none => some (none, pc, lv, st, I)
    | some (P, pc', lv', st', I') => match am_mem pc' ss with
      | true => some (P, pc', lv', st', I')
      | false => match am_run n ss y pc' lv' st' I' with
        | none => none
        | some (Q, c) => match P with
          | none => some (Q, c)
          | some p => match Q with
            | none => some (some p, c)
            | some q => some (some (p ∧ q), c)
def am_p (P : Option Prop) : Prop := match P with
  | none => True
  | some p => p
def am_cnd (o : ClassFile.Cond) (x y : Int) : Prop := match o with
  | .eq => x = y
  | .ne => ¬ x = y
  | .lt => x < y
  | .ge => y ≤ x
  | .gt => y < x
  | .le => x ≤ y
end
section
def am_len (ins : Instr) : Nat := match ins with
  | .bipush _ => 2
  | .sipush _ => 3
  | .ldc _ => 2
  | .ldc_w _ => 3
  | .ldc2_w _ => 3
  | .iload _ => 2
  | .lload _ => 2
  | .aload _ => 2
  | .istore _ => 2
  | .lstore _ => 2
  | .astore _ => 2
  | .iinc _ _ => 3
  | .goto _ => 3
  | .getfield _ => 3
  | .putfield _ => 3
  | .invokevirtual _ => 3
  | .invokestatic _ => 3
  | .invokespecial _ => 3
  | .if_icmp _ _ => 3
  | .ifCond _ _ => 3
  | _ => 1
def am_wd (w : Jvm.Cond) : Bool := decide (w ∈ lw_tbl) && goodWord w
def am_vx (own : String) (mL : Nat) (e : am_e) : Bool := match e.2.1 with
  | .iconst n => decide (Int32.ofInt n = Int32.ofInt e.2.2.2.1)
  | .bipush n => decide ((Int8.ofInt n).toInt32 = Int32.ofInt e.2.2.2.1)
  | .sipush n => decide ((Int16.ofInt n).toInt32 = Int32.ofInt e.2.2.2.1)
  | .ldc i => am_wd (.constant own i (Int32.ofInt e.2.2.2.1))
  | .ldc_w i => am_wd (.constant own i (Int32.ofInt e.2.2.2.1))
  | .ldc2_w i => am_wd (.constantLong own i (Int64.ofInt e.2.2.2.1))
  | .lconst n => decide (Int64.ofNat (n : Nat) = Int64.ofInt e.2.2.2.1)
  | .iload i => decide (i = e.2.2.2.2)
  | .lload i => decide (i = e.2.2.2.2)
  | .aload i => decide (i = e.2.2.2.2)
  | .iload_n i => decide ((i : Nat) = e.2.2.2.2)
  | .lload_n i => decide ((i : Nat) = e.2.2.2.2)
  | .aload_n i => decide ((i : Nat) = e.2.2.2.2)
  | .istore i => decide (i = e.2.2.2.2 ∧ i < mL)
  | .istore_n i => decide ((i : Nat) = e.2.2.2.2 ∧ (i : Nat) < mL)
  | .lstore i => decide (i = e.2.2.2.2 ∧ i + 1 < mL)
  | .lstore_n i => decide ((i : Nat) = e.2.2.2.2 ∧ (i : Nat) + 1 < mL)
  | .iinc i n => decide ((i = e.2.2.2.2 ∧ i < mL) ∧ Int32.ofInt n = Int32.ofInt e.2.2.2.1)
  | .goto o => decide ((e.1 : Int) + o = (e.2.2.2.2 : Int))
  | .if_icmp _ o => decide ((e.1 : Int) + o = (e.2.2.2.2 : Int))
  | .ifCond _ o => decide ((e.1 : Int) + o = (e.2.2.2.2 : Int))
  | _ => true
def am_isT (ins : Instr) : Bool := match ins with
  | .tableswitch _ _ _ _ => true
  | _ => false
def am_v1 (own : String) (bs : ByteArray) (mL : Nat) (e : am_e) : Bool := match am_isT e.2.1 with
  | true => decide (decode bs e.1 = .ok (e.2.1, e.2.2.1 - e.1))
  | false => decide (decode bs e.1 = .ok (e.2.1, am_len e.2.1)) && (decide (e.2.2.1 = e.1 + am_len e.2.1) && am_vx own mL e)
def am_fok (own : String) (q : Nat × Nat × Nat) : Bool := match es_cl[q.2.1]? with
  | none => false
  | some r => decide (q.2.2 < r.2.2) && (am_wd (.fieldLink own q.1 (r.2.1 q.2.2).1 (r.2.1 q.2.2).2.1 (r.2.1 q.2.2).2.2.1) || (am_wd (.fieldLink own q.1 r.1 (r.2.1 q.2.2).2.1 (r.2.1 q.2.2).2.2.1) && am_wd (.sameField r.1 (r.2.1 q.2.2).1 (r.2.1 q.2.2).2.1 (r.2.1 q.2.2).2.2.1)))
def am_chk (y : am_Y) : Bool := y.2.2.2.2.1.all (am_v1 y.1.cls y.2.1 y.2.2.1) && y.2.2.2.2.2.all (am_fok y.1.cls)
def es_sh1 (x : am_sh) : Bool := match x with
  | .inl o => match es_cl[o.1]? with
    | none => false
    | some r => decide (o.2.length = r.2.2) && (List.range r.2.2).all (fun j => match o.2[j]? with
      | some (.inl b) => decide ((r.2.1 j).2.2.1 = if b then "Z" else "I") && decide ((r.2.1 j).2.2.2 = false)
      | _ => true)
  | .inr a => decide (0 ≤ a.2.1 ∧ a.2.1 < 2147483648)
theorem es_shok : ES.all es_sh1 = true := by decide +kernel
theorem es_sh_arr {k : Nat} {a : FieldType × Int × List Nat} (h : am_nth ES k = some (.inr a)) : 0 ≤ a.2.1 ∧ a.2.1 < 2147483648 := by
  rw [am_nth_eq] at h
  have h1 := List.all_eq_true.mp es_shok _ (List.mem_of_getElem? h)
  exact of_decide_eq_true h1
theorem es_sh_fld {k : Nat} {o : Nat × List (Bool ⊕ Nat)} (h : am_nth ES k = some (.inl o)) : ∃ r : vw_C, es_cl[o.1]? = some r ∧ o.2.length = r.2.2 ∧ ∀ (j : Nat) (b : Bool), o.2[j]? = some (.inl b) → (r.2.1 j).2.2.1 = (if b then "Z" else "I") ∧ (r.2.1 j).2.2.2 = false := by
  rw [am_nth_eq] at h
  have h1 := List.all_eq_true.mp es_shok _ (List.mem_of_getElem? h)
  unfold es_sh1 at h1
  dsimp only at h1
  cases hc : es_cl[o.1]? with
  | none => rw [hc] at h1; cases h1
  | some r =>
    rw [hc] at h1
    simp only [Bool.and_eq_true, decide_eq_true_eq] at h1
    refine ⟨r, rfl, h1.1, fun j b hj => ?_⟩
    have hl : j < r.2.2 := by rw [← h1.1]; exact (List.getElem?_eq_some_iff.mp hj).1
    have h2 := List.all_eq_true.mp h1.2 j (List.mem_range.mpr hl)
    rw [hj] at h2
    simpa using h2
def am_T (ca : Nat → ClassId) (tys : List (ClassId × FieldType)) : Prop := ∀ (k : Nat) (a : FieldType × Int × List Nat), am_nth ES k = some (.inr a) → ∃ t0 : Nat, tys[t0]? = some (ca k, a.1)
def am_B (y : am_Y) (d : Nat) (p : Program) (R : Room) (s : State) (m : MethodId) (args : Array Value) (c : Code) (D : va_G) (ca : Nat → ClassId) (tys : List (ClassId × FieldType)) (A : Nat → Prop) (H0 : Heap) (cells slots : Nat) : Prop :=
  (p.tables.exec = Jvm.exec ∧ c.code = y.2.1 ∧ c.maxLocals = y.2.2.1 ∧ s.vm.findClass y.1.cls = some m.cls) ∧ (∀ w ∈ es_gt, w.before args s = true) ∧ es_N s ∧ va_K D es_cl tys s ∧ am_T ca tys ∧ (∀ q, H0.size ≤ q → A q) ∧ (d ≤ R.frames ∧ 37 * d ≤ R.locals) ∧ (cells ≤ R.cells ∧ slots ≤ R.slots) ∧ am_chk y = true
def am_w (p : Program) (l : Launch) (e : Env) (R : Room) (s : State) (m : MethodId) (args : Array Value) (below : List Frame) (meth : Method) (c : Code) (D : va_G) (ad : Nat → Nat) (ca : Nat → ClassId) (A : Nat → Prop) (H0 : Heap) (cells slots : Nat) (Q : State → Prop) (y : am_Y) (pc : Nat) (lv : List (Nat × am_v)) (st : List am_v) (I : am_I) : Prop :=
  ∀ (H : Heap) (locs : List Loc) (ls : Array Slot), va_P D es_cl (am_W ad ca I) H → va_D A (am_W ad ca I) → va_S A H0 H locs → lv_has ls y.2.2.1 (am_cl ad lv) → W p l e R s m args below meth c H locs cells slots Q (F0 m pc ls (st.map (am_c ad)))
theorem am_wd_in {w : Jvm.Cond} (h : am_wd w = true) : w ∈ es_gt := by
  simp only [am_wd, Bool.and_eq_true, decide_eq_true_eq] at h
  exact es_gt_in (es_in h.1) h.2
theorem am_v1_sp {own : String} {bs : ByteArray} {mL pc nx tg : Nat} {ins : Instr} {ax : Int} (ht : am_isT ins = false) (h : am_v1 own bs mL (pc, ins, nx, ax, tg) = true) : decode bs pc = .ok (ins, am_len ins) ∧ nx = pc + am_len ins ∧ am_vx own mL (pc, ins, nx, ax, tg) = true := by
  unfold am_v1 at h
  dsimp only at h
  rw [ht] at h
  simpa using h
theorem am_chk_1 {y : am_Y} (h : am_chk y = true) {e : am_e} (he : e ∈ y.2.2.2.2.1) : am_v1 y.1.cls y.2.1 y.2.2.1 e = true := by
  unfold am_chk at h
  rw [Bool.and_eq_true] at h
  exact List.all_eq_true.mp h.1 e he
theorem am_chk_f {y : am_Y} (h : am_chk y = true) {q : Nat × Nat × Nat} (he : q ∈ y.2.2.2.2.2) : am_fok y.1.cls q = true := by
  unfold am_chk at h
  rw [Bool.and_eq_true] at h
  exact List.all_eq_true.mp h.2 q he
theorem am_min32 : Int32.minValue.toInt = -2147483648 := by decide +kernel
theorem am_max32 : Int32.maxValue.toInt = 2147483647 := by decide +kernel
theorem am_min64 : Int64.minValue.toInt = -9223372036854775808 := by decide +kernel
theorem am_max64 : Int64.maxValue.toInt = 9223372036854775807 := by decide +kernel
theorem am_toI {x : Int} (h : -2147483648 ≤ x ∧ x < 2147483648) : (Int32.ofInt x).toInt = x := Int32.toInt_ofInt_of_le (by omega) (by omega)
theorem am_toL {x : Int} (h : -9223372036854775808 ≤ x ∧ x < 9223372036854775808) : (Int64.ofInt x).toInt = x := Int64.toInt_ofInt_of_le (by omega) (by omega)
theorem am_eq32 {x y : Int} (hx : -2147483648 ≤ x ∧ x < 2147483648) (hy : -2147483648 ≤ y ∧ y < 2147483648) : Int32.ofInt x = Int32.ofInt y ↔ x = y := by
  rw [← Int32.toInt_inj, am_toI hx, am_toI hy]
theorem am_lt32 {x y : Int} (hx : -2147483648 ≤ x ∧ x < 2147483648) (hy : -2147483648 ≤ y ∧ y < 2147483648) : Int32.ofInt x < Int32.ofInt y ↔ x < y := by
  rw [Int32.lt_iff_toInt_lt, am_toI hx, am_toI hy]
theorem am_le32 {x y : Int} (hx : -2147483648 ≤ x ∧ x < 2147483648) (hy : -2147483648 ≤ y ∧ y < 2147483648) : Int32.ofInt x ≤ Int32.ofInt y ↔ x ≤ y := by
  rw [Int32.le_iff_toInt_le, am_toI hx, am_toI hy]
theorem am_eq64 {x y : Int} (hx : -9223372036854775808 ≤ x ∧ x < 9223372036854775808) (hy : -9223372036854775808 ≤ y ∧ y < 9223372036854775808) : Int64.ofInt x = Int64.ofInt y ↔ x = y := by
  rw [← Int64.toInt_inj, am_toL hx, am_toL hy]
theorem am_lt64 {x y : Int} (hx : -9223372036854775808 ≤ x ∧ x < 9223372036854775808) (hy : -9223372036854775808 ≤ y ∧ y < 9223372036854775808) : Int64.ofInt x < Int64.ofInt y ↔ x < y := by
  rw [Int64.lt_iff_toInt_lt, am_toL hx, am_toL hy]
theorem am_idx {i n : Int} (h : 0 ≤ i ∧ i < n) (hn : n < 2147483648) : vp_in (Int32.ofInt i) n.toNat ∧ (Int32.ofInt i).toNatClampNeg = i.toNat := by
  have e1 := am_toI (x := i) (by omega)
  refine ⟨vp_in_iff.mpr (by rw [e1]; omega), ?_⟩
  show (Int32.ofInt i).toInt.toNat = i.toNat
  rw [e1]
theorem am_ofdiv {x y : Int} (hx : 0 ≤ x ∧ x < 2147483648) (hy : 0 < y ∧ y < 2147483648) : Int32.ofInt x / Int32.ofInt y = Int32.ofInt (x / y) := by
  rw [← Int32.ofInt_tdiv (by rw [am_min32]; omega) (by rw [am_max32]; omega) (by rw [am_min32]; omega) (by rw [am_max32]; omega), Int.tdiv_eq_ediv_of_nonneg hx.1]
theorem am_ofrem {x y : Int} (hx : 0 ≤ x ∧ x < 2147483648) (hy : 0 < y ∧ y < 2147483648) : Int32.ofInt x - Int32.ofInt x / Int32.ofInt y * Int32.ofInt y = Int32.ofInt (x % y) := by
  rw [am_ofdiv hx hy, ← Int32.ofInt_mul, ← Int32.ofInt_sub]
  congr 1
  have := Int.emod_add_mul_ediv x y
  rw [Int.mul_comm (x / y) y]
  omega
theorem am_nz {y : Int} (hy : 0 < y ∧ y < 2147483648) : ¬ Int32.ofInt y = 0 := by
  intro h
  have e := am_toI (x := y) (by omega)
  rw [h] at e
  have e0 : (0 : Int32).toInt = 0 := by decide +kernel
  rw [e0] at e
  omega
section AMS
variable {p : Program} {l : Launch} {e : Env} {R : Room} {s : State} {m : MethodId} {args : Array Value} {below : List Frame} {meth : Method} {c : Code} {cells slots : Nat} {Q : State → Prop} {D : va_G} {ad : Nat → Nat} {ca : Nat → ClassId} {tys : List (ClassId × FieldType)} {A : Nat → Prop} {H0 : Heap} {y : am_Y} {d : Nat} {pc nx tg pc' : Nat} {ax : Int} {lv lv' : List (Nat × am_v)} {st st' : List am_v} {I I' : am_I} {P : Option Prop}
theorem am_o_iconst {n : Int} (hB : am_B y d p R s m args c D ca tys A H0 cells slots) (hv : am_v1 y.1.cls y.2.1 y.2.2.1 (pc, .iconst n, nx, ax, tg) = true) (h : am_ex y.2.2.2.2.2 (.iconst n) nx ax tg lv st I = some (P, pc', lv', st', I')) (hp : am_p P) (k : am_w p l e R s m args below meth c D ad ca A H0 cells slots Q y pc' lv' st' I') : am_w p l e R s m args below meth c D ad ca A H0 cells slots Q y pc lv st I := by
  obtain ⟨hd, hn, hw⟩ := am_v1_sp rfl hv
  obtain ⟨⟨hx, hb, hml, hown⟩, hts, hN, hK, hT, hA, hR, hC, hk⟩ := hB
  try simp only [am_vx, decide_eq_true_eq] at hw
  subst hn
  simp only [am_ex] at h
  cases h
  intro H locs ls hP hD hS hl
  exact lv_iconst hx hb hd hw (k H locs ls hP hD hS hl)
theorem am_o_bipush {n : Int} (hB : am_B y d p R s m args c D ca tys A H0 cells slots) (hv : am_v1 y.1.cls y.2.1 y.2.2.1 (pc, .bipush n, nx, ax, tg) = true) (h : am_ex y.2.2.2.2.2 (.bipush n) nx ax tg lv st I = some (P, pc', lv', st', I')) (hp : am_p P) (k : am_w p l e R s m args below meth c D ad ca A H0 cells slots Q y pc' lv' st' I') : am_w p l e R s m args below meth c D ad ca A H0 cells slots Q y pc lv st I := by
  obtain ⟨hd, hn, hw⟩ := am_v1_sp rfl hv
  obtain ⟨⟨hx, hb, hml, hown⟩, hts, hN, hK, hT, hA, hR, hC, hk⟩ := hB
  try simp only [am_vx, decide_eq_true_eq] at hw
  subst hn
  simp only [am_ex] at h
  cases h
  intro H locs ls hP hD hS hl
  exact lv_bipush hx hb hd hw (k H locs ls hP hD hS hl)
theorem am_o_sipush {n : Int} (hB : am_B y d p R s m args c D ca tys A H0 cells slots) (hv : am_v1 y.1.cls y.2.1 y.2.2.1 (pc, .sipush n, nx, ax, tg) = true) (h : am_ex y.2.2.2.2.2 (.sipush n) nx ax tg lv st I = some (P, pc', lv', st', I')) (hp : am_p P) (k : am_w p l e R s m args below meth c D ad ca A H0 cells slots Q y pc' lv' st' I') : am_w p l e R s m args below meth c D ad ca A H0 cells slots Q y pc lv st I := by
  obtain ⟨hd, hn, hw⟩ := am_v1_sp rfl hv
  obtain ⟨⟨hx, hb, hml, hown⟩, hts, hN, hK, hT, hA, hR, hC, hk⟩ := hB
  try simp only [am_vx, decide_eq_true_eq] at hw
  subst hn
  simp only [am_ex] at h
  cases h
  intro H locs ls hP hD hS hl
  exact lv_sipush hx hb hd hw (k H locs ls hP hD hS hl)
theorem am_o_lconst {n : Fin 2} (hB : am_B y d p R s m args c D ca tys A H0 cells slots) (hv : am_v1 y.1.cls y.2.1 y.2.2.1 (pc, .lconst n, nx, ax, tg) = true) (h : am_ex y.2.2.2.2.2 (.lconst n) nx ax tg lv st I = some (P, pc', lv', st', I')) (hp : am_p P) (k : am_w p l e R s m args below meth c D ad ca A H0 cells slots Q y pc' lv' st' I') : am_w p l e R s m args below meth c D ad ca A H0 cells slots Q y pc lv st I := by
  obtain ⟨hd, hn, hw⟩ := am_v1_sp rfl hv
  obtain ⟨⟨hx, hb, hml, hown⟩, hts, hN, hK, hT, hA, hR, hC, hk⟩ := hB
  try simp only [am_vx, decide_eq_true_eq] at hw
  subst hn
  simp only [am_ex] at h
  cases h
  intro H locs ls hP hD hS hl
  exact lv_lconst hx hb hd hw (k H locs ls hP hD hS hl)
theorem am_o_ldc {n : Nat} (hB : am_B y d p R s m args c D ca tys A H0 cells slots) (hv : am_v1 y.1.cls y.2.1 y.2.2.1 (pc, .ldc n, nx, ax, tg) = true) (h : am_ex y.2.2.2.2.2 (.ldc n) nx ax tg lv st I = some (P, pc', lv', st', I')) (hp : am_p P) (k : am_w p l e R s m args below meth c D ad ca A H0 cells slots Q y pc' lv' st' I') : am_w p l e R s m args below meth c D ad ca A H0 cells slots Q y pc lv st I := by
  obtain ⟨hd, hn, hw⟩ := am_v1_sp rfl hv
  obtain ⟨⟨hx, hb, hml, hown⟩, hts, hN, hK, hT, hA, hR, hC, hk⟩ := hB
  try simp only [am_vx, decide_eq_true_eq] at hw
  subst hn
  simp only [am_ex] at h
  cases h
  intro H locs ls hP hD hS hl
  exact lv_ldc hx hb hown (hts _ (am_wd_in hw)) hd (k H locs ls hP hD hS hl)
theorem am_o_ldc_w {n : Nat} (hB : am_B y d p R s m args c D ca tys A H0 cells slots) (hv : am_v1 y.1.cls y.2.1 y.2.2.1 (pc, .ldc_w n, nx, ax, tg) = true) (h : am_ex y.2.2.2.2.2 (.ldc_w n) nx ax tg lv st I = some (P, pc', lv', st', I')) (hp : am_p P) (k : am_w p l e R s m args below meth c D ad ca A H0 cells slots Q y pc' lv' st' I') : am_w p l e R s m args below meth c D ad ca A H0 cells slots Q y pc lv st I := by
  obtain ⟨hd, hn, hw⟩ := am_v1_sp rfl hv
  obtain ⟨⟨hx, hb, hml, hown⟩, hts, hN, hK, hT, hA, hR, hC, hk⟩ := hB
  try simp only [am_vx, decide_eq_true_eq] at hw
  subst hn
  simp only [am_ex] at h
  cases h
  intro H locs ls hP hD hS hl
  exact lv_ldcw hx hb hown (hts _ (am_wd_in hw)) hd (k H locs ls hP hD hS hl)
theorem am_o_ldc2 {n : Nat} (hB : am_B y d p R s m args c D ca tys A H0 cells slots) (hv : am_v1 y.1.cls y.2.1 y.2.2.1 (pc, .ldc2_w n, nx, ax, tg) = true) (h : am_ex y.2.2.2.2.2 (.ldc2_w n) nx ax tg lv st I = some (P, pc', lv', st', I')) (hp : am_p P) (k : am_w p l e R s m args below meth c D ad ca A H0 cells slots Q y pc' lv' st' I') : am_w p l e R s m args below meth c D ad ca A H0 cells slots Q y pc lv st I := by
  obtain ⟨hd, hn, hw⟩ := am_v1_sp rfl hv
  obtain ⟨⟨hx, hb, hml, hown⟩, hts, hN, hK, hT, hA, hR, hC, hk⟩ := hB
  try simp only [am_vx, decide_eq_true_eq] at hw
  subst hn
  simp only [am_ex] at h
  cases h
  intro H locs ls hP hD hS hl
  exact lv_ldc2 hx hb hown (hts _ (am_wd_in hw)) hd (k H locs ls hP hD hS hl)
theorem am_o_iload {n : Nat} (hB : am_B y d p R s m args c D ca tys A H0 cells slots) (hv : am_v1 y.1.cls y.2.1 y.2.2.1 (pc, .iload n, nx, ax, tg) = true) (h : am_ex y.2.2.2.2.2 (.iload n) nx ax tg lv st I = some (P, pc', lv', st', I')) (hp : am_p P) (k : am_w p l e R s m args below meth c D ad ca A H0 cells slots Q y pc' lv' st' I') : am_w p l e R s m args below meth c D ad ca A H0 cells slots Q y pc lv st I := by
  obtain ⟨hd, hn, hw⟩ := am_v1_sp rfl hv
  obtain ⟨⟨hx, hb, hml, hown⟩, hts, hN, hK, hT, hA, hR, hC, hk⟩ := hB
  try simp only [am_vx, decide_eq_true_eq] at hw
  subst hn
  simp only [am_ex, am_ldi] at h
  split at h
  · rename_i x hx2
    cases h
    subst hw
    intro H locs ls hP hD hS hl
    exact lv_iload hx hb hd (am_lv_get hl hx2) (k H locs ls hP hD hS hl)
  · cases h
theorem am_o_iload_n {n : Fin 4} (hB : am_B y d p R s m args c D ca tys A H0 cells slots) (hv : am_v1 y.1.cls y.2.1 y.2.2.1 (pc, .iload_n n, nx, ax, tg) = true) (h : am_ex y.2.2.2.2.2 (.iload_n n) nx ax tg lv st I = some (P, pc', lv', st', I')) (hp : am_p P) (k : am_w p l e R s m args below meth c D ad ca A H0 cells slots Q y pc' lv' st' I') : am_w p l e R s m args below meth c D ad ca A H0 cells slots Q y pc lv st I := by
  obtain ⟨hd, hn, hw⟩ := am_v1_sp rfl hv
  obtain ⟨⟨hx, hb, hml, hown⟩, hts, hN, hK, hT, hA, hR, hC, hk⟩ := hB
  try simp only [am_vx, decide_eq_true_eq] at hw
  subst hn
  simp only [am_ex, am_ldi] at h
  split at h
  · rename_i x hx2
    cases h
    intro H locs ls hP hD hS hl
    exact lv_iload_n hx hb hd hw (am_lv_get hl hx2) (k H locs ls hP hD hS hl)
  · cases h
theorem am_o_lload {n : Nat} (hB : am_B y d p R s m args c D ca tys A H0 cells slots) (hv : am_v1 y.1.cls y.2.1 y.2.2.1 (pc, .lload n, nx, ax, tg) = true) (h : am_ex y.2.2.2.2.2 (.lload n) nx ax tg lv st I = some (P, pc', lv', st', I')) (hp : am_p P) (k : am_w p l e R s m args below meth c D ad ca A H0 cells slots Q y pc' lv' st' I') : am_w p l e R s m args below meth c D ad ca A H0 cells slots Q y pc lv st I := by
  obtain ⟨hd, hn, hw⟩ := am_v1_sp rfl hv
  obtain ⟨⟨hx, hb, hml, hown⟩, hts, hN, hK, hT, hA, hR, hC, hk⟩ := hB
  try simp only [am_vx, decide_eq_true_eq] at hw
  subst hn
  simp only [am_ex, am_ldl] at h
  split at h
  · rename_i x hx2
    cases h
    subst hw
    intro H locs ls hP hD hS hl
    exact lv_lload hx hb hd (am_lv_get hl hx2) (k H locs ls hP hD hS hl)
  · cases h
theorem am_o_lload_n {n : Fin 4} (hB : am_B y d p R s m args c D ca tys A H0 cells slots) (hv : am_v1 y.1.cls y.2.1 y.2.2.1 (pc, .lload_n n, nx, ax, tg) = true) (h : am_ex y.2.2.2.2.2 (.lload_n n) nx ax tg lv st I = some (P, pc', lv', st', I')) (hp : am_p P) (k : am_w p l e R s m args below meth c D ad ca A H0 cells slots Q y pc' lv' st' I') : am_w p l e R s m args below meth c D ad ca A H0 cells slots Q y pc lv st I := by
  obtain ⟨hd, hn, hw⟩ := am_v1_sp rfl hv
  obtain ⟨⟨hx, hb, hml, hown⟩, hts, hN, hK, hT, hA, hR, hC, hk⟩ := hB
  try simp only [am_vx, decide_eq_true_eq] at hw
  subst hn
  simp only [am_ex, am_ldl] at h
  split at h
  · rename_i x hx2
    cases h
    intro H locs ls hP hD hS hl
    exact lv_lload_n hx hb hd hw (am_lv_get hl hx2) (k H locs ls hP hD hS hl)
  · cases h
theorem am_o_aload {n : Nat} (hB : am_B y d p R s m args c D ca tys A H0 cells slots) (hv : am_v1 y.1.cls y.2.1 y.2.2.1 (pc, .aload n, nx, ax, tg) = true) (h : am_ex y.2.2.2.2.2 (.aload n) nx ax tg lv st I = some (P, pc', lv', st', I')) (hp : am_p P) (k : am_w p l e R s m args below meth c D ad ca A H0 cells slots Q y pc' lv' st' I') : am_w p l e R s m args below meth c D ad ca A H0 cells slots Q y pc lv st I := by
  obtain ⟨hd, hn, hw⟩ := am_v1_sp rfl hv
  obtain ⟨⟨hx, hb, hml, hown⟩, hts, hN, hK, hT, hA, hR, hC, hk⟩ := hB
  try simp only [am_vx, decide_eq_true_eq] at hw
  subst hn
  simp only [am_ex, am_lda] at h
  split at h
  · rename_i x hx2
    cases h
    subst hw
    intro H locs ls hP hD hS hl
    exact lv_aload hx hb hd (am_lv_get hl hx2) (k H locs ls hP hD hS hl)
  · cases h
theorem am_o_aload_n {n : Fin 4} (hB : am_B y d p R s m args c D ca tys A H0 cells slots) (hv : am_v1 y.1.cls y.2.1 y.2.2.1 (pc, .aload_n n, nx, ax, tg) = true) (h : am_ex y.2.2.2.2.2 (.aload_n n) nx ax tg lv st I = some (P, pc', lv', st', I')) (hp : am_p P) (k : am_w p l e R s m args below meth c D ad ca A H0 cells slots Q y pc' lv' st' I') : am_w p l e R s m args below meth c D ad ca A H0 cells slots Q y pc lv st I := by
  obtain ⟨hd, hn, hw⟩ := am_v1_sp rfl hv
  obtain ⟨⟨hx, hb, hml, hown⟩, hts, hN, hK, hT, hA, hR, hC, hk⟩ := hB
  try simp only [am_vx, decide_eq_true_eq] at hw
  subst hn
  simp only [am_ex, am_lda] at h
  split at h
  · rename_i x hx2
    cases h
    intro H locs ls hP hD hS hl
    exact lv_aload_n hx hb hd hw (am_lv_get hl hx2) (k H locs ls hP hD hS hl)
  · cases h
theorem am_o_istore {n : Nat} (hB : am_B y d p R s m args c D ca tys A H0 cells slots) (hv : am_v1 y.1.cls y.2.1 y.2.2.1 (pc, .istore n, nx, ax, tg) = true) (h : am_ex y.2.2.2.2.2 (.istore n) nx ax tg lv st I = some (P, pc', lv', st', I')) (hp : am_p P) (k : am_w p l e R s m args below meth c D ad ca A H0 cells slots Q y pc' lv' st' I') : am_w p l e R s m args below meth c D ad ca A H0 cells slots Q y pc lv st I := by
  obtain ⟨hd, hn, hw⟩ := am_v1_sp rfl hv
  obtain ⟨⟨hx, hb, hml, hown⟩, hts, hN, hK, hT, hA, hR, hC, hk⟩ := hB
  try simp only [am_vx, decide_eq_true_eq] at hw
  subst hn
  obtain ⟨hw1, hw2⟩ := hw
  simp only [am_ex, am_i1] at h
  split at h
  · rename_i x r
    obtain ⟨l2, e2, m2⟩ := am_set_eq lv tg _ (fun l' => (some (none, _, l', r, I) : am_R))
    rw [e2] at h
    cases h
    intro H locs ls hP hD hS hl
    refine lv_istore (lv' := _) hx hb hd hl hw2 rfl (fun ls1 hl1 => k H locs ls1 hP hD hS (am_lv_set1 rfl m2 (by rw [← hw1]; exact hl1)))
  · cases h
theorem am_o_istore_n {n : Fin 4} (hB : am_B y d p R s m args c D ca tys A H0 cells slots) (hv : am_v1 y.1.cls y.2.1 y.2.2.1 (pc, .istore_n n, nx, ax, tg) = true) (h : am_ex y.2.2.2.2.2 (.istore_n n) nx ax tg lv st I = some (P, pc', lv', st', I')) (hp : am_p P) (k : am_w p l e R s m args below meth c D ad ca A H0 cells slots Q y pc' lv' st' I') : am_w p l e R s m args below meth c D ad ca A H0 cells slots Q y pc lv st I := by
  obtain ⟨hd, hn, hw⟩ := am_v1_sp rfl hv
  obtain ⟨⟨hx, hb, hml, hown⟩, hts, hN, hK, hT, hA, hR, hC, hk⟩ := hB
  try simp only [am_vx, decide_eq_true_eq] at hw
  subst hn
  obtain ⟨hw1, hw2⟩ := hw
  simp only [am_ex, am_i1] at h
  split at h
  · rename_i x r
    obtain ⟨l2, e2, m2⟩ := am_set_eq lv tg _ (fun l' => (some (none, _, l', r, I) : am_R))
    rw [e2] at h
    cases h
    intro H locs ls hP hD hS hl
    refine lv_istore_n (lv' := _) hx hb hd hw1 hl (by rw [← hw1]; exact hw2) rfl (fun ls1 hl1 => k H locs ls1 hP hD hS (am_lv_set1 rfl m2 hl1))
  · cases h
theorem am_o_lstore {n : Nat} (hB : am_B y d p R s m args c D ca tys A H0 cells slots) (hv : am_v1 y.1.cls y.2.1 y.2.2.1 (pc, .lstore n, nx, ax, tg) = true) (h : am_ex y.2.2.2.2.2 (.lstore n) nx ax tg lv st I = some (P, pc', lv', st', I')) (hp : am_p P) (k : am_w p l e R s m args below meth c D ad ca A H0 cells slots Q y pc' lv' st' I') : am_w p l e R s m args below meth c D ad ca A H0 cells slots Q y pc lv st I := by
  obtain ⟨hd, hn, hw⟩ := am_v1_sp rfl hv
  obtain ⟨⟨hx, hb, hml, hown⟩, hts, hN, hK, hT, hA, hR, hC, hk⟩ := hB
  try simp only [am_vx, decide_eq_true_eq] at hw
  subst hn
  obtain ⟨hw1, hw2⟩ := hw
  simp only [am_ex, am_l1] at h
  split at h
  · rename_i x r
    obtain ⟨l2, e2, m2⟩ := am_set_eq lv tg _ (fun l' => (some (none, _, l', r, I) : am_R))
    rw [e2] at h
    cases h
    intro H locs ls hP hD hS hl
    refine lv_lstore (lv' := _) hx hb hd hl hw2 rfl (fun ls1 hl1 => k H locs ls1 hP hD hS (am_lv_set2 rfl m2 (by rw [← hw1]; exact hl1)))
  · cases h
theorem am_o_lstore_n {n : Fin 4} (hB : am_B y d p R s m args c D ca tys A H0 cells slots) (hv : am_v1 y.1.cls y.2.1 y.2.2.1 (pc, .lstore_n n, nx, ax, tg) = true) (h : am_ex y.2.2.2.2.2 (.lstore_n n) nx ax tg lv st I = some (P, pc', lv', st', I')) (hp : am_p P) (k : am_w p l e R s m args below meth c D ad ca A H0 cells slots Q y pc' lv' st' I') : am_w p l e R s m args below meth c D ad ca A H0 cells slots Q y pc lv st I := by
  obtain ⟨hd, hn, hw⟩ := am_v1_sp rfl hv
  obtain ⟨⟨hx, hb, hml, hown⟩, hts, hN, hK, hT, hA, hR, hC, hk⟩ := hB
  try simp only [am_vx, decide_eq_true_eq] at hw
  subst hn
  obtain ⟨hw1, hw2⟩ := hw
  simp only [am_ex, am_l1] at h
  split at h
  · rename_i x r
    obtain ⟨l2, e2, m2⟩ := am_set_eq lv tg _ (fun l' => (some (none, _, l', r, I) : am_R))
    rw [e2] at h
    cases h
    intro H locs ls hP hD hS hl
    refine lv_lstore_n (lv' := _) hx hb hd hw1 hl (by rw [← hw1]; exact hw2) rfl (fun ls1 hl1 => k H locs ls1 hP hD hS (am_lv_set2 rfl m2 hl1))
  · cases h
theorem am_o_iinc {n : Nat} {j : Int} (hB : am_B y d p R s m args c D ca tys A H0 cells slots) (hv : am_v1 y.1.cls y.2.1 y.2.2.1 (pc, .iinc n j, nx, ax, tg) = true) (h : am_ex y.2.2.2.2.2 (.iinc n j) nx ax tg lv st I = some (P, pc', lv', st', I')) (hp : am_p P) (k : am_w p l e R s m args below meth c D ad ca A H0 cells slots Q y pc' lv' st' I') : am_w p l e R s m args below meth c D ad ca A H0 cells slots Q y pc lv st I := by
  obtain ⟨hd, hn, hw⟩ := am_v1_sp rfl hv
  obtain ⟨⟨hx, hb, hml, hown⟩, hts, hN, hK, hT, hA, hR, hC, hk⟩ := hB
  try simp only [am_vx, decide_eq_true_eq] at hw
  subst hn
  obtain ⟨⟨hw1, hw2⟩, hw3⟩ := hw
  subst hw1
  simp only [am_ex, am_ldi] at h
  split at h
  · rename_i x hx2
    obtain ⟨l2, e2, m2⟩ := am_set_eq lv n (.inl (x + ax)) (fun l' => (some (none, _, l', st, I) : am_R))
    rw [e2] at h
    cases h
    intro H locs ls hP hD hS hl
    obtain ⟨q, hq⟩ := List.getElem?_of_mem (List.mem_map.mpr ⟨(n, _), am_lk_mem hx2, rfl⟩ : (n, am_c ad (.inl x)) ∈ am_cl ad lv)
    exact lv_iinc (v := Int32.ofInt (x + ax)) (lv' := _) hx hb hd hl hq (by rw [hw3, Int32.ofInt_add]) hw2 rfl (fun ls1 hl1 => k H locs ls1 hP hD hS (am_lv_set1 rfl m2 hl1))
  · cases h
theorem am_o_iadd (hB : am_B y d p R s m args c D ca tys A H0 cells slots) (hv : am_v1 y.1.cls y.2.1 y.2.2.1 (pc, .iadd, nx, ax, tg) = true) (h : am_ex y.2.2.2.2.2 (.iadd) nx ax tg lv st I = some (P, pc', lv', st', I')) (hp : am_p P) (k : am_w p l e R s m args below meth c D ad ca A H0 cells slots Q y pc' lv' st' I') : am_w p l e R s m args below meth c D ad ca A H0 cells slots Q y pc lv st I := by
  obtain ⟨hd, hn, hw⟩ := am_v1_sp rfl hv
  obtain ⟨⟨hx, hb, hml, hown⟩, hts, hN, hK, hT, hA, hR, hC, hk⟩ := hB
  try simp only [am_vx, decide_eq_true_eq] at hw
  subst hn
  simp only [am_ex, am_ii] at h
  split at h
  · rename_i a b r
    cases h
    intro H locs ls hP hD hS hl
    refine lv_iadd hx hb hd ?_
    rw [← Int32.ofInt_add]; exact k H locs ls hP hD hS hl
  · cases h
theorem am_o_isub (hB : am_B y d p R s m args c D ca tys A H0 cells slots) (hv : am_v1 y.1.cls y.2.1 y.2.2.1 (pc, .isub, nx, ax, tg) = true) (h : am_ex y.2.2.2.2.2 (.isub) nx ax tg lv st I = some (P, pc', lv', st', I')) (hp : am_p P) (k : am_w p l e R s m args below meth c D ad ca A H0 cells slots Q y pc' lv' st' I') : am_w p l e R s m args below meth c D ad ca A H0 cells slots Q y pc lv st I := by
  obtain ⟨hd, hn, hw⟩ := am_v1_sp rfl hv
  obtain ⟨⟨hx, hb, hml, hown⟩, hts, hN, hK, hT, hA, hR, hC, hk⟩ := hB
  try simp only [am_vx, decide_eq_true_eq] at hw
  subst hn
  simp only [am_ex, am_ii] at h
  split at h
  · rename_i a b r
    cases h
    intro H locs ls hP hD hS hl
    refine lv_isub hx hb hd ?_
    rw [← Int32.ofInt_sub]; exact k H locs ls hP hD hS hl
  · cases h
theorem am_o_imul (hB : am_B y d p R s m args c D ca tys A H0 cells slots) (hv : am_v1 y.1.cls y.2.1 y.2.2.1 (pc, .imul, nx, ax, tg) = true) (h : am_ex y.2.2.2.2.2 (.imul) nx ax tg lv st I = some (P, pc', lv', st', I')) (hp : am_p P) (k : am_w p l e R s m args below meth c D ad ca A H0 cells slots Q y pc' lv' st' I') : am_w p l e R s m args below meth c D ad ca A H0 cells slots Q y pc lv st I := by
  obtain ⟨hd, hn, hw⟩ := am_v1_sp rfl hv
  obtain ⟨⟨hx, hb, hml, hown⟩, hts, hN, hK, hT, hA, hR, hC, hk⟩ := hB
  try simp only [am_vx, decide_eq_true_eq] at hw
  subst hn
  simp only [am_ex, am_ii] at h
  split at h
  · rename_i a b r
    cases h
    intro H locs ls hP hD hS hl
    refine lv_imul hx hb hd ?_
    rw [← Int32.ofInt_mul]; exact k H locs ls hP hD hS hl
  · cases h
theorem am_o_iand (hB : am_B y d p R s m args c D ca tys A H0 cells slots) (hv : am_v1 y.1.cls y.2.1 y.2.2.1 (pc, .iand, nx, ax, tg) = true) (h : am_ex y.2.2.2.2.2 (.iand) nx ax tg lv st I = some (P, pc', lv', st', I')) (hp : am_p P) (k : am_w p l e R s m args below meth c D ad ca A H0 cells slots Q y pc' lv' st' I') : am_w p l e R s m args below meth c D ad ca A H0 cells slots Q y pc lv st I := by
  obtain ⟨hd, hn, hw⟩ := am_v1_sp rfl hv
  obtain ⟨⟨hx, hb, hml, hown⟩, hts, hN, hK, hT, hA, hR, hC, hk⟩ := hB
  try simp only [am_vx, decide_eq_true_eq] at hw
  subst hn
  simp only [am_ex, am_ii] at h
  split at h
  · rename_i a b r
    cases h
    intro H locs ls hP hD hS hl
    refine lv_iand hx hb hd ?_
    have k1 := k H locs ls hP hD hS hl
    simp only [List.map_cons, am_c, am_and, am_of] at k1
    exact k1
  · cases h
theorem am_o_ior (hB : am_B y d p R s m args c D ca tys A H0 cells slots) (hv : am_v1 y.1.cls y.2.1 y.2.2.1 (pc, .ior, nx, ax, tg) = true) (h : am_ex y.2.2.2.2.2 (.ior) nx ax tg lv st I = some (P, pc', lv', st', I')) (hp : am_p P) (k : am_w p l e R s m args below meth c D ad ca A H0 cells slots Q y pc' lv' st' I') : am_w p l e R s m args below meth c D ad ca A H0 cells slots Q y pc lv st I := by
  obtain ⟨hd, hn, hw⟩ := am_v1_sp rfl hv
  obtain ⟨⟨hx, hb, hml, hown⟩, hts, hN, hK, hT, hA, hR, hC, hk⟩ := hB
  try simp only [am_vx, decide_eq_true_eq] at hw
  subst hn
  simp only [am_ex, am_ii] at h
  split at h
  · rename_i a b r
    cases h
    intro H locs ls hP hD hS hl
    refine lv_ior hx hb hd ?_
    have k1 := k H locs ls hP hD hS hl
    simp only [List.map_cons, am_c, am_or, am_of] at k1
    exact k1
  · cases h
theorem am_o_ishl (hB : am_B y d p R s m args c D ca tys A H0 cells slots) (hv : am_v1 y.1.cls y.2.1 y.2.2.1 (pc, .ishl, nx, ax, tg) = true) (h : am_ex y.2.2.2.2.2 (.ishl) nx ax tg lv st I = some (P, pc', lv', st', I')) (hp : am_p P) (k : am_w p l e R s m args below meth c D ad ca A H0 cells slots Q y pc' lv' st' I') : am_w p l e R s m args below meth c D ad ca A H0 cells slots Q y pc lv st I := by
  obtain ⟨hd, hn, hw⟩ := am_v1_sp rfl hv
  obtain ⟨⟨hx, hb, hml, hown⟩, hts, hN, hK, hT, hA, hR, hC, hk⟩ := hB
  try simp only [am_vx, decide_eq_true_eq] at hw
  subst hn
  simp only [am_ex, am_ii] at h
  split at h
  · rename_i a b r
    cases h
    intro H locs ls hP hD hS hl
    refine lv_ishl hx hb hd ?_
    have k1 := k H locs ls hP hD hS hl
    simp only [List.map_cons, am_c, am_shl, am_of] at k1
    exact k1
  · cases h
theorem am_o_ishr (hB : am_B y d p R s m args c D ca tys A H0 cells slots) (hv : am_v1 y.1.cls y.2.1 y.2.2.1 (pc, .ishr, nx, ax, tg) = true) (h : am_ex y.2.2.2.2.2 (.ishr) nx ax tg lv st I = some (P, pc', lv', st', I')) (hp : am_p P) (k : am_w p l e R s m args below meth c D ad ca A H0 cells slots Q y pc' lv' st' I') : am_w p l e R s m args below meth c D ad ca A H0 cells slots Q y pc lv st I := by
  obtain ⟨hd, hn, hw⟩ := am_v1_sp rfl hv
  obtain ⟨⟨hx, hb, hml, hown⟩, hts, hN, hK, hT, hA, hR, hC, hk⟩ := hB
  try simp only [am_vx, decide_eq_true_eq] at hw
  subst hn
  simp only [am_ex, am_ii] at h
  split at h
  · rename_i a b r
    cases h
    intro H locs ls hP hD hS hl
    refine lv_ishr hx hb hd ?_
    have k1 := k H locs ls hP hD hS hl
    simp only [List.map_cons, am_c, am_shr, am_of] at k1
    exact k1
  · cases h
theorem am_o_iushr (hB : am_B y d p R s m args c D ca tys A H0 cells slots) (hv : am_v1 y.1.cls y.2.1 y.2.2.1 (pc, .iushr, nx, ax, tg) = true) (h : am_ex y.2.2.2.2.2 (.iushr) nx ax tg lv st I = some (P, pc', lv', st', I')) (hp : am_p P) (k : am_w p l e R s m args below meth c D ad ca A H0 cells slots Q y pc' lv' st' I') : am_w p l e R s m args below meth c D ad ca A H0 cells slots Q y pc lv st I := by
  obtain ⟨hd, hn, hw⟩ := am_v1_sp rfl hv
  obtain ⟨⟨hx, hb, hml, hown⟩, hts, hN, hK, hT, hA, hR, hC, hk⟩ := hB
  try simp only [am_vx, decide_eq_true_eq] at hw
  subst hn
  simp only [am_ex, am_ii] at h
  split at h
  · rename_i a b r
    cases h
    intro H locs ls hP hD hS hl
    refine lv_iushr hx hb hd rfl ?_
    have k1 := k H locs ls hP hD hS hl
    simp only [List.map_cons, am_c, am_ushr, am_of] at k1
    exact k1
  · cases h
theorem am_o_idiv (hB : am_B y d p R s m args c D ca tys A H0 cells slots) (hv : am_v1 y.1.cls y.2.1 y.2.2.1 (pc, .idiv, nx, ax, tg) = true) (h : am_ex y.2.2.2.2.2 (.idiv) nx ax tg lv st I = some (P, pc', lv', st', I')) (hp : am_p P) (k : am_w p l e R s m args below meth c D ad ca A H0 cells slots Q y pc' lv' st' I') : am_w p l e R s m args below meth c D ad ca A H0 cells slots Q y pc lv st I := by
  obtain ⟨hd, hn, hw⟩ := am_v1_sp rfl hv
  obtain ⟨⟨hx, hb, hml, hown⟩, hts, hN, hK, hT, hA, hR, hC, hk⟩ := hB
  try simp only [am_vx, decide_eq_true_eq] at hw
  subst hn
  simp only [am_ex, am_ii] at h
  split at h
  · rename_i a b r
    cases h
    intro H locs ls hP hD hS hl
    refine lv_idiv hx hb hd (am_nz hp.2) ?_
    rw [am_ofdiv hp.1 hp.2]
    exact k H locs ls hP hD hS hl
  · cases h
theorem am_o_irem (hB : am_B y d p R s m args c D ca tys A H0 cells slots) (hv : am_v1 y.1.cls y.2.1 y.2.2.1 (pc, .irem, nx, ax, tg) = true) (h : am_ex y.2.2.2.2.2 (.irem) nx ax tg lv st I = some (P, pc', lv', st', I')) (hp : am_p P) (k : am_w p l e R s m args below meth c D ad ca A H0 cells slots Q y pc' lv' st' I') : am_w p l e R s m args below meth c D ad ca A H0 cells slots Q y pc lv st I := by
  obtain ⟨hd, hn, hw⟩ := am_v1_sp rfl hv
  obtain ⟨⟨hx, hb, hml, hown⟩, hts, hN, hK, hT, hA, hR, hC, hk⟩ := hB
  try simp only [am_vx, decide_eq_true_eq] at hw
  subst hn
  simp only [am_ex, am_ii] at h
  split at h
  · rename_i a b r
    cases h
    intro H locs ls hP hD hS hl
    refine lv_irem hx hb hd (am_nz hp.2) ?_
    rw [am_ofrem hp.1 hp.2]
    exact k H locs ls hP hD hS hl
  · cases h
theorem am_o_ineg (hB : am_B y d p R s m args c D ca tys A H0 cells slots) (hv : am_v1 y.1.cls y.2.1 y.2.2.1 (pc, .ineg, nx, ax, tg) = true) (h : am_ex y.2.2.2.2.2 (.ineg) nx ax tg lv st I = some (P, pc', lv', st', I')) (hp : am_p P) (k : am_w p l e R s m args below meth c D ad ca A H0 cells slots Q y pc' lv' st' I') : am_w p l e R s m args below meth c D ad ca A H0 cells slots Q y pc lv st I := by
  obtain ⟨hd, hn, hw⟩ := am_v1_sp rfl hv
  obtain ⟨⟨hx, hb, hml, hown⟩, hts, hN, hK, hT, hA, hR, hC, hk⟩ := hB
  try simp only [am_vx, decide_eq_true_eq] at hw
  subst hn
  simp only [am_ex, am_i1] at h
  split at h
  · rename_i a r
    cases h
    intro H locs ls hP hD hS hl
    refine lv_ineg hx hb hd ?_
    rw [← Int32.ofInt_neg]; exact k H locs ls hP hD hS hl
  · cases h
theorem am_o_ladd (hB : am_B y d p R s m args c D ca tys A H0 cells slots) (hv : am_v1 y.1.cls y.2.1 y.2.2.1 (pc, .ladd, nx, ax, tg) = true) (h : am_ex y.2.2.2.2.2 (.ladd) nx ax tg lv st I = some (P, pc', lv', st', I')) (hp : am_p P) (k : am_w p l e R s m args below meth c D ad ca A H0 cells slots Q y pc' lv' st' I') : am_w p l e R s m args below meth c D ad ca A H0 cells slots Q y pc lv st I := by
  obtain ⟨hd, hn, hw⟩ := am_v1_sp rfl hv
  obtain ⟨⟨hx, hb, hml, hown⟩, hts, hN, hK, hT, hA, hR, hC, hk⟩ := hB
  try simp only [am_vx, decide_eq_true_eq] at hw
  subst hn
  simp only [am_ex, am_ll] at h
  split at h
  · rename_i a b r
    cases h
    intro H locs ls hP hD hS hl
    refine lv_ladd hx hb hd ?_
    rw [← Int64.ofInt_add]; exact k H locs ls hP hD hS hl
  · cases h
theorem am_o_lsub (hB : am_B y d p R s m args c D ca tys A H0 cells slots) (hv : am_v1 y.1.cls y.2.1 y.2.2.1 (pc, .lsub, nx, ax, tg) = true) (h : am_ex y.2.2.2.2.2 (.lsub) nx ax tg lv st I = some (P, pc', lv', st', I')) (hp : am_p P) (k : am_w p l e R s m args below meth c D ad ca A H0 cells slots Q y pc' lv' st' I') : am_w p l e R s m args below meth c D ad ca A H0 cells slots Q y pc lv st I := by
  obtain ⟨hd, hn, hw⟩ := am_v1_sp rfl hv
  obtain ⟨⟨hx, hb, hml, hown⟩, hts, hN, hK, hT, hA, hR, hC, hk⟩ := hB
  try simp only [am_vx, decide_eq_true_eq] at hw
  subst hn
  simp only [am_ex, am_ll] at h
  split at h
  · rename_i a b r
    cases h
    intro H locs ls hP hD hS hl
    refine lv_lsub hx hb hd ?_
    rw [← Int64.ofInt_sub]; exact k H locs ls hP hD hS hl
  · cases h
theorem am_o_i2l (hB : am_B y d p R s m args c D ca tys A H0 cells slots) (hv : am_v1 y.1.cls y.2.1 y.2.2.1 (pc, .i2l, nx, ax, tg) = true) (h : am_ex y.2.2.2.2.2 (.i2l) nx ax tg lv st I = some (P, pc', lv', st', I')) (hp : am_p P) (k : am_w p l e R s m args below meth c D ad ca A H0 cells slots Q y pc' lv' st' I') : am_w p l e R s m args below meth c D ad ca A H0 cells slots Q y pc lv st I := by
  obtain ⟨hd, hn, hw⟩ := am_v1_sp rfl hv
  obtain ⟨⟨hx, hb, hml, hown⟩, hts, hN, hK, hT, hA, hR, hC, hk⟩ := hB
  try simp only [am_vx, decide_eq_true_eq] at hw
  subst hn
  simp only [am_ex, am_i1] at h
  split at h
  · rename_i a r
    cases h
    intro H locs ls hP hD hS hl
    have hp : -2147483648 ≤ a ∧ a < 2147483648 := hp
    exact lv_i2l hx hb hd (Int32.toInt64_ofInt (by rw [am_min32]; omega) (by rw [am_max32]; omega)) (k H locs ls hP hD hS hl)
  · cases h
theorem am_o_l2i (hB : am_B y d p R s m args c D ca tys A H0 cells slots) (hv : am_v1 y.1.cls y.2.1 y.2.2.1 (pc, .l2i, nx, ax, tg) = true) (h : am_ex y.2.2.2.2.2 (.l2i) nx ax tg lv st I = some (P, pc', lv', st', I')) (hp : am_p P) (k : am_w p l e R s m args below meth c D ad ca A H0 cells slots Q y pc' lv' st' I') : am_w p l e R s m args below meth c D ad ca A H0 cells slots Q y pc lv st I := by
  obtain ⟨hd, hn, hw⟩ := am_v1_sp rfl hv
  obtain ⟨⟨hx, hb, hml, hown⟩, hts, hN, hK, hT, hA, hR, hC, hk⟩ := hB
  try simp only [am_vx, decide_eq_true_eq] at hw
  subst hn
  simp only [am_ex, am_l1] at h
  split at h
  · rename_i a r
    cases h
    intro H locs ls hP hD hS hl
    exact lv_l2i hx hb hd Int64.toInt32_ofInt (k H locs ls hP hD hS hl)
  · cases h
theorem am_o_dup (hB : am_B y d p R s m args c D ca tys A H0 cells slots) (hv : am_v1 y.1.cls y.2.1 y.2.2.1 (pc, .dup, nx, ax, tg) = true) (h : am_ex y.2.2.2.2.2 (.dup) nx ax tg lv st I = some (P, pc', lv', st', I')) (hp : am_p P) (k : am_w p l e R s m args below meth c D ad ca A H0 cells slots Q y pc' lv' st' I') : am_w p l e R s m args below meth c D ad ca A H0 cells slots Q y pc lv st I := by
  obtain ⟨hd, hn, hw⟩ := am_v1_sp rfl hv
  obtain ⟨⟨hx, hb, hml, hown⟩, hts, hN, hK, hT, hA, hR, hC, hk⟩ := hB
  try simp only [am_vx, decide_eq_true_eq] at hw
  subst hn
  simp only [am_ex] at h
  split at h
  · cases h
    intro H locs ls hP hD hS hl
    exact lv_dup hx hb hd rfl (k H locs ls hP hD hS hl)
  · cases h
    intro H locs ls hP hD hS hl
    exact lv_dup hx hb hd rfl (k H locs ls hP hD hS hl)
  · cases h
theorem am_o_dup2 (hB : am_B y d p R s m args c D ca tys A H0 cells slots) (hv : am_v1 y.1.cls y.2.1 y.2.2.1 (pc, .dup2, nx, ax, tg) = true) (h : am_ex y.2.2.2.2.2 (.dup2) nx ax tg lv st I = some (P, pc', lv', st', I')) (hp : am_p P) (k : am_w p l e R s m args below meth c D ad ca A H0 cells slots Q y pc' lv' st' I') : am_w p l e R s m args below meth c D ad ca A H0 cells slots Q y pc lv st I := by
  obtain ⟨hd, hn, hw⟩ := am_v1_sp rfl hv
  obtain ⟨⟨hx, hb, hml, hown⟩, hts, hN, hK, hT, hA, hR, hC, hk⟩ := hB
  try simp only [am_vx, decide_eq_true_eq] at hw
  subst hn
  simp only [am_ex, am_ai] at h
  split at h
  · cases h
    intro H locs ls hP hD hS hl
    exact lv_dup2_11 hx hb hd rfl rfl (k H locs ls hP hD hS hl)
  · cases h
theorem am_o_goto {o : Int} (hB : am_B y d p R s m args c D ca tys A H0 cells slots) (hv : am_v1 y.1.cls y.2.1 y.2.2.1 (pc, .goto o, nx, ax, tg) = true) (h : am_ex y.2.2.2.2.2 (.goto o) nx ax tg lv st I = some (P, pc', lv', st', I')) (hp : am_p P) (k : am_w p l e R s m args below meth c D ad ca A H0 cells slots Q y pc' lv' st' I') : am_w p l e R s m args below meth c D ad ca A H0 cells slots Q y pc lv st I := by
  obtain ⟨hd, hn, hw⟩ := am_v1_sp rfl hv
  obtain ⟨⟨hx, hb, hml, hown⟩, hts, hN, hK, hT, hA, hR, hC, hk⟩ := hB
  try simp only [am_vx, decide_eq_true_eq] at hw
  subst hn
  simp only [am_ex] at h
  cases h
  intro H locs ls hP hD hS hl
  exact lv_goto hx hb hd hw (k H locs ls hP hD hS hl)
end AMS
end
section
theorem am_uws {C : String} {T : u_T} {N : Nat} {ci : Nat} (h : es_cl[ci]? = some (C, T, N)) : ∀ w ∈ u_ws C T N, w ∈ es_gt := by
  intro w hw
  refine es_gt_in (es_in ((es_cl_ok ci _ h).1 w hw)) ?_
  obtain ⟨k, -, rfl⟩ := List.mem_map.mp hw
  unfold u_lay
  split <;> rfl
theorem am_fok_sp {own : String} {n ci j : Nat} {r : vw_C} (h : am_fok own (n, ci, j) = true) (hr : es_cl[ci]? = some r) : j < r.2.2 ∧ ∃ ref : String, Jvm.Cond.fieldLink own n ref (r.2.1 j).2.1 (r.2.1 j).2.2.1 ∈ es_gt ∧ (ref = (r.2.1 j).1 ∨ Jvm.Cond.sameField ref (r.2.1 j).1 (r.2.1 j).2.1 (r.2.1 j).2.2.1 ∈ es_gt) := by
  unfold am_fok at h
  dsimp only at h
  rw [hr] at h
  simp only [Bool.and_eq_true, Bool.or_eq_true, decide_eq_true_eq] at h
  refine ⟨h.1, ?_⟩
  rcases h.2 with h2 | h2
  · exact ⟨_, am_wd_in h2, Or.inl rfl⟩
  · exact ⟨_, am_wd_in h2.1, Or.inr (am_wd_in h2.2)⟩
theorem am_same {args : Array Value} {s : State} {ref o n dd : String} (hts : ∀ w ∈ es_gt, w.before args s = true) (h : ref = o ∨ Jvm.Cond.sameField ref o n dd ∈ es_gt) : ∀ x, s.fieldFound? o n dd = some x → s.fieldFound? ref n dd = some x := by
  intro x hx
  rcases h with rfl | h
  · exact hx
  · exact u_same (hts _ h) x hx
theorem am_nar (b : Bool) {x : Int} (h : b = true → x = 0 ∨ x = 1) : ∃ ty : FieldType, parseFieldDescriptor (if b then "Z" else "I") = some ty ∧ narrow ty (.int (Int32.ofInt x)) = .int (Int32.ofInt x) ∧ fits ty (.int (Int32.ofInt x)) = true := by
  cases b with
  | false => exact ⟨.int, by decide +kernel, rfl, rfl⟩
  | true =>
    rcases h rfl with rfl | rfl
    · exact ⟨.boolean, by decide +kernel, by decide +kernel, by decide +kernel⟩
    · exact ⟨.boolean, by decide +kernel, by decide +kernel, by decide +kernel⟩
theorem am_cell_put {ad : Nat → Nat} {ca : Nat → ClassId} {I : am_I} {a j : Nat} {b : Bool} {o : Nat × List (Bool ⊕ Nat)} (x : Int) (ho : am_nth ES a = some (.inl o)) (hj : o.2[j]? = some (.inl b)) : (am_W ad ca I).set a (ad a, .inr (o.1, (am_fv ad (I a) 0 o.2).set j (.int (Int32.ofInt x)))) = am_W ad ca (am_u I a j x) := by
  rw [← am_W_put (I := I) (I' := am_u I a j x) ho (fun q hq => am_u_ne hq), am_fv_set x hj]
  unfold am_cell
  dsimp only
  rw [am_u_eq]
theorem am_cell_putA {ad : Nat → Nat} {ca : Nat → ClassId} {I : am_I} {a j : Nat} {o : FieldType × Int × List Nat} (x : Int) (ho : am_nth ES a = some (.inr o)) : (am_W ad ca I).set a (ad a, .inl (ca a, o.2.1.toNat, am_ar ad o.1 o.2.2 (am_up (I a) j x))) = am_W ad ca (am_u I a j x) := by
  rw [← am_W_put (I := I) (I' := am_u I a j x) ho (fun q hq => am_u_ne hq)]
  unfold am_cell
  dsimp only
  rw [am_u_eq]
theorem am_updI (f : Nat → Int) (j : Nat) (x : Int) : upd (fun i => Int32.ofInt (f i)) j (Int32.ofInt x) = fun i => Int32.ofInt (am_up f j x i) := by
  funext i
  unfold upd am_up
  split <;> rfl
theorem am_updL (f : Nat → Int) (j : Nat) (x : Int) : vp_updL (fun i => Int64.ofInt (f i)) j (Int64.ofInt x) = fun i => Int64.ofInt (am_up f j x i) := by
  funext i
  unfold vp_updL am_up
  split <;> rfl
section AMH
variable {p : Program} {l : Launch} {e : Env} {R : Room} {s : State} {m : MethodId} {args : Array Value} {below : List Frame} {meth : Method} {c : Code} {cells slots : Nat} {Q : State → Prop} {D : va_G} {ad : Nat → Nat} {ca : Nat → ClassId} {tys : List (ClassId × FieldType)} {A : Nat → Prop} {H0 : Heap} {y : am_Y} {d : Nat} {pc nx tg pc' : Nat} {ax : Int} {lv lv' : List (Nat × am_v)} {st st' : List am_v} {I I' : am_I} {P : Option Prop}
theorem am_o_getfield {n : Nat} (hB : am_B y d p R s m args c D ca tys A H0 cells slots) (hv : am_v1 y.1.cls y.2.1 y.2.2.1 (pc, .getfield n, nx, ax, tg) = true) (h : am_ex y.2.2.2.2.2 (.getfield n) nx ax tg lv st I = some (P, pc', lv', st', I')) (hp : am_p P) (k : am_w p l e R s m args below meth c D ad ca A H0 cells slots Q y pc' lv' st' I') : am_w p l e R s m args below meth c D ad ca A H0 cells slots Q y pc lv st I := by
  obtain ⟨hd, hn, hw⟩ := am_v1_sp rfl hv
  obtain ⟨⟨hx, hb, hml, hown⟩, hts, hN, hK, hT, hA, hR, hC, hk⟩ := hB
  try simp only [am_vx, decide_eq_true_eq] at hw
  subst hn
  simp only [am_ex] at h
  split at h
  · rename_i a r
    unfold am_ob at h
    split at h
    · rename_i o ho
      dsimp only at h
      unfold am_fsk at h
      split at h
      · rename_i j hj
        obtain ⟨⟨C, T, N⟩, hr0, hlen, hfld⟩ := es_sh_fld ho
        obtain ⟨hlt, ref, hli, hsa⟩ := am_fok_sp (am_chk_f hk (am_fs_mem hj)) hr0
        dsimp only at h
        unfold am_gf at h
        split at h
        · rename_i b hb2
          cases h
          intro H locs ls hP hD hS hl
          exact va_get hx hb hts (am_uws hr0) hown hK hP a (am_W_at I ho) hr0 j hlt (hts _ hli) (am_same hts hsa) (v := .int (Int32.ofInt (I a j))) (by rw [am_fv_get, ← am_nth_eq, hb2]; simp) hd (k H locs ls hP hD hS hl)
        · rename_i q hb2
          cases h
          intro H locs ls hP hD hS hl
          exact va_get hx hb hts (am_uws hr0) hown hK hP a (am_W_at I ho) hr0 j hlt (hts _ hli) (am_same hts hsa) (v := .ref (ad q)) (by rw [am_fv_get, ← am_nth_eq, hb2]; simp) hd (k H locs ls hP hD hS hl)
        · cases h
      · cases h
    · cases h
  · cases h
theorem am_o_putfield {n : Nat} (hB : am_B y d p R s m args c D ca tys A H0 cells slots) (hv : am_v1 y.1.cls y.2.1 y.2.2.1 (pc, .putfield n, nx, ax, tg) = true) (h : am_ex y.2.2.2.2.2 (.putfield n) nx ax tg lv st I = some (P, pc', lv', st', I')) (hp : am_p P) (k : am_w p l e R s m args below meth c D ad ca A H0 cells slots Q y pc' lv' st' I') : am_w p l e R s m args below meth c D ad ca A H0 cells slots Q y pc lv st I := by
  obtain ⟨hd, hn, hw⟩ := am_v1_sp rfl hv
  obtain ⟨⟨hx, hb, hml, hown⟩, hts, hN, hK, hT, hA, hR, hC, hk⟩ := hB
  try simp only [am_vx, decide_eq_true_eq] at hw
  subst hn
  simp only [am_ex] at h
  split at h
  · rename_i x a r
    unfold am_ob at h
    split at h
    · rename_i o ho
      dsimp only at h
      unfold am_fsk at h
      split at h
      · rename_i j hj
        obtain ⟨⟨C, T, N⟩, hr0, hlen, hfld⟩ := es_sh_fld ho
        obtain ⟨hlt, ref, hli, hsa⟩ := am_fok_sp (am_chk_f hk (am_fs_mem hj)) hr0
        dsimp only at h
        unfold am_gf at h
        split at h
        · rename_i b hb2
          cases b with
          | false =>
            cases h
            obtain ⟨ty, t1, t2, t3⟩ := am_nar false (x := x) (fun h => by cases h)
            obtain ⟨f1, f2⟩ := hfld j false (by rw [← am_nth_eq]; exact hb2)
            intro H locs ls hP hD hS hl
            refine va_put hx hb hts (am_uws hr0) (es_ty T) (es_cl_ok _ _ hr0).2.1 (es_cl_ok _ _ hr0).2.2 hown hK hP hD hS a (am_W_at I ho) hr0 j hlt (hts _ hli) (am_same hts hsa) f2 (ty := ty) (v := .int (Int32.ofInt x)) (by rw [f1]; exact t1) t2 t3 (by rw [am_fv_len, hlen]; exact hlt) hd (fun H1 locs1 hP1 hD1 hS1 => ?_)
            rw [am_cell_put x ho (by rw [← am_nth_eq]; exact hb2)] at hP1 hD1
            exact k H1 locs1 ls hP1 hD1 hS1 hl
          | true =>
            cases h
            obtain ⟨ty, t1, t2, t3⟩ := am_nar true (x := x) (fun _ => hp)
            obtain ⟨f1, f2⟩ := hfld j true (by rw [← am_nth_eq]; exact hb2)
            intro H locs ls hP hD hS hl
            refine va_put hx hb hts (am_uws hr0) (es_ty T) (es_cl_ok _ _ hr0).2.1 (es_cl_ok _ _ hr0).2.2 hown hK hP hD hS a (am_W_at I ho) hr0 j hlt (hts _ hli) (am_same hts hsa) f2 (ty := ty) (v := .int (Int32.ofInt x)) (by rw [f1]; exact t1) t2 t3 (by rw [am_fv_len, hlen]; exact hlt) hd (fun H1 locs1 hP1 hD1 hS1 => ?_)
            rw [am_cell_put x ho (by rw [← am_nth_eq]; exact hb2)] at hP1 hD1
            exact k H1 locs1 ls hP1 hD1 hS1 hl
        · cases h
        · cases h
      · cases h
    · cases h
  · cases h
theorem am_o_iaload (hB : am_B y d p R s m args c D ca tys A H0 cells slots) (hv : am_v1 y.1.cls y.2.1 y.2.2.1 (pc, .iaload, nx, ax, tg) = true) (h : am_ex y.2.2.2.2.2 (.iaload) nx ax tg lv st I = some (P, pc', lv', st', I')) (hp : am_p P) (k : am_w p l e R s m args below meth c D ad ca A H0 cells slots Q y pc' lv' st' I') : am_w p l e R s m args below meth c D ad ca A H0 cells slots Q y pc lv st I := by
  obtain ⟨hd, hn, hw⟩ := am_v1_sp rfl hv
  obtain ⟨⟨hx, hb, hml, hown⟩, hts, hN, hK, hT, hA, hR, hC, hk⟩ := hB
  try simp only [am_vx, decide_eq_true_eq] at hw
  subst hn
  simp only [am_ex, am_ai] at h
  split at h
  · rename_i i a r
    unfold am_arr at h
    split at h
    · rename_i o ho
      obtain ⟨ty, n, rs⟩ := o
      dsimp only at h
      unfold am_isI at h
      split at h
      · cases h
        obtain ⟨z1, z2⟩ := es_sh_arr ho
        obtain ⟨t0, ht0⟩ := hT a _ ho
        obtain ⟨i1, i2⟩ := am_idx hp z2
        intro H locs ls hP hD hS hl
        refine va_iald hx hb hK hP a t0 (am_W_at I ho) ht0 i1 hd ?_
        rw [i2]
        exact k H locs ls hP hD hS hl
      · cases h
    · cases h
  · cases h
theorem am_o_laload (hB : am_B y d p R s m args c D ca tys A H0 cells slots) (hv : am_v1 y.1.cls y.2.1 y.2.2.1 (pc, .laload, nx, ax, tg) = true) (h : am_ex y.2.2.2.2.2 (.laload) nx ax tg lv st I = some (P, pc', lv', st', I')) (hp : am_p P) (k : am_w p l e R s m args below meth c D ad ca A H0 cells slots Q y pc' lv' st' I') : am_w p l e R s m args below meth c D ad ca A H0 cells slots Q y pc lv st I := by
  obtain ⟨hd, hn, hw⟩ := am_v1_sp rfl hv
  obtain ⟨⟨hx, hb, hml, hown⟩, hts, hN, hK, hT, hA, hR, hC, hk⟩ := hB
  try simp only [am_vx, decide_eq_true_eq] at hw
  subst hn
  simp only [am_ex, am_ai] at h
  split at h
  · rename_i i a r
    unfold am_arr at h
    split at h
    · rename_i o ho
      obtain ⟨ty, n, rs⟩ := o
      dsimp only at h
      unfold am_isL at h
      split at h
      · cases h
        obtain ⟨z1, z2⟩ := es_sh_arr ho
        obtain ⟨t0, ht0⟩ := hT a _ ho
        obtain ⟨i1, i2⟩ := am_idx hp z2
        intro H locs ls hP hD hS hl
        refine va_lald hx hb hK hP a t0 (am_W_at I ho) ht0 i1 hd ?_
        rw [i2]
        exact k H locs ls hP hD hS hl
      · cases h
    · cases h
  · cases h
theorem am_o_baload (hB : am_B y d p R s m args c D ca tys A H0 cells slots) (hv : am_v1 y.1.cls y.2.1 y.2.2.1 (pc, .baload, nx, ax, tg) = true) (h : am_ex y.2.2.2.2.2 (.baload) nx ax tg lv st I = some (P, pc', lv', st', I')) (hp : am_p P) (k : am_w p l e R s m args below meth c D ad ca A H0 cells slots Q y pc' lv' st' I') : am_w p l e R s m args below meth c D ad ca A H0 cells slots Q y pc lv st I := by
  obtain ⟨hd, hn, hw⟩ := am_v1_sp rfl hv
  obtain ⟨⟨hx, hb, hml, hown⟩, hts, hN, hK, hT, hA, hR, hC, hk⟩ := hB
  try simp only [am_vx, decide_eq_true_eq] at hw
  subst hn
  simp only [am_ex, am_ai] at h
  split at h
  · rename_i i a r
    unfold am_arr at h
    split at h
    · rename_i o ho
      obtain ⟨ty, n, rs⟩ := o
      dsimp only at h
      unfold am_isZ at h
      split at h
      · cases h
        obtain ⟨z1, z2⟩ := es_sh_arr ho
        obtain ⟨t0, ht0⟩ := hT a _ ho
        obtain ⟨i1, i2⟩ := am_idx hp z2
        intro H locs ls hP hD hS hl
        refine va_zald hx hb hK hP a t0 (am_W_at I ho) ht0 i1 hd ?_
        rw [i2]
        exact k H locs ls hP hD hS hl
      · cases h
    · cases h
  · cases h
theorem am_o_aaload (hB : am_B y d p R s m args c D ca tys A H0 cells slots) (hv : am_v1 y.1.cls y.2.1 y.2.2.1 (pc, .aaload, nx, ax, tg) = true) (h : am_ex y.2.2.2.2.2 (.aaload) nx ax tg lv st I = some (P, pc', lv', st', I')) (hp : am_p P) (k : am_w p l e R s m args below meth c D ad ca A H0 cells slots Q y pc' lv' st' I') : am_w p l e R s m args below meth c D ad ca A H0 cells slots Q y pc lv st I := by
  obtain ⟨hd, hn, hw⟩ := am_v1_sp rfl hv
  obtain ⟨⟨hx, hb, hml, hown⟩, hts, hN, hK, hT, hA, hR, hC, hk⟩ := hB
  try simp only [am_vx, decide_eq_true_eq] at hw
  subst hn
  simp only [am_ex, am_ai] at h
  split at h
  · rename_i i a r
    unfold am_arr at h
    split at h
    · rename_i o ho
      obtain ⟨ty, n, rs⟩ := o
      dsimp only at h
      unfold am_isA at h
      split at h
      · unfold am_nk at h
        split at h
        · rename_i q hq
          cases h
          obtain ⟨z1, z2⟩ := es_sh_arr ho
          obtain ⟨t0, ht0⟩ := hT a _ ho
          obtain ⟨i1, i2⟩ := am_idx hp z2
          intro H locs ls hP hD hS hl
          have hlt : (Int32.ofInt i).toNatClampNeg < n.toNat := Nat.not_le.mp fun q => i1 (Or.inr q)
          refine W.aald (v := va_rf ((rs[(Int32.ofInt i).toNatClampNeg]?).map ad)) (ty := .array .int) hx hb (hP a _ (am_W_at I ho)) ((hK.2 t0 _ ht0).1 n.toNat (fun j => va_rf ((rs[j]?).map ad))) rfl (fun q => by cases q) (by show ¬ (Int32.ofInt i < 0 ∨ (arrV _ _ _).slots.size ≤ _); rw [arrV_size]; exact i1) (by show (arrV _ _ _).slots[_]? = _; rw [arrV_read _ _ hlt]) rfl rfl hd ?_
          rw [i2, ← am_nth_eq, hq]
          exact k H locs ls hP hD hS hl
        · cases h
      · cases h
    · cases h
  · cases h
theorem am_o_iastore (hB : am_B y d p R s m args c D ca tys A H0 cells slots) (hv : am_v1 y.1.cls y.2.1 y.2.2.1 (pc, .iastore, nx, ax, tg) = true) (h : am_ex y.2.2.2.2.2 (.iastore) nx ax tg lv st I = some (P, pc', lv', st', I')) (hp : am_p P) (k : am_w p l e R s m args below meth c D ad ca A H0 cells slots Q y pc' lv' st' I') : am_w p l e R s m args below meth c D ad ca A H0 cells slots Q y pc lv st I := by
  obtain ⟨hd, hn, hw⟩ := am_v1_sp rfl hv
  obtain ⟨⟨hx, hb, hml, hown⟩, hts, hN, hK, hT, hA, hR, hC, hk⟩ := hB
  try simp only [am_vx, decide_eq_true_eq] at hw
  subst hn
  simp only [am_ex] at h
  split at h
  · rename_i x i a r
    unfold am_arr at h
    split at h
    · rename_i o ho
      obtain ⟨ty, n, rs⟩ := o
      dsimp only at h
      unfold am_isI at h
      split at h
      · cases h
        obtain ⟨z1, z2⟩ := es_sh_arr ho
        obtain ⟨t0, ht0⟩ := hT a _ ho
        obtain ⟨i1, i2⟩ := am_idx hp z2
        intro H locs ls hP hD hS hl
        refine va_iast hx hb hK hP hD hS a t0 (am_W_at I ho) ht0 i1 hd (fun H1 locs1 hP1 hD1 hS1 => ?_)
        rw [i2, am_updI] at hP1 hD1
        refine k H1 locs1 ls ?_ ?_ hS1 hl
        · rw [← am_cell_putA x ho]; exact hP1
        · rw [← am_cell_putA x ho]; exact hD1
      · cases h
    · cases h
  · cases h
theorem am_o_lastore (hB : am_B y d p R s m args c D ca tys A H0 cells slots) (hv : am_v1 y.1.cls y.2.1 y.2.2.1 (pc, .lastore, nx, ax, tg) = true) (h : am_ex y.2.2.2.2.2 (.lastore) nx ax tg lv st I = some (P, pc', lv', st', I')) (hp : am_p P) (k : am_w p l e R s m args below meth c D ad ca A H0 cells slots Q y pc' lv' st' I') : am_w p l e R s m args below meth c D ad ca A H0 cells slots Q y pc lv st I := by
  obtain ⟨hd, hn, hw⟩ := am_v1_sp rfl hv
  obtain ⟨⟨hx, hb, hml, hown⟩, hts, hN, hK, hT, hA, hR, hC, hk⟩ := hB
  try simp only [am_vx, decide_eq_true_eq] at hw
  subst hn
  simp only [am_ex] at h
  split at h
  · rename_i x i a r
    unfold am_arr at h
    split at h
    · rename_i o ho
      obtain ⟨ty, n, rs⟩ := o
      dsimp only at h
      unfold am_isL at h
      split at h
      · cases h
        obtain ⟨z1, z2⟩ := es_sh_arr ho
        obtain ⟨t0, ht0⟩ := hT a _ ho
        obtain ⟨i1, i2⟩ := am_idx hp z2
        intro H locs ls hP hD hS hl
        refine va_last hx hb hK hP hD hS a t0 (am_W_at I ho) ht0 i1 hd (fun H1 locs1 hP1 hD1 hS1 => ?_)
        rw [i2, am_updL] at hP1 hD1
        refine k H1 locs1 ls ?_ ?_ hS1 hl
        · rw [← am_cell_putA x ho]; exact hP1
        · rw [← am_cell_putA x ho]; exact hD1
      · cases h
    · cases h
  · cases h
theorem am_o_bastore (hB : am_B y d p R s m args c D ca tys A H0 cells slots) (hv : am_v1 y.1.cls y.2.1 y.2.2.1 (pc, .bastore, nx, ax, tg) = true) (h : am_ex y.2.2.2.2.2 (.bastore) nx ax tg lv st I = some (P, pc', lv', st', I')) (hp : am_p P) (k : am_w p l e R s m args below meth c D ad ca A H0 cells slots Q y pc' lv' st' I') : am_w p l e R s m args below meth c D ad ca A H0 cells slots Q y pc lv st I := by
  obtain ⟨hd, hn, hw⟩ := am_v1_sp rfl hv
  obtain ⟨⟨hx, hb, hml, hown⟩, hts, hN, hK, hT, hA, hR, hC, hk⟩ := hB
  try simp only [am_vx, decide_eq_true_eq] at hw
  subst hn
  simp only [am_ex] at h
  split at h
  · rename_i x i a r
    unfold am_arr at h
    split at h
    · rename_i o ho
      obtain ⟨ty, n, rs⟩ := o
      dsimp only at h
      unfold am_isZ at h
      split at h
      · cases h
        obtain ⟨z1, z2⟩ := es_sh_arr ho
        obtain ⟨t0, ht0⟩ := hT a _ ho
        obtain ⟨i1, i2⟩ := am_idx hp.1 z2
        intro H locs ls hP hD hS hl
        refine va_zast hx hb hK hP hD hS a t0 (am_W_at I ho) ht0 i1 hd (fun H1 locs1 hP1 hD1 hS1 => ?_)
        have e0 : vp_nar .boolean (Int32.ofInt x) = Int32.ofInt x := by rcases hp.2 with rfl | rfl <;> decide +kernel
        rw [i2, e0, am_updI] at hP1 hD1
        refine k H1 locs1 ls ?_ ?_ hS1 hl
        · rw [← am_cell_putA x ho]; exact hP1
        · rw [← am_cell_putA x ho]; exact hD1
      · cases h
    · cases h
  · cases h
theorem am_o_arraylength (hB : am_B y d p R s m args c D ca tys A H0 cells slots) (hv : am_v1 y.1.cls y.2.1 y.2.2.1 (pc, .arraylength, nx, ax, tg) = true) (h : am_ex y.2.2.2.2.2 (.arraylength) nx ax tg lv st I = some (P, pc', lv', st', I')) (hp : am_p P) (k : am_w p l e R s m args below meth c D ad ca A H0 cells slots Q y pc' lv' st' I') : am_w p l e R s m args below meth c D ad ca A H0 cells slots Q y pc lv st I := by
  obtain ⟨hd, hn, hw⟩ := am_v1_sp rfl hv
  obtain ⟨⟨hx, hb, hml, hown⟩, hts, hN, hK, hT, hA, hR, hC, hk⟩ := hB
  try simp only [am_vx, decide_eq_true_eq] at hw
  subst hn
  simp only [am_ex] at h
  split at h
  · rename_i a r
    unfold am_arr at h
    split at h
    · rename_i o ho
      obtain ⟨ty, n, rs⟩ := o
      dsimp only at h
      cases h
      obtain ⟨z1, z2⟩ := es_sh_arr ho
      obtain ⟨t0, ht0⟩ := hT a _ ho
      intro H locs ls hP hD hS hl
      refine va_alen hx hb hK hP a t0 (am_W_at I ho) ht0 (v := Int32.ofInt n) ?_ hd (k H locs ls hP hD hS hl)
      show Int32.ofNat n.toNat = Int32.ofInt n
      rw [← Int32.ofInt_eq_ofNat, Int.toNat_of_nonneg z1]
    · cases h
  · cases h
theorem am_ex_ok {ins : Instr} (hB : am_B y d p R s m args c D ca tys A H0 cells slots) (hv : am_v1 y.1.cls y.2.1 y.2.2.1 (pc, ins, nx, ax, tg) = true) (h : am_ex y.2.2.2.2.2 ins nx ax tg lv st I = some (P, pc', lv', st', I')) (hp : am_p P) (k : am_w p l e R s m args below meth c D ad ca A H0 cells slots Q y pc' lv' st' I') : am_w p l e R s m args below meth c D ad ca A H0 cells slots Q y pc lv st I := by
  cases ins with
  | iconst n => exact am_o_iconst hB hv h hp k
  | bipush n => exact am_o_bipush hB hv h hp k
  | sipush n => exact am_o_sipush hB hv h hp k
  | ldc n => exact am_o_ldc hB hv h hp k
  | ldc_w n => exact am_o_ldc_w hB hv h hp k
  | lconst n => exact am_o_lconst hB hv h hp k
  | ldc2_w n => exact am_o_ldc2 hB hv h hp k
  | iload n => exact am_o_iload hB hv h hp k
  | iload_n n => exact am_o_iload_n hB hv h hp k
  | lload n => exact am_o_lload hB hv h hp k
  | lload_n n => exact am_o_lload_n hB hv h hp k
  | aload n => exact am_o_aload hB hv h hp k
  | aload_n n => exact am_o_aload_n hB hv h hp k
  | istore n => exact am_o_istore hB hv h hp k
  | istore_n n => exact am_o_istore_n hB hv h hp k
  | lstore n => exact am_o_lstore hB hv h hp k
  | lstore_n n => exact am_o_lstore_n hB hv h hp k
  | iinc n j => exact am_o_iinc hB hv h hp k
  | iadd  => exact am_o_iadd hB hv h hp k
  | isub  => exact am_o_isub hB hv h hp k
  | imul  => exact am_o_imul hB hv h hp k
  | idiv  => exact am_o_idiv hB hv h hp k
  | irem  => exact am_o_irem hB hv h hp k
  | ineg  => exact am_o_ineg hB hv h hp k
  | iand  => exact am_o_iand hB hv h hp k
  | ior  => exact am_o_ior hB hv h hp k
  | ishl  => exact am_o_ishl hB hv h hp k
  | ishr  => exact am_o_ishr hB hv h hp k
  | iushr  => exact am_o_iushr hB hv h hp k
  | ladd  => exact am_o_ladd hB hv h hp k
  | lsub  => exact am_o_lsub hB hv h hp k
  | i2l  => exact am_o_i2l hB hv h hp k
  | l2i  => exact am_o_l2i hB hv h hp k
  | dup  => exact am_o_dup hB hv h hp k
  | dup2  => exact am_o_dup2 hB hv h hp k
  | goto n => exact am_o_goto hB hv h hp k
  | getfield n => exact am_o_getfield hB hv h hp k
  | putfield n => exact am_o_putfield hB hv h hp k
  | iaload  => exact am_o_iaload hB hv h hp k
  | laload  => exact am_o_laload hB hv h hp k
  | baload  => exact am_o_baload hB hv h hp k
  | aaload  => exact am_o_aaload hB hv h hp k
  | iastore  => exact am_o_iastore hB hv h hp k
  | bastore  => exact am_o_bastore hB hv h hp k
  | lastore  => exact am_o_lastore hB hv h hp k
  | arraylength  => exact am_o_arraylength hB hv h hp k
  | _ => simp only [am_ex, reduceCtorEq] at h
theorem am_step_ok (hB : am_B y d p R s m args c D ca tys A H0 cells slots) (h : am_step y pc lv st I = some (P, pc', lv', st', I')) (hp : am_p P) (k : am_w p l e R s m args below meth c D ad ca A H0 cells slots Q y pc' lv' st' I') : am_w p l e R s m args below meth c D ad ca A H0 cells slots Q y pc lv st I := by
  unfold am_step at h
  split at h
  · cases h
  · rename_i q hq
    exact am_ex_ok hB (am_chk_1 hB.2.2.2.2.2.2.2.2 (am_at_mem hq)) h hp k
theorem am_run_ok (hB : am_B y d p R s m args c D ca tys A H0 cells slots) (ss : List Nat) : ∀ (n : Nat) (pc : Nat) (lv : List (Nat × am_v)) (st : List am_v) (I : am_I) (P : Option Prop), am_run n ss y pc lv st I = some (P, pc', lv', st', I') → am_p P → am_w p l e R s m args below meth c D ad ca A H0 cells slots Q y pc' lv' st' I' → am_w p l e R s m args below meth c D ad ca A H0 cells slots Q y pc lv st I := by
  intro n
  induction n with
  | zero =>
    intro pc lv st I P h hp k
    unfold am_run at h
    cases h
    exact k
  | succ n ih =>
    intro pc lv st I P h hp k
    unfold am_run at h
    split at h
    · cases h
      exact k
    · rename_i P1 pc1 lv1 st1 I1 h1
      split at h
      · cases h
        exact am_step_ok hB h1 hp k
      · split at h
        · cases h
        · rename_i Q1 c1 h2
          obtain ⟨pc2, lv2, st2, I2⟩ := c1
          split at h
          · cases h
            exact am_step_ok hB h1 trivial (ih _ _ _ _ _ h2 hp k)
          · split at h
            · cases h
              exact am_step_ok hB h1 hp (ih _ _ _ _ _ h2 trivial k)
            · cases h
              exact am_step_ok hB h1 hp.1 (ih _ _ _ _ _ h2 hp.2 k)
end AMH
end
section
def am_cndK {α : Type} (o : ClassFile.Cond) (x y : Int) (k : Prop → α) : α := match o with
  | .eq => k (x = y)
  | .ne => k (¬ x = y)
  | .lt => k (x < y)
  | .ge => k (y ≤ x)
  | .gt => k (y < x)
  | .le => k (x ≤ y)
theorem am_cndK_eq {α : Type} (o : ClassFile.Cond) (x y : Int) (k : Prop → α) : am_cndK o x y k = k (am_cnd o x y) := by cases o <;> rfl
abbrev am_BR : Type := Option (Prop × Prop × Nat × Nat × List am_v)
def am_brf (y : am_Y) (pc : Nat) (st : List am_v) : am_BR := match am_at y.2.2.2.2.1 pc with
  | some (.ifCond o _, nx, _, tg) => match st with
    | .inl x :: r => am_cndK o x 0 (fun c => some (-2147483648 ≤ x ∧ x < 2147483648, c, tg, nx, r))
    | _ => none
  | some (.if_icmp o _, nx, _, tg) => match st with
    | .inl z :: .inl x :: r => am_cndK o x z (fun c => some ((-2147483648 ≤ x ∧ x < 2147483648) ∧ (-2147483648 ≤ z ∧ z < 2147483648), c, tg, nx, r))
    | _ => none
  | some (.lcmp, nx, _, _) => match st with
    | .inr (.inl z) :: .inr (.inl x) :: r => match am_at y.2.2.2.2.1 nx with
      | some (.ifCond o _, nx2, _, tg) => am_cndK o x z (fun c => some ((-9223372036854775808 ≤ x ∧ x < 9223372036854775808) ∧ (-9223372036854775808 ≤ z ∧ z < 9223372036854775808), c, tg, nx2, r))
      | _ => none
    | _ => none
  | _ => none
theorem am_cmp_lt {x z : Int} (hx : -9223372036854775808 ≤ x ∧ x < 9223372036854775808) (hz : -9223372036854775808 ≤ z ∧ z < 9223372036854775808) : lg_cmp (Int64.ofInt x) (Int64.ofInt z) = Int32.ofInt (if z < x then 1 else if x = z then 0 else -1) := by
  unfold lg_cmp
  have e1 : (Int64.ofInt x > Int64.ofInt z) ↔ z < x := am_lt64 hz hx
  have e2 : (Int64.ofInt x = Int64.ofInt z) ↔ x = z := am_eq64 hx hz
  by_cases h1 : z < x
  · rw [if_pos (e1.mpr h1), if_pos h1]; decide +kernel
  · rw [if_neg (fun q => h1 (e1.mp q)), if_neg h1]
    by_cases h2 : x = z
    · rw [if_pos (e2.mpr h2), if_pos h2]; decide +kernel
    · rw [if_neg (fun q => h2 (e2.mp q)), if_neg h2]; decide +kernel
section AMB
variable {p : Program} {l : Launch} {e : Env} {R : Room} {s : State} {m : MethodId} {args : Array Value} {below : List Frame} {meth : Method} {c : Code} {cells slots : Nat} {Q : State → Prop} {D : va_G} {ad : Nat → Nat} {ca : Nat → ClassId} {tys : List (ClassId × FieldType)} {A : Nat → Prop} {H0 : Heap} {y : am_Y} {d : Nat} {pc nx tg : Nat} {lv : List (Nat × am_v)} {st r : List am_v} {I : am_I} {P C : Prop}
theorem am_if_ok {o : ClassFile.Cond} {off : Int} {x : Int} {H : Heap} {locs : List Loc} {ls : Array Slot} {rest : List Value} (hx : p.tables.exec = Jvm.exec) (hb : c.code = y.2.1) (hd : decode y.2.1 pc = .ok (.ifCond o off, 3)) (ht : (pc : Int) + off = (tg : Int)) (h : -2147483648 ≤ x ∧ x < 2147483648)
    (kt : am_cnd o x 0 → W p l e R s m args below meth c H locs cells slots Q (F0 m tg ls rest)) (kf : ¬ am_cnd o x 0 → W p l e R s m args below meth c H locs cells slots Q (F0 m (pc + 3) ls rest)) : W p l e R s m args below meth c H locs cells slots Q (F0 m pc ls (.int (Int32.ofInt x) :: rest)) := by
  have e0 : (0 : Int32) = Int32.ofInt 0 := by decide +kernel
  have h0 : -2147483648 ≤ (0 : Int) ∧ (0 : Int) < 2147483648 := by omega
  have q1 : (Int32.ofInt x = 0) ↔ x = 0 := by rw [e0]; exact am_eq32 h h0
  have q2 : (Int32.ofInt x < 0) ↔ x < 0 := by rw [e0]; exact am_lt32 h h0
  have q3 : (0 ≤ Int32.ofInt x) ↔ 0 ≤ x := by rw [e0]; exact am_le32 h0 h
  have q4 : (0 < Int32.ofInt x) ↔ 0 < x := by rw [e0]; exact am_lt32 h0 h
  have q5 : (Int32.ofInt x ≤ 0) ↔ x ≤ 0 := by rw [e0]; exact am_le32 h h0
  cases o with
  | eq => exact lv_if_eq hx hb hd ht (fun z => kt (q1.mp z)) (fun z => kf (fun w => z (q1.mpr w)))
  | ne => exact lv_if_ne hx hb hd ht (fun z => kt (fun w => z (q1.mpr w))) (fun z => kf (fun w => w (q1.mp z)))
  | lt => exact lv_if_lt hx hb hd ht (fun z => kt (q2.mp z)) (fun z => kf (fun w => z (q2.mpr w)))
  | ge => exact lv_if_ge hx hb hd ht (fun z => kt (q3.mp z)) (fun z => kf (fun w => z (q3.mpr w)))
  | gt => exact lv_if_gt hx hb hd ht (fun z => kt (q4.mp z)) (fun z => kf (fun w => z (q4.mpr w)))
  | le => exact lv_if_le hx hb hd ht (fun z => kt (q5.mp z)) (fun z => kf (fun w => z (q5.mpr w)))
theorem am_icmp_ok {o : ClassFile.Cond} {off : Int} {x z : Int} {H : Heap} {locs : List Loc} {ls : Array Slot} {rest : List Value} (hx : p.tables.exec = Jvm.exec) (hb : c.code = y.2.1) (hd : decode y.2.1 pc = .ok (.if_icmp o off, 3)) (ht : (pc : Int) + off = (tg : Int)) (h : -2147483648 ≤ x ∧ x < 2147483648) (h0 : -2147483648 ≤ z ∧ z < 2147483648)
    (kt : am_cnd o x z → W p l e R s m args below meth c H locs cells slots Q (F0 m tg ls rest)) (kf : ¬ am_cnd o x z → W p l e R s m args below meth c H locs cells slots Q (F0 m (pc + 3) ls rest)) : W p l e R s m args below meth c H locs cells slots Q (F0 m pc ls (.int (Int32.ofInt z) :: .int (Int32.ofInt x) :: rest)) := by
  have q1 : (Int32.ofInt x = Int32.ofInt z) ↔ x = z := am_eq32 h h0
  have q2 : (Int32.ofInt x < Int32.ofInt z) ↔ x < z := am_lt32 h h0
  have q3 : (Int32.ofInt z ≤ Int32.ofInt x) ↔ z ≤ x := am_le32 h0 h
  have q4 : (Int32.ofInt z < Int32.ofInt x) ↔ z < x := am_lt32 h0 h
  have q5 : (Int32.ofInt x ≤ Int32.ofInt z) ↔ x ≤ z := am_le32 h h0
  cases o with
  | eq => exact lv_icmp_eq hx hb hd ht (fun z => kt (q1.mp z)) (fun z => kf (fun w => z (q1.mpr w)))
  | ne => exact lv_icmp_ne hx hb hd ht (fun z => kt (fun w => z (q1.mpr w))) (fun z => kf (fun w => w (q1.mp z)))
  | lt => exact lv_icmp_lt hx hb hd ht (fun z => kt (q2.mp z)) (fun z => kf (fun w => z (q2.mpr w)))
  | ge => exact lv_icmp_ge hx hb hd ht (fun z => kt (q3.mp z)) (fun z => kf (fun w => z (q3.mpr w)))
  | gt => exact lv_icmp_gt hx hb hd ht (fun z => kt (q4.mp z)) (fun z => kf (fun w => z (q4.mpr w)))
  | le => exact lv_icmp_le hx hb hd ht (fun z => kt (q5.mp z)) (fun z => kf (fun w => z (q5.mpr w)))
theorem am_sg {o : ClassFile.Cond} {x z : Int} : am_cnd o (if z < x then 1 else if x = z then 0 else -1) 0 ↔ am_cnd o x z := by
  by_cases h1 : z < x
  · rw [if_pos h1]; cases o <;> simp only [am_cnd] <;> omega
  · rw [if_neg h1]
    by_cases h2 : x = z
    · rw [if_pos h2]; subst h2; cases o <;> simp [am_cnd]
    · rw [if_neg h2]; cases o <;> simp only [am_cnd] <;> omega
theorem am_br_w (hB : am_B y d p R s m args c D ca tys A H0 cells slots) (h : am_brf y pc st = some (P, C, tg, nx, r)) (hp : P) (kt : C → am_w p l e R s m args below meth c D ad ca A H0 cells slots Q y tg lv r I) (kf : ¬ C → am_w p l e R s m args below meth c D ad ca A H0 cells slots Q y nx lv r I) : am_w p l e R s m args below meth c D ad ca A H0 cells slots Q y pc lv st I := by
  obtain ⟨⟨hx, hb, hml, hown⟩, hts, hN, hK, hT, hA, hR, hC, hk⟩ := hB
  unfold am_brf at h
  split at h
  · rename_i o off nx1 ax1 tg1 hat
    obtain ⟨hd, hn, hw⟩ := am_v1_sp rfl (am_chk_1 hk (am_at_mem hat))
    simp only [am_vx, decide_eq_true_eq] at hw
    split at h
    · rename_i x r1
      rw [am_cndK_eq] at h
      cases h
      subst hn
      intro H locs ls hP hD hS hl
      exact am_if_ok hx hb hd hw hp (fun z => kt z H locs ls hP hD hS hl) (fun z => kf z H locs ls hP hD hS hl)
    · cases h
  · rename_i o off nx1 ax1 tg1 hat
    obtain ⟨hd, hn, hw⟩ := am_v1_sp rfl (am_chk_1 hk (am_at_mem hat))
    simp only [am_vx, decide_eq_true_eq] at hw
    split at h
    · rename_i z x r1
      rw [am_cndK_eq] at h
      cases h
      subst hn
      intro H locs ls hP hD hS hl
      exact am_icmp_ok hx hb hd hw hp.1 hp.2 (fun z => kt z H locs ls hP hD hS hl) (fun z => kf z H locs ls hP hD hS hl)
    · cases h
  · rename_i nx1 ax1 tg1 hat
    obtain ⟨hd, hn, hw⟩ := am_v1_sp rfl (am_chk_1 hk (am_at_mem hat))
    split at h
    · rename_i z x r1
      split at h
      · rename_i o off nx2 ax2 tg2 hat2
        obtain ⟨hd2, hn2, hw2⟩ := am_v1_sp rfl (am_chk_1 hk (am_at_mem hat2))
        simp only [am_vx, decide_eq_true_eq] at hw2
        rw [am_cndK_eq] at h
        cases h
        subst hn2
        intro H locs ls hP hD hS hl
        refine W.lcmp hx hb hd ?_
        rw [am_cmp_lt hp.1 hp.2]
        have e1 : nx1 = pc + 1 := hn
        rw [← e1]
        refine am_if_ok hx hb hd2 hw2 ?_ (fun z => kt (am_sg.mp z) H locs ls hP hD hS hl) (fun z => kf (fun w => z (am_sg.mpr w)) H locs ls hP hD hS hl)
        split
        · omega
        · split <;> omega
      · cases h
    · cases h
  · cases h
end AMB
def am_Qc (D : va_G) (ad : Nat → Nat) (ca : Nat → ClassId) (tys : List (ClassId × FieldType)) (Po : Option am_v → am_I → Prop) (ws : va_W) (sz : Nat) : Array Value → State → Outcome → State → Prop := fun _ st oc t => (∃ (r : Option am_v) (I' : am_I), oc = .returned (r.map (am_c ad)) ∧ Po r I' ∧ va_P D es_cl (am_W ad ca I') t.heap ∧ va_K D es_cl tys t ∧ va_D (va_A ws sz) (am_W ad ca I')) ∧ va_F (va_A ws sz) st t
def am_ws (y : am_Y) : List Jvm.Cond := .code y.1 y.2.1 y.2.2.1 y.2.2.2.1 :: es_gt
def am_rm (d : Nat) : Room := { frames := d, cells := 0, slots := 0, locals := 37 * d }
def am_Pc (D : va_G) (ad : Nat → Nat) (ca : Nat → ClassId) (tys : List (ClassId × FieldType)) (as : List am_v) (I : am_I) (sz : Nat) : Array Value → State → Prop := va_Pc (as.map (am_c ad)) (fun U => U.heap.size = sz ∧ va_P D es_cl (am_W ad ca I) U.heap ∧ va_K D es_cl tys U ∧ es_N U ∧ va_D (fun _ => True) (am_W ad ca I))
def am_C (d : Nat) (y : am_Y) (as : List am_v) (I : am_I) (Po : Option am_v → am_I → Prop) : Prop := ∀ (l : Launch) (D : va_G) (ad : Nat → Nat) (ca : Nat → ClassId) (tys : List (ClassId × FieldType)) (sz : Nat), am_T ca tys → Met l y.1 (am_ws y) (am_rm d) (am_Pc D ad ca tys as I sz) (am_Qc D ad ca tys Po (am_W ad ca I) sz) 0 0 (va_A (am_W ad ca I) sz)
def am_EM (d : Nat) (y : am_Y) (Po : Option am_v → am_I → Prop) (I0 : am_I) (p : Program) (R : Room) (s : State) (m : MethodId) (args : Array Value) (below : List Frame) (meth : Method) (c : Code) (D : va_G) (ad : Nat → Nat) (ca : Nat → ClassId) (tys : List (ClassId × FieldType)) (A : Nat → Prop) (H0 : Heap) (Q : State → Prop) : Prop :=
  am_B y d p R s m args c D ca tys A H0 0 0 ∧ H0 = s.heap ∧ A = va_A (am_W ad ca I0) s.heap.size ∧ meth.sig.returnType = y.2.2.2.1 ∧ meth.locks = false ∧ Q = MQ below (am_Qc D ad ca tys Po (am_W ad ca I0) s.heap.size) args s 0 0 (va_A (am_W ad ca I0) s.heap.size)
def am_V (d : Nat) (y : am_Y) (Po : Option am_v → am_I → Prop) (pc : Nat) (lv : List (Nat × am_v)) (st : List am_v) (I : am_I) : Prop :=
  ∀ (I0 : am_I) (p : Program) (l : Launch) (e : Env) (R : Room) (s : State) (m : MethodId) (args : Array Value) (below : List Frame) (meth : Method) (c : Code) (D : va_G) (ad : Nat → Nat) (ca : Nat → ClassId) (tys : List (ClassId × FieldType)) (A : Nat → Prop) (H0 : Heap) (Q : State → Prop), am_EM d y Po I0 p R s m args below meth c D ad ca tys A H0 Q → am_w p l e R s m args below meth c D ad ca A H0 0 0 Q y pc lv st I
theorem am_go {d : Nat} {y : am_Y} {Po : Option am_v → am_I → Prop} {pc pc' : Nat} {lv lv' : List (Nat × am_v)} {st st' : List am_v} {I I' : am_I} {P : Option Prop} (n : Nat) (ss : List Nat) (h : am_run n ss y pc lv st I = some (P, pc', lv', st', I')) (hp : am_p P) (k : am_V d y Po pc' lv' st' I') : am_V d y Po pc lv st I := by
  intro I0 p l e R s m args below meth c D ad ca tys A H0 Q hE
  exact am_run_ok hE.1 ss n pc lv st I P h hp (k I0 p l e R s m args below meth c D ad ca tys A H0 Q hE)
theorem am_br {d : Nat} {y : am_Y} {Po : Option am_v → am_I → Prop} {pc tg nx : Nat} {lv : List (Nat × am_v)} {st r : List am_v} {I : am_I} {P C : Prop} (h : am_brf y pc st = some (P, C, tg, nx, r)) (hp : P) (kt : C → am_V d y Po tg lv r I) (kf : ¬ C → am_V d y Po nx lv r I) : am_V d y Po pc lv st I := by
  intro I0 p l e R s m args below meth c D ad ca tys A H0 Q hE
  exact am_br_w hE.1 h hp (fun z => kt z I0 p l e R s m args below meth c D ad ca tys A H0 Q hE) (fun z => kf z I0 p l e R s m args below meth c D ad ca tys A H0 Q hE)
theorem am_weak {d : Nat} {y : am_Y} {Po : Option am_v → am_I → Prop} {pc : Nat} {lv lv' : List (Nat × am_v)} {st : List am_v} {I : am_I} (h : ∀ q ∈ lv', q ∈ lv) (k : am_V d y Po pc lv' st I) : am_V d y Po pc lv st I := by
  intro I0 p l e R s m args below meth c D ad ca tys A H0 Q hE H locs ls hP hD hS hl
  refine k I0 p l e R s m args below meth c D ad ca tys A H0 Q hE H locs ls hP hD hS ⟨hl.1, hl.2.1, fun q hq => hl.2.2 q ?_⟩
  obtain ⟨z, hz, rfl⟩ := List.mem_map.mp hq
  exact List.mem_map.mpr ⟨z, h z hz, rfl⟩
def am_rtf (y : am_Y) (pc : Nat) (st : List am_v) : Option (Option Prop × Option am_v) := match am_at y.2.2.2.2.1 pc with
  | some (.ireturn, _, _, _) => match st with
    | [.inl x] => match y.2.2.2.1 with
      | some .int => some (none, some (.inl x))
      | some .boolean => some (some (x = 0 ∨ x = 1), some (.inl x))
      | _ => none
    | _ => none
  | some (.lreturn, _, _, _) => match st with
    | [.inr (.inl x)] => match y.2.2.2.1 with
      | some .long => some (none, some (.inr (.inl x)))
      | _ => none
    | _ => none
  | some (.return_, _, _, _) => match st with
    | [] => match y.2.2.2.1 with
      | none => some (none, none)
      | _ => none
    | _ => none
  | _ => none
theorem am_rt {d : Nat} {y : am_Y} {Po : Option am_v → am_I → Prop} {pc : Nat} {lv : List (Nat × am_v)} {st : List am_v} {I : am_I} {P : Option Prop} {r : Option am_v} (h : am_rtf y pc st = some (P, r)) (hp : am_p P) (k : Po r I) : am_V d y Po pc lv st I := by
  intro I0 p l e R s m args below meth c D ad ca tys A H0 Q hE H locs ls hP hD hS hl
  obtain ⟨⟨⟨hx, hb, hml, hown⟩, hts, hN, hK, hT, hA, hR, hC, hk⟩, rfl, rfl, hr, hlocks, rfl⟩ := hE
  have fin : ∀ t : State, t.heap = H → s.WarmedH t.vm → am_Qc D ad ca tys Po (am_W ad ca I0) s.heap.size args s (.returned (r.map (am_c ad))) t := fun t ht hW => ⟨⟨r, I, rfl, k, by rw [ht]; exact hP, va_K.moved hW.alike hK, hD⟩, hS.F ht⟩
  unfold am_rtf at h
  split at h
  · rename_i nx1 ax1 tg1 hat
    obtain ⟨hd, hn, hw⟩ := am_v1_sp rfl (am_chk_1 hk (am_at_mem hat))
    split at h
    · rename_i x
      split at h
      · rename_i hy
        cases h
        rw [hy] at hr
        exact W.iret hx hb hr fin hS.2.2 hd hlocks
      · rename_i hy
        cases h
        rw [hy] at hr
        exact W.zret hx hb hr (by rcases (show x = 0 ∨ x = 1 from hp) with rfl | rfl <;> decide +kernel) fin hS.2.2 hd hlocks
      · cases h
    · cases h
  · rename_i nx1 ax1 tg1 hat
    obtain ⟨hd, hn, hw⟩ := am_v1_sp rfl (am_chk_1 hk (am_at_mem hat))
    split at h
    · rename_i x
      split at h
      · rename_i hy
        cases h
        rw [hy] at hr
        exact W.lret hx hb hr fin hS.2.2 hd hlocks
      · cases h
    · cases h
  · rename_i nx1 ax1 tg1 hat
    obtain ⟨hd, hn, hw⟩ := am_v1_sp rfl (am_chk_1 hk (am_at_mem hat))
    split at h
    · split at h
      · rename_i hy
        cases h
        rw [hy] at hr
        exact W.vret hx hb hr fin hS.2.2 hd hlocks
      · cases h
    · cases h
  · cases h
def am_args : Nat → List am_v → List (Nat × am_v)
  | _, [] => []
  | i, v :: vs => match am_wide v with
    | true => (i, v) :: am_args (i + 2) vs
    | false => (i, v) :: am_args (i + 1) vs
theorem am_args_eq (ad : Nat → Nat) : ∀ (as : List am_v) (i : Nat), am_cl ad (am_args i as) = lv_args i (as.map (am_c ad))
  | [], i => rfl
  | v :: vs, i => by
    simp only [am_args, List.map_cons, lv_args, am_wide_cat]
    cases hw : am_wide v with
    | true => simp only [if_true]; rw [← am_args_eq ad vs (i + 2)]; rfl
    | false =>
      have e : ¬ ((if false = true then 2 else 1) = 2) := by decide
      simp only [e, if_false]
      rw [← am_args_eq ad vs (i + 1)]; rfl
def am_sz : List am_v → Nat
  | [] => 0
  | v :: vs => match am_wide v with
    | true => am_sz vs + 2
    | false => am_sz vs + 1
theorem am_sz_eq (ad : Nat → Nat) : ∀ (as : List am_v), (lg_sl (as.map (am_c ad))).length = am_sz as
  | [] => rfl
  | v :: vs => by
    have ih := am_sz_eq ad vs
    unfold lg_sl at ih ⊢
    rw [List.map_cons, List.flatMap_cons, List.length_append, ih]
    rcases v with x | x | x <;> simp [am_sz, am_wide, am_c, Value.category] <;> omega
def am_yok (y : am_Y) : Bool := am_chk y && (plainName y.1.cls && (decide (y.2.2.1 ≤ 18) && am_wd (.code y.1 y.2.1 y.2.2.1 y.2.2.2.1)))
theorem am_enter {d : Nat} {y : am_Y} {as : List am_v} {I : am_I} {Po : Option am_v → am_I → Prop} (hy : am_yok y = true) (hz : Nat.ble (am_sz as) y.2.2.1 = true) (h : am_V d y Po 0 (am_args 0 as) [] I) : am_C d y as I Po := by
  simp only [am_yok, Bool.and_eq_true] at hy
  intro l D ad ca tys sz hT
  refine Met.ofW (cc := y.2.1) (maxL := y.2.2.1) (ret := y.2.2.2.1) hy.2.1 rfl ?_
  intro p e s m args below meth c s₁ B hml hv
  obtain ⟨rfl, hsz, hP, hK, hN, hD⟩ := hv
  subst hsz
  have hts := atoms_spec (ws := am_ws y) B.pre
  have hl := lv_entry (as.map (am_c ad)) (n := y.2.2.1) (by rw [am_sz_eq]; exact Nat.le_of_ble_eq_true hz)
  rw [lg_entry_eq]
  refine h I p l e _ s m _ below meth c D ad ca tys (va_A (am_W ad ca I) s.heap.size) s.heap _ ⟨⟨⟨B.exec, B.bytes, hml, findClass_of_methodNamed B.named⟩, fun w hw => hts w (List.mem_cons_of_mem _ hw), hN, hK, hT, fun q h => Or.inr h, ⟨Nat.le_refl _, Nat.le_refl _⟩, ⟨Nat.zero_le _, Nat.zero_le _⟩, hy.1⟩, rfl, rfl, B.returns, B.notSynchronized, rfl⟩ s.heap [] _ hP hD.self va_S.rf ?_
  rw [am_args_eq]
  exact hl
end
section
def am_wx (w : Jvm.Cond) : Bool := decide (w ∈ es_tbl) && goodWord w
theorem am_wx_in {w : Jvm.Cond} (h : am_wx w = true) : w ∈ es_gt := by
  simp only [am_wx, Bool.and_eq_true, decide_eq_true_eq] at h
  exact es_gt_in h.1 h.2
def am_np (dsc : String) : Option Nat := (parseMethodDescriptor dsc).map (fun d => d.parameters.length)
def am_nmh (c : String) : Bool := decide (c ≠ "java/lang/invoke/MethodHandle" ∧ c ≠ "java/lang/invoke/VarHandle")
def am_lkV (own : String) (n : Nat) (C : String) (x : MethodName) (k : Nat) : Bool := am_wx (.methodLink own n x) && (am_wx (.instanceMethod x) && (am_wx (.selects C x x) && (am_wx (.initialized x.cls) && (am_nmh x.cls && decide (am_np x.desc = some k)))))
def am_lkS (own : String) (n : Nat) (x : MethodName) (k : Nat) : Bool := am_wx (.methodLink own n x) && (am_wx (.static x) && (am_wx (.initialized x.cls) && (am_nmh x.cls && decide (am_np x.desc = some k))))
def am_lkN (own : String) (n : Nat) (x : MethodName) (host : String) (k : Nat) : Bool := decide (Jvm.Cond.methodLinkNest own n x host ∈ lw_tbl) && (am_wx (.static x) && (am_wx (.initialized x.cls) && (am_nmh x.cls && decide (am_np x.desc = some k))))
def am_lkU (own : String) (n : Nat) (C owner : String) (x y : MethodName) (k : Nat) : Bool := am_wx (.methodLink own n x) && (am_wx (.sameMethod x.cls owner x.name x.desc) && (decide (Jvm.Cond.declares ⟨owner, x.name, x.desc⟩ ∈ lw_tbl) && (am_wx (.selects C x y) && (am_wx (.instanceMethod y) && (am_wx (.initialized y.cls) && (am_nmh owner && decide (am_np x.desc = some k)))))))
def am_cn (b : Nat) : Option String := match am_nth ES b with
  | some (.inl o) => match am_nth es_cl o.1 with
    | some q => some q.1
    | none => none
  | _ => none
theorem am_cn_sp {b : Nat} {C : String} (h : am_cn b = some C) : ∃ (o : Nat × List (Bool ⊕ Nat)) (q : vw_C), am_nth ES b = some (.inl o) ∧ es_cl[o.1]? = some q ∧ q.1 = C := by
  unfold am_cn at h
  split at h
  · rename_i o ho
    split at h
    · rename_i q hq
      cases h
      exact ⟨o, q, ho, by rw [← am_nth_eq]; exact hq, rfl⟩
    · cases h
  · cases h
def am_cut : Nat → List am_v → List am_v → Option (List am_v × List am_v)
  | 0, acc, st => some (acc, st)
  | _ + 1, _, [] => none
  | k + 1, acc, v :: st => am_cut k (v :: acc) st
theorem am_cut_sp : ∀ {k : Nat} {acc st as rest : List am_v}, am_cut k acc st = some (as, rest) → as.reverse ++ rest = acc.reverse ++ st ∧ as.length = acc.length + k
  | 0, acc, st, as, rest, h => by
    unfold am_cut at h
    cases h
    exact ⟨rfl, rfl⟩
  | k + 1, acc, [], as, rest, h => by
    unfold am_cut at h
    cases h
  | k + 1, acc, v :: st, as, rest, h => by
    unfold am_cut at h
    obtain ⟨h1, h2⟩ := am_cut_sp h
    refine ⟨?_, ?_⟩
    · rw [h1, List.reverse_cons, List.append_assoc]; rfl
    · rw [h2, List.length_cons]; omega
theorem am_sz_cat (ad : Nat → Nat) : ∀ (as : List am_v), ((as.map (am_c ad)).map fun v => v.category).sum = am_sz as
  | [] => rfl
  | v :: vs => by
    have ih := am_sz_cat ad vs
    rw [List.map_cons, List.map_cons, List.sum_cons, ih]
    rcases v with x | x | x <;> simp [am_sz, am_wide, am_c, Value.category] <;> omega
theorem am_Pc_blind {D : va_G} {ad : Nat → Nat} {ca : Nat → ClassId} {tys : List (ClassId × FieldType)} {as : List am_v} {I : am_I} {sz : Nat} : FrameBlind (am_Pc D ad ca tys as I sz) := by
  intro a U g mk q
  obtain ⟨q0, q1, qP, qK, qN, qD⟩ := q
  exact ⟨q0, q1, qP, va_K.moved (u := U) (U := U.calling g mk a) (Vm.Alike.refl U.vm) qK, es_N.same (u := U) (U := U.calling g mk a) rfl qN, qD⟩
theorem am_hws {args : Array Value} {s : State} {y' : am_Y} (hts : ∀ w ∈ es_gt, w.before args s = true) (hy : am_yok y' = true) : (∀ w ∈ am_ws y', ∀ (a' : Array Value) (U : State), s.WarmedH U.vm → w.before a' U = true) ∧ (Jvm.Cond.code y'.1 y'.2.1 y'.2.2.1 y'.2.2.2.1).before args s = true ∧ y'.2.2.1 ≤ 18 := by
  simp only [am_yok, Bool.and_eq_true, decide_eq_true_eq] at hy
  have hc : Jvm.Cond.code y'.1 y'.2.1 y'.2.2.1 y'.2.2.2.1 ∈ es_gt := am_wd_in hy.2.2.2
  refine ⟨fun w hw a' U hW => ?_, hts _ hc, hy.2.2.1⟩
  rcases List.mem_cons.mp hw with rfl | hw
  · exact word_at hW (es_gt_good _ hc) (hts _ hc)
  · exact word_at hW (es_gt_good _ hw) (hts _ hw)
section AMC
variable {p : Program} {l : Launch} {e : Env} {R : Room} {s : State} {m : MethodId} {args : Array Value} {below : List Frame} {meth : Method} {c : Code} {cells slots : Nat} {Q : State → Prop} {D : va_G} {ad : Nat → Nat} {ca : Nat → ClassId} {tys : List (ClassId × FieldType)} {A : Nat → Prop} {H0 : Heap} {y y' : am_Y} {d : Nat} {pc nx tg n k : Nat} {ax : Int} {lv : List (Nat × am_v)} {st as rest : List am_v} {I : am_I} {Po' : Option am_v → am_I → Prop} {H : Heap} {locs : List Loc} {ls : Array Slot}
theorem am_post {a : Array Value} {st0 : List Value} {rs : List Value} {sz : Nat} {free : Addr → Prop} {ws : va_W} (hr : va_Run p l e R s m args below meth c H locs cells slots 0 0 (F0 m pc ls st0) rs (am_Qc D ad ca tys Po' ws sz a) free) (hS : va_S A H0 H locs) (hA : ∀ q, q < H.size → va_A ws sz q → A q) (hf : ∀ q, free q → A q) (hw : ∀ q, va_A ws sz q → A q)
    (kk : ∀ (r : Option am_v) (I' : am_I) (H1 : Heap) (locs1 : List Loc), Po' r I' → va_P D es_cl (am_W ad ca I') H1 → va_D A (am_W ad ca I') → va_S A H0 H1 locs1 → W p l e R s m args below meth c H1 locs1 cells slots Q (F0 m (pc + 3) ls ((r.map (am_c ad)).toList ++ rs))) : W p l e R s m args below meth c H locs cells slots Q (F0 m pc ls st0) := by
  intro T hT X
  obtain ⟨v, st₀, t, T', L, h0, X', hL, e1, e2, ⟨⟨r, I', hv, hp, hb1, hb2, hb3⟩, hz, hk⟩, st⟩ := hr T hT X
  cases hv
  rw [h0] at hz hk
  obtain ⟨t2, a1, b1⟩ := kk r I' T'.heap (locs ++ L) hp (by rw [e1]; exact hb1) (hb3.weaken (fun _ q _ h => hw q.1 h))
    ⟨Nat.le_trans hS.1 (by rw [e1]; exact hz), fun q h1 h2 => by rw [e1, hk q (Nat.lt_of_lt_of_le h1 hS.1) (fun z => h2 (hA q (Nat.lt_of_lt_of_le h1 hS.1) z))]; exact hS.2.1 q h1 h2, fun q hq => by
      rcases List.mem_append.mp hq with h | h
      · exact hS.2.2 q h
      · exact hf _ (hL q h)⟩ T' rfl X'
  exact ⟨t2, st t2 a1, b1⟩
theorem am_frees (hA : ∀ q, H0.size ≤ q → A q) (hD : va_D A (am_W ad ca I)) (hS : va_S A H0 H locs) : ∀ q, va_A (am_W ad ca I) H.size q → A q := by
  intro q hq
  rcases hq with ⟨k, e, h⟩ | h
  · exact hD.2 k (q, e) h
  · exact hA q (Nat.le_trans hS.1 h)
theorem am_toL1 (r : Option am_v) (rs : List am_v) : (r.map (am_c ad)).toList ++ rs.map (am_c ad) = (r.toList ++ rs).map (am_c ad) := by
  cases r <;> simp
theorem am_stk {b : Nat} (h : am_cut (k + 1) [] st = some (.inr (.inr b) :: as, rest)) : st.map (am_c ad) = (as.map (am_c ad)).reverse ++ .ref (ad b) :: rest.map (am_c ad) ∧ as.length = k := by
  obtain ⟨h1, h2⟩ := am_cut_sp h
  refine ⟨?_, by simpa using h2⟩
  have h1 : st = (.inr (.inr b) :: as).reverse ++ rest := by rw [h1]; rfl
  rw [h1]
  simp [am_c]
theorem am_stkS (h : am_cut k [] st = some (as, rest)) : st.map (am_c ad) = (as.map (am_c ad)).reverse ++ rest.map (am_c ad) ∧ as.length = k := by
  obtain ⟨h1, h2⟩ := am_cut_sp h
  refine ⟨?_, by simpa using h2⟩
  have h1 : st = as.reverse ++ rest := by rw [h1]; rfl
  rw [h1]
  simp
theorem am_cV_w {b : Nat} {C : String} (hB : am_B y (d + 1) p R s m args c D ca tys A H0 cells slots) (hat : am_at y.2.2.2.2.1 pc = some (.invokevirtual n, nx, ax, tg)) (hlk : am_lkV y.1.cls n C y'.1 k = true) (hy : am_yok y' = true) (hcut : am_cut (k + 1) [] st = some (.inr (.inr b) :: as, rest)) (hrm : Nat.ble (am_sz rest) 8 = true) (hcn : am_cn b = some C) (hc : am_C d y' (.inr (.inr b) :: as) I Po')
    (kk : ∀ r I', Po' r I' → am_w p l e R s m args below meth c D ad ca A H0 cells slots Q y nx lv (r.toList ++ rest) I') : am_w p l e R s m args below meth c D ad ca A H0 cells slots Q y pc lv st I := by
  obtain ⟨⟨hx, hb, hml, hown⟩, hts, hN, hK, hT, hA, hR, hC, hk⟩ := hB
  obtain ⟨hd, hn, -⟩ := am_v1_sp rfl (am_chk_1 hk (am_at_mem hat))
  obtain ⟨o, q0, ho, hq0, rfl⟩ := am_cn_sp hcn
  obtain ⟨hws, hcode, hml'⟩ := am_hws hts hy
  obtain ⟨hst, hlen⟩ := am_stk (ad := ad) hcut
  simp only [am_lkV, Bool.and_eq_true] at hlk
  obtain ⟨w1, w2, w3, w4, w5, w6⟩ := hlk
  intro H locs ls hP hD hS hl
  rw [hst]
  have run := va_runV (As := as.map (am_c ad)) (rest := rest.map (am_c ad)) (b := ad b) (g := F0 m pc ls ((as.map (am_c ad)).reverse ++ .ref (ad b) :: rest.map (am_c ad))) (n := k) (below := below) (meth := meth) (e := e) (locs := locs) (cells := cells) (slots := slots) ⟨hx, hb, hml, hown, hts⟩ (hc l D ad ca tys H.size hT)
    (⟨⟨rfl, rfl, by show d + 1 ≤ R.frames; exact hR.1, by show 8 + (y'.2.2.1 + 11) + 37 * d ≤ R.locals; omega, hws, List.mem_cons_self, hcode, hts _ (am_wx_in w4), of_decide_eq_true w5, fun sig h => by
      have h2 := of_decide_eq_true w6
      unfold am_np at h2
      rw [h] at h2
      exact (Option.some.inj h2).symm, hts _ (am_wx_in w1)⟩, hts _ (am_wx_in w2), hts _ (am_wx_in w3)⟩ : CallW R s args y.1.cls q0.1 n y'.1 y'.2.1 y'.2.2.1 y'.2.2.2.1 (am_ws y') (am_rm d) 0 0 k)
    ⟨am_Pc_blind, va_recv hK hP hq0 (am_W_at I ho), fun U hU hW => ⟨rfl, by rw [hU], by rw [hU]; exact hP, va_K.moved hW.alike hK, es_N.warm hW hN, hD.weaken (fun _ _ _ _ => trivial)⟩⟩
    rfl (by rw [List.length_map]; exact hlen) hl.1 rfl (lv_room (by rw [am_sz_cat]; exact Nat.le_of_ble_eq_true hrm)) hd ⟨hC.1, hC.2⟩
  have hF := am_frees hA hD hS
  refine am_post run hS (fun q _ h => hF q h) hF hF (fun r I' H1 locs1 hp hP1 hD1 hS1 => ?_)
  rw [am_toL1]
  have e3 : nx = pc + 3 := hn
  subst e3
  exact kk r I' hp H1 locs1 ls hP1 hD1 hS1 hl
theorem am_cU_w {b : Nat} {C owner : String} {x : MethodName} (hB : am_B y (d + 1) p R s m args c D ca tys A H0 cells slots) (hat : am_at y.2.2.2.2.1 pc = some (.invokevirtual n, nx, ax, tg)) (hlk : am_lkU y.1.cls n C owner x y'.1 k = true) (hy : am_yok y' = true) (hcut : am_cut (k + 1) [] st = some (.inr (.inr b) :: as, rest)) (hrm : Nat.ble (am_sz rest) 8 = true) (hcn : am_cn b = some C) (hc : am_C d y' (.inr (.inr b) :: as) I Po')
    (kk : ∀ r I', Po' r I' → am_w p l e R s m args below meth c D ad ca A H0 cells slots Q y nx lv (r.toList ++ rest) I') : am_w p l e R s m args below meth c D ad ca A H0 cells slots Q y pc lv st I := by
  obtain ⟨⟨hx, hb, hml, hown⟩, hts, hN, hK, hT, hA, hR, hC, hk⟩ := hB
  obtain ⟨hd, hn, -⟩ := am_v1_sp rfl (am_chk_1 hk (am_at_mem hat))
  obtain ⟨o, q0, ho, hq0, rfl⟩ := am_cn_sp hcn
  obtain ⟨hws, hcode, hml'⟩ := am_hws hts hy
  obtain ⟨hst, hlen⟩ := am_stk (ad := ad) hcut
  simp only [am_lkU, Bool.and_eq_true, decide_eq_true_eq] at hlk
  obtain ⟨w1, w2, w3, w4, w5, w6, w7, w8⟩ := hlk
  intro H locs ls hP hD hS hl
  rw [hst]
  have run := va_runU (As := as.map (am_c ad)) (rest := rest.map (am_c ad)) (b := ad b) (g := F0 m pc ls ((as.map (am_c ad)).reverse ++ .ref (ad b) :: rest.map (am_c ad))) (n := k) (below := below) (meth := meth) (e := e) (locs := locs) (cells := cells) (slots := slots) ⟨hx, hb, hml, hown, hts⟩ (hc l D ad ca tys H.size hT)
    (⟨⟨rfl, rfl, by show d + 1 ≤ R.frames; exact hR.1, by show 8 + (y'.2.2.1 + 11) + 37 * d ≤ R.locals; omega, hws, List.mem_cons_self⟩, hcode, hts _ (am_wx_in w6), of_decide_eq_true w7, fun sig h => by
      have h2 := w8
      unfold am_np at h2
      rw [h] at h2
      exact (Option.some.inj h2).symm, hts _ (am_wx_in w1), hts _ (am_wx_in w2), va_Decl.abs (hN _ w3 rfl), hts _ (am_wx_in w4), hts _ (am_wx_in w5)⟩ : va_CU R s args y.1.cls q0.1 owner n x y'.1 y'.2.1 y'.2.2.1 y'.2.2.2.1 (am_ws y') (am_rm d) 0 0 k)
    ⟨am_Pc_blind, va_recv hK hP hq0 (am_W_at I ho), fun U hU hW => ⟨rfl, by rw [hU], by rw [hU]; exact hP, va_K.moved hW.alike hK, es_N.warm hW hN, hD.weaken (fun _ _ _ _ => trivial)⟩⟩
    rfl (by rw [List.length_map]; exact hlen) hl.1 rfl (lv_room (by rw [am_sz_cat]; exact Nat.le_of_ble_eq_true hrm)) hd ⟨hC.1, hC.2⟩
  have hF := am_frees hA hD hS
  refine am_post run hS (fun q _ h => hF q h) hF hF (fun r I' H1 locs1 hp hP1 hD1 hS1 => ?_)
  rw [am_toL1]
  have e3 : nx = pc + 3 := hn
  subst e3
  exact kk r I' hp H1 locs1 ls hP1 hD1 hS1 hl
theorem am_cS_w (hB : am_B y (d + 1) p R s m args c D ca tys A H0 cells slots) (hat : am_at y.2.2.2.2.1 pc = some (.invokestatic n, nx, ax, tg)) (hlk : am_lkS y.1.cls n y'.1 k = true) (hy : am_yok y' = true) (hcut : am_cut k [] st = some (as, rest)) (hrm : Nat.ble (am_sz rest) 8 = true) (hc : am_C d y' as I Po')
    (kk : ∀ r I', Po' r I' → am_w p l e R s m args below meth c D ad ca A H0 cells slots Q y nx lv (r.toList ++ rest) I') : am_w p l e R s m args below meth c D ad ca A H0 cells slots Q y pc lv st I := by
  obtain ⟨⟨hx, hb, hml, hown⟩, hts, hN, hK, hT, hA, hR, hC, hk⟩ := hB
  obtain ⟨hd, hn, -⟩ := am_v1_sp rfl (am_chk_1 hk (am_at_mem hat))
  obtain ⟨hws, hcode, hml'⟩ := am_hws hts hy
  obtain ⟨hst, hlen⟩ := am_stkS (ad := ad) hcut
  simp only [am_lkS, Bool.and_eq_true, decide_eq_true_eq] at hlk
  obtain ⟨w1, w2, w3, w5, w6⟩ := hlk
  intro H locs ls hP hD hS hl
  rw [hst]
  have run := va_runS (As := as.map (am_c ad)) (rest := rest.map (am_c ad)) (g := F0 m pc ls ((as.map (am_c ad)).reverse ++ rest.map (am_c ad))) (n := k) (below := below) (meth := meth) (e := e) (locs := locs) (cells := cells) (slots := slots) ⟨hx, hb, hml, hown, hts⟩ (hc l D ad ca tys H.size hT)
    (⟨⟨rfl, rfl, by show d + 1 ≤ R.frames; exact hR.1, by show 8 + (y'.2.2.1 + 11) + 37 * d ≤ R.locals; omega, hws, List.mem_cons_self, hcode, hts _ (am_wx_in w3), of_decide_eq_true w5, fun sig h => by
      have h2 := w6
      unfold am_np at h2
      rw [h] at h2
      exact (Option.some.inj h2).symm, hts _ (am_wx_in w1)⟩, hts _ (am_wx_in w2)⟩ : CallB R s args y.1.cls n y'.1 y'.2.1 y'.2.2.1 y'.2.2.2.1 (am_ws y') (am_rm d) 0 0 k ∧ (Jvm.Cond.static y'.1).before args s = true)
    ⟨am_Pc_blind, fun U hU hW => ⟨rfl, by rw [hU], by rw [hU]; exact hP, va_K.moved hW.alike hK, es_N.warm hW hN, hD.weaken (fun _ _ _ _ => trivial)⟩⟩
    rfl (by rw [List.length_map]; exact hlen) hl.1 rfl (lv_room (by rw [am_sz_cat]; exact Nat.le_of_ble_eq_true hrm)) hd ⟨hC.1, hC.2⟩
  have hF := am_frees hA hD hS
  refine am_post run hS (fun q _ h => hF q h) hF hF (fun r I' H1 locs1 hp hP1 hD1 hS1 => ?_)
  rw [am_toL1]
  have e3 : nx = pc + 3 := hn
  subst e3
  exact kk r I' hp H1 locs1 ls hP1 hD1 hS1 hl
theorem am_cN_w {host : String} (hB : am_B y (d + 1) p R s m args c D ca tys A H0 cells slots) (hat : am_at y.2.2.2.2.1 pc = some (.invokestatic n, nx, ax, tg)) (hlk : am_lkN y.1.cls n y'.1 host k = true) (hy : am_yok y' = true) (hcut : am_cut k [] st = some (as, rest)) (hrm : Nat.ble (am_sz rest) 8 = true) (hc : am_C d y' as I Po')
    (kk : ∀ r I', Po' r I' → am_w p l e R s m args below meth c D ad ca A H0 cells slots Q y nx lv (r.toList ++ rest) I') : am_w p l e R s m args below meth c D ad ca A H0 cells slots Q y pc lv st I := by
  obtain ⟨⟨hx, hb, hml, hown⟩, hts, hN, hK, hT, hA, hR, hC, hk⟩ := hB
  obtain ⟨hd, hn, -⟩ := am_v1_sp rfl (am_chk_1 hk (am_at_mem hat))
  obtain ⟨hws, hcode, hml'⟩ := am_hws hts hy
  obtain ⟨hst, hlen⟩ := am_stkS (ad := ad) hcut
  simp only [am_lkN, Bool.and_eq_true, decide_eq_true_eq] at hlk
  obtain ⟨w1, w2, w3, w5, w6⟩ := hlk
  intro H locs ls hP hD hS hl
  rw [hst]
  have run := va_runSN (As := as.map (am_c ad)) (rest := rest.map (am_c ad)) (g := F0 m pc ls ((as.map (am_c ad)).reverse ++ rest.map (am_c ad))) (n := k) (below := below) (meth := meth) (e := e) (locs := locs) (cells := cells) (slots := slots) ⟨hx, hb, hml, hown, hts⟩ (hc l D ad ca tys H.size hT)
    (⟨⟨⟨rfl, rfl, by show d + 1 ≤ R.frames; exact hR.1, by show 8 + (y'.2.2.1 + 11) + 37 * d ≤ R.locals; omega, hws, List.mem_cons_self⟩, hcode, hts _ (am_wx_in w3), of_decide_eq_true w5, fun sig h => by
      have h2 := w6
      unfold am_np at h2
      rw [h] at h2
      exact (Option.some.inj h2).symm, va_Nw.use rfl (hN _ w1 rfl)⟩, hts _ (am_wx_in w2), trivial⟩ : va_CN R s args y.1.cls n y'.1 host y'.2.1 y'.2.2.1 y'.2.2.2.1 (am_ws y') (am_rm d) 0 0 k ∧ (Jvm.Cond.static y'.1).before args s = true ∧ True)
    ⟨am_Pc_blind, fun U hU hW => ⟨rfl, by rw [hU], by rw [hU]; exact hP, va_K.moved hW.alike hK, es_N.warm hW hN, hD.weaken (fun _ _ _ _ => trivial)⟩⟩
    rfl (by rw [List.length_map]; exact hlen) hl.1 rfl (lv_room (by rw [am_sz_cat]; exact Nat.le_of_ble_eq_true hrm)) hd ⟨hC.1, hC.2⟩
  have hF := am_frees hA hD hS
  refine am_post run hS (fun q _ h => hF q h) hF hF (fun r I' H1 locs1 hp hP1 hD1 hS1 => ?_)
  rw [am_toL1]
  have e3 : nx = pc + 3 := hn
  subst e3
  exact kk r I' hp H1 locs1 ls hP1 hD1 hS1 hl
theorem am_sw_w {dflt lo hi : Int} {offs : Array Int} {x : Int} {r : List am_v} {ts : List Nat} {dt : Nat} (hB : am_B y d p R s m args c D ca tys A H0 cells slots) (hat : am_at y.2.2.2.2.1 pc = some (.tableswitch dflt lo hi offs, nx, ax, tg)) (hts : offs.toList = ts.map (fun (t : Nat) => (t : Int) - (pc : Int))) (hdt : dflt = (dt : Int) - (pc : Int)) (hlen : (ts.length : Int) = hi - lo + 1) (hx : -2147483648 ≤ x ∧ x < 2147483648)
    (kk : ∀ (j t : Nat), ts[j]? = some t → x = lo + (j : Int) → am_w p l e R s m args below meth c D ad ca A H0 cells slots Q y t lv r I) (kd : (x < lo ∨ hi < x) → am_w p l e R s m args below meth c D ad ca A H0 cells slots Q y dt lv r I) : am_w p l e R s m args below meth c D ad ca A H0 cells slots Q y pc lv (.inl x :: r) I := by
  obtain ⟨⟨hxx, hb, hml, hown⟩, -, hN, hK, hT, hA, hR, hC, hk⟩ := hB
  have hv := am_chk_1 hk (am_at_mem hat)
  have hd : decode y.2.1 pc = .ok (.tableswitch dflt lo hi offs, nx - pc) := by
    unfold am_v1 at hv
    exact of_decide_eq_true hv
  intro H locs ls hP hD hS hl
  show W p l e R s m args below meth c H locs cells slots Q (F0 m pc ls (.int (Int32.ofInt x) :: r.map (am_c ad)))
  by_cases h : x < lo ∨ hi < x
  · exact lv_tableOut hxx hb hd (by rw [am_toI hx]; exact h) (by rw [hdt]; omega) (kd h H locs ls hP hD hS hl)
  · have h1 : ¬ x < lo := fun q => h (Or.inl q)
    have h2 : ¬ hi < x := fun q => h (Or.inr q)
    have hj : (x - lo).toNat < ts.length := by omega
    have hg : ts[(x - lo).toNat]? = some ts[(x - lo).toNat] := List.getElem?_eq_getElem hj
    refine lv_tableIn (off := (ts[(x - lo).toNat] : Int) - (pc : Int)) (tgt := ts[(x - lo).toNat]) hxx hb hd (by rw [am_toI hx]; exact h1) (by rw [am_toI hx]; exact h2) ?_ (by omega) (kk _ _ hg (by omega) H locs ls hP hD hS hl)
    rw [am_toI hx, ← Array.getElem?_toList, hts, List.getElem?_map, hg]
    rfl
end AMC
section AMD
variable {y y' : am_Y} {d : Nat} {pc nx tg n k : Nat} {ax : Int} {lv : List (Nat × am_v)} {st as rest : List am_v} {I : am_I} {Po Po' : Option am_v → am_I → Prop}
theorem am_cV {b : Nat} {C : String} (hat : am_at y.2.2.2.2.1 pc = some (.invokevirtual n, nx, ax, tg)) (hlk : am_lkV y.1.cls n C y'.1 k = true) (hy : am_yok y' = true) (hcut : am_cut (k + 1) [] st = some (.inr (.inr b) :: as, rest)) (hrm : Nat.ble (am_sz rest) 8 = true) (hcn : am_cn b = some C) (hc : am_C d y' (.inr (.inr b) :: as) I Po')
    (kk : ∀ r I', Po' r I' → am_V (d + 1) y Po nx lv (r.toList ++ rest) I') : am_V (d + 1) y Po pc lv st I :=
  fun I0 p l e R s m args below meth c D ad ca tys A H0 Q hE => am_cV_w hE.1 hat hlk hy hcut hrm hcn hc (fun r I' h => kk r I' h I0 p l e R s m args below meth c D ad ca tys A H0 Q hE)
theorem am_cU {b : Nat} {C owner : String} {x : MethodName} (hat : am_at y.2.2.2.2.1 pc = some (.invokevirtual n, nx, ax, tg)) (hlk : am_lkU y.1.cls n C owner x y'.1 k = true) (hy : am_yok y' = true) (hcut : am_cut (k + 1) [] st = some (.inr (.inr b) :: as, rest)) (hrm : Nat.ble (am_sz rest) 8 = true) (hcn : am_cn b = some C) (hc : am_C d y' (.inr (.inr b) :: as) I Po')
    (kk : ∀ r I', Po' r I' → am_V (d + 1) y Po nx lv (r.toList ++ rest) I') : am_V (d + 1) y Po pc lv st I :=
  fun I0 p l e R s m args below meth c D ad ca tys A H0 Q hE => am_cU_w hE.1 hat hlk hy hcut hrm hcn hc (fun r I' h => kk r I' h I0 p l e R s m args below meth c D ad ca tys A H0 Q hE)
theorem am_cS (hat : am_at y.2.2.2.2.1 pc = some (.invokestatic n, nx, ax, tg)) (hlk : am_lkS y.1.cls n y'.1 k = true) (hy : am_yok y' = true) (hcut : am_cut k [] st = some (as, rest)) (hrm : Nat.ble (am_sz rest) 8 = true) (hc : am_C d y' as I Po')
    (kk : ∀ r I', Po' r I' → am_V (d + 1) y Po nx lv (r.toList ++ rest) I') : am_V (d + 1) y Po pc lv st I :=
  fun I0 p l e R s m args below meth c D ad ca tys A H0 Q hE => am_cS_w hE.1 hat hlk hy hcut hrm hc (fun r I' h => kk r I' h I0 p l e R s m args below meth c D ad ca tys A H0 Q hE)
theorem am_cN {host : String} (hat : am_at y.2.2.2.2.1 pc = some (.invokestatic n, nx, ax, tg)) (hlk : am_lkN y.1.cls n y'.1 host k = true) (hy : am_yok y' = true) (hcut : am_cut k [] st = some (as, rest)) (hrm : Nat.ble (am_sz rest) 8 = true) (hc : am_C d y' as I Po')
    (kk : ∀ r I', Po' r I' → am_V (d + 1) y Po nx lv (r.toList ++ rest) I') : am_V (d + 1) y Po pc lv st I :=
  fun I0 p l e R s m args below meth c D ad ca tys A H0 Q hE => am_cN_w hE.1 hat hlk hy hcut hrm hc (fun r I' h => kk r I' h I0 p l e R s m args below meth c D ad ca tys A H0 Q hE)
theorem am_sw {dflt lo hi : Int} {offs : Array Int} {x : Int} {r : List am_v} (ts : List Nat) (dt : Nat) (hat : am_at y.2.2.2.2.1 pc = some (.tableswitch dflt lo hi offs, nx, ax, tg)) (hts : offs.toList = ts.map (fun (t : Nat) => (t : Int) - (pc : Int))) (hdt : dflt = (dt : Int) - (pc : Int)) (hlen : (ts.length : Int) = hi - lo + 1) (hx : -2147483648 ≤ x ∧ x < 2147483648)
    (kk : ∀ (j t : Nat), ts[j]? = some t → x = lo + (j : Int) → am_V d y Po t lv r I) (kd : (x < lo ∨ hi < x) → am_V d y Po dt lv r I) : am_V d y Po pc lv (.inl x :: r) I :=
  fun I0 p l e R s m args below meth c D ad ca tys A H0 Q hE => am_sw_w hE.1 hat hts hdt hlen hx (fun j t h1 h2 => kk j t h1 h2 I0 p l e R s m args below meth c D ad ca tys A H0 Q hE) (fun h => kd h I0 p l e R s m args below meth c D ad ca tys A H0 Q hE)
theorem am_C_mono {Po2 : Option am_v → am_I → Prop} (h : am_C d y as I Po) (hm : ∀ r I', Po r I' → Po2 r I') : am_C d y as I Po2 := by
  intro l D ad ca tys sz hT
  have h1 := h l D ad ca tys sz hT
  intro p e ha hc hk s m args below hf hap hpre hkk
  obtain ⟨kk, o, a1, a2, a3, ⟨⟨⟨r, I', q1, q2, q3⟩, q4⟩, q5⟩⟩ := h1 p e ha hc hk s m args below hf hap hpre hkk
  exact ⟨kk, o, a1, a2, a3, ⟨⟨⟨r, I', q1, hm r I' q2, q3⟩, q4⟩, q5⟩⟩
end AMD
end
