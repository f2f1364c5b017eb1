-- ===== PART A: goes FIRST, ahead of the names: the tables' words, and 'selects' of the private methods out of them =====
/-- a private method of a class that the tables say can be made, by its rows of tables_1 -/
def lw_okq (q : MethodName × Nat) : Prop := (q.1.cls ≠ "java/lang/invoke/MethodHandle" ∧ q.1.cls ≠ "java/lang/invoke/VarHandle") ∧ Cond.instantiable q.1.cls q.2 ∈ tables_1 ∧ Cond.privateMethod q.1 ∈ tables_1 ∧ Cond.instanceMethod q.1 ∈ tables_1
theorem lw_p0 : lw_okq (⟨"EarSchool$Metre", "fillBar", "(II)V"⟩, 6) := ⟨⟨by decide +kernel, by decide +kernel⟩, List.mem_of_getElem? (i := 132) (by decide +kernel), List.mem_of_getElem? (i := 502) (by decide +kernel), List.mem_of_getElem? (i := 503) (by decide +kernel)⟩
theorem lw_p1 : lw_okq (⟨"EarSchool$Metre", "onward", "(IIII)J"⟩, 6) := ⟨⟨by decide +kernel, by decide +kernel⟩, List.mem_of_getElem? (i := 132) (by decide +kernel), List.mem_of_getElem? (i := 506) (by decide +kernel), List.mem_of_getElem? (i := 507) (by decide +kernel)⟩
theorem lw_p2 : lw_okq (⟨"EarSchool$Metre", "put", "(IIJ)V"⟩, 6) := ⟨⟨by decide +kernel, by decide +kernel⟩, List.mem_of_getElem? (i := 132) (by decide +kernel), List.mem_of_getElem? (i := 512) (by decide +kernel), List.mem_of_getElem? (i := 513) (by decide +kernel)⟩
theorem lw_p3 : lw_okq (⟨"EarSchool$Harmony", "findThrees", "(I)V"⟩, 8) := ⟨⟨by decide +kernel, by decide +kernel⟩, List.mem_of_getElem? (i := 161) (by decide +kernel), List.mem_of_getElem? (i := 555) (by decide +kernel), List.mem_of_getElem? (i := 556) (by decide +kernel)⟩
theorem lw_p4 : lw_okq (⟨"EarSchool$Harmony", "findAbove", "(II)V"⟩, 8) := ⟨⟨by decide +kernel, by decide +kernel⟩, List.mem_of_getElem? (i := 161) (by decide +kernel), List.mem_of_getElem? (i := 560) (by decide +kernel), List.mem_of_getElem? (i := 561) (by decide +kernel)⟩
theorem lw_p5 : lw_okq (⟨"EarSchool$Harmony", "waysBehind", "(II)J"⟩, 8) := ⟨⟨by decide +kernel, by decide +kernel⟩, List.mem_of_getElem? (i := 161) (by decide +kernel), List.mem_of_getElem? (i := 567) (by decide +kernel), List.mem_of_getElem? (i := 568) (by decide +kernel)⟩
theorem lw_p6 : lw_okq (⟨"EarSchool$Harmony", "mayFollow", "(III)Z"⟩, 8) := ⟨⟨by decide +kernel, by decide +kernel⟩, List.mem_of_getElem? (i := 161) (by decide +kernel), List.mem_of_getElem? (i := 571) (by decide +kernel), List.mem_of_getElem? (i := 572) (by decide +kernel)⟩
theorem lw_p7 : lw_okq (⟨"EarSchool$Harmony", "parallel", "(IIIII)Z"⟩, 8) := ⟨⟨by decide +kernel, by decide +kernel⟩, List.mem_of_getElem? (i := 161) (by decide +kernel), List.mem_of_getElem? (i := 581) (by decide +kernel), List.mem_of_getElem? (i := 582) (by decide +kernel)⟩
theorem lw_p8 : lw_okq (⟨"EarSchool$Judgement", "fillBorder", "(II)V"⟩, 10) := ⟨⟨by decide +kernel, by decide +kernel⟩, List.mem_of_getElem? (i := 197) (by decide +kernel), List.mem_of_getElem? (i := 616) (by decide +kernel), List.mem_of_getElem? (i := 617) (by decide +kernel)⟩
theorem lw_p9 : lw_okq (⟨"EarSchool$Judgement", "index", "(III)I"⟩, 10) := ⟨⟨by decide +kernel, by decide +kernel⟩, List.mem_of_getElem? (i := 197) (by decide +kernel), List.mem_of_getElem? (i := 620) (by decide +kernel), List.mem_of_getElem? (i := 621) (by decide +kernel)⟩
theorem lw_p10 : lw_okq (⟨"EarSchool$Judgement", "unshifted", "(III)I"⟩, 10) := ⟨⟨by decide +kernel, by decide +kernel⟩, List.mem_of_getElem? (i := 197) (by decide +kernel), List.mem_of_getElem? (i := 624) (by decide +kernel), List.mem_of_getElem? (i := 625) (by decide +kernel)⟩
theorem lw_p11 : lw_okq (⟨"EarSchool$Judgement", "byHit", "(III)I"⟩, 10) := ⟨⟨by decide +kernel, by decide +kernel⟩, List.mem_of_getElem? (i := 197) (by decide +kernel), List.mem_of_getElem? (i := 628) (by decide +kernel), List.mem_of_getElem? (i := 629) (by decide +kernel)⟩
theorem lw_p12 : lw_okq (⟨"EarSchool$Judgement", "hitCost", "(III)I"⟩, 10) := ⟨⟨by decide +kernel, by decide +kernel⟩, List.mem_of_getElem? (i := 197) (by decide +kernel), List.mem_of_getElem? (i := 633) (by decide +kernel), List.mem_of_getElem? (i := 634) (by decide +kernel)⟩
theorem lw_p13 : lw_okq (⟨"EarSchool$Judgement", "lengthCost", "(II)I"⟩, 10) := ⟨⟨by decide +kernel, by decide +kernel⟩, List.mem_of_getElem? (i := 197) (by decide +kernel), List.mem_of_getElem? (i := 637) (by decide +kernel), List.mem_of_getElem? (i := 638) (by decide +kernel)⟩
theorem lw_p14 : lw_okq (⟨"EarSchool$Judgement", "from", "(III)I"⟩, 10) := ⟨⟨by decide +kernel, by decide +kernel⟩, List.mem_of_getElem? (i := 197) (by decide +kernel), List.mem_of_getElem? (i := 641) (by decide +kernel), List.mem_of_getElem? (i := 642) (by decide +kernel)⟩
theorem lw_p15 : lw_okq (⟨"EarSchool$Judgement", "byLost", "(III)I"⟩, 10) := ⟨⟨by decide +kernel, by decide +kernel⟩, List.mem_of_getElem? (i := 197) (by decide +kernel), List.mem_of_getElem? (i := 646) (by decide +kernel), List.mem_of_getElem? (i := 647) (by decide +kernel)⟩
def lw_privs_1 : List (MethodName × Nat) := [(⟨"EarSchool$Metre", "fillBar", "(II)V"⟩, 6), (⟨"EarSchool$Metre", "onward", "(IIII)J"⟩, 6), (⟨"EarSchool$Metre", "put", "(IIJ)V"⟩, 6), (⟨"EarSchool$Harmony", "findThrees", "(I)V"⟩, 8), (⟨"EarSchool$Harmony", "findAbove", "(II)V"⟩, 8), (⟨"EarSchool$Harmony", "waysBehind", "(II)J"⟩, 8), (⟨"EarSchool$Harmony", "mayFollow", "(III)Z"⟩, 8), (⟨"EarSchool$Harmony", "parallel", "(IIIII)Z"⟩, 8), (⟨"EarSchool$Judgement", "fillBorder", "(II)V"⟩, 10), (⟨"EarSchool$Judgement", "index", "(III)I"⟩, 10), (⟨"EarSchool$Judgement", "unshifted", "(III)I"⟩, 10), (⟨"EarSchool$Judgement", "byHit", "(III)I"⟩, 10), (⟨"EarSchool$Judgement", "hitCost", "(III)I"⟩, 10), (⟨"EarSchool$Judgement", "lengthCost", "(II)I"⟩, 10), (⟨"EarSchool$Judgement", "from", "(III)I"⟩, 10), (⟨"EarSchool$Judgement", "byLost", "(III)I"⟩, 10)]
theorem lw_r1 : ∀ q ∈ lw_privs_1, lw_okq q := List.forall_mem_cons.mpr ⟨lw_p0, List.forall_mem_cons.mpr ⟨lw_p1, List.forall_mem_cons.mpr ⟨lw_p2, List.forall_mem_cons.mpr ⟨lw_p3, List.forall_mem_cons.mpr ⟨lw_p4, List.forall_mem_cons.mpr ⟨lw_p5, List.forall_mem_cons.mpr ⟨lw_p6, List.forall_mem_cons.mpr ⟨lw_p7, List.forall_mem_cons.mpr ⟨lw_p8, List.forall_mem_cons.mpr ⟨lw_p9, List.forall_mem_cons.mpr ⟨lw_p10, List.forall_mem_cons.mpr ⟨lw_p11, List.forall_mem_cons.mpr ⟨lw_p12, List.forall_mem_cons.mpr ⟨lw_p13, List.forall_mem_cons.mpr ⟨lw_p14, List.forall_mem_cons.mpr ⟨lw_p15, fun _ h => absurd h List.not_mem_nil⟩⟩⟩⟩⟩⟩⟩⟩⟩⟩⟩⟩⟩⟩⟩⟩
theorem lw_p16 : lw_okq (⟨"EarSchool$Judgement", "byMore", "(III)I"⟩, 10) := ⟨⟨by decide +kernel, by decide +kernel⟩, List.mem_of_getElem? (i := 197) (by decide +kernel), List.mem_of_getElem? (i := 650) (by decide +kernel), List.mem_of_getElem? (i := 651) (by decide +kernel)⟩
theorem lw_p17 : lw_okq (⟨"EarSchool$Judgement", "moreCost", "(I)I"⟩, 10) := ⟨⟨by decide +kernel, by decide +kernel⟩, List.mem_of_getElem? (i := 197) (by decide +kernel), List.mem_of_getElem? (i := 654) (by decide +kernel), List.mem_of_getElem? (i := 655) (by decide +kernel)⟩
theorem lw_p18 : lw_okq (⟨"EarSchool$Judgement", "fillInside", "(II)V"⟩, 10) := ⟨⟨by decide +kernel, by decide +kernel⟩, List.mem_of_getElem? (i := 197) (by decide +kernel), List.mem_of_getElem? (i := 659) (by decide +kernel), List.mem_of_getElem? (i := 660) (by decide +kernel)⟩
theorem lw_p19 : lw_okq (⟨"EarSchool$Judgement", "readActs", "()V"⟩, 10) := ⟨⟨by decide +kernel, by decide +kernel⟩, List.mem_of_getElem? (i := 197) (by decide +kernel), List.mem_of_getElem? (i := 663) (by decide +kernel), List.mem_of_getElem? (i := 664) (by decide +kernel)⟩
theorem lw_p20 : lw_okq (⟨"EarSchool$Judgement", "nextAct", "(IIIZ)I"⟩, 10) := ⟨⟨by decide +kernel, by decide +kernel⟩, List.mem_of_getElem? (i := 197) (by decide +kernel), List.mem_of_getElem? (i := 667) (by decide +kernel), List.mem_of_getElem? (i := 668) (by decide +kernel)⟩
theorem lw_p21 : lw_okq (⟨"EarSchool$Judgement", "push", "(IIII)V"⟩, 10) := ⟨⟨by decide +kernel, by decide +kernel⟩, List.mem_of_getElem? (i := 197) (by decide +kernel), List.mem_of_getElem? (i := 671) (by decide +kernel), List.mem_of_getElem? (i := 672) (by decide +kernel)⟩
theorem lw_p22 : lw_okq (⟨"EarSchoolModel", "countWays", "()V"⟩, 38) := ⟨⟨by decide +kernel, by decide +kernel⟩, List.mem_of_getElem? (i := 735) (by decide +kernel), List.mem_of_getElem? (i := 897) (by decide +kernel), List.mem_of_getElem? (i := 898) (by decide +kernel)⟩
theorem lw_p23 : lw_okq (⟨"EarSchoolModel", "fits", "(II)Z"⟩, 38) := ⟨⟨by decide +kernel, by decide +kernel⟩, List.mem_of_getElem? (i := 735) (by decide +kernel), List.mem_of_getElem? (i := 904) (by decide +kernel), List.mem_of_getElem? (i := 905) (by decide +kernel)⟩
theorem lw_p24 : lw_okq (⟨"EarSchoolModel", "waysOn", "(III)J"⟩, 38) := ⟨⟨by decide +kernel, by decide +kernel⟩, List.mem_of_getElem? (i := 735) (by decide +kernel), List.mem_of_getElem? (i := 911) (by decide +kernel), List.mem_of_getElem? (i := 912) (by decide +kernel)⟩
theorem lw_p25 : lw_okq (⟨"EarSchoolModel", "behind", "(II)I"⟩, 38) := ⟨⟨by decide +kernel, by decide +kernel⟩, List.mem_of_getElem? (i := 735) (by decide +kernel), List.mem_of_getElem? (i := 915) (by decide +kernel), List.mem_of_getElem? (i := 916) (by decide +kernel)⟩
theorem lw_p26 : lw_okq (⟨"EarSchoolModel", "lay", "(III)V"⟩, 38) := ⟨⟨by decide +kernel, by decide +kernel⟩, List.mem_of_getElem? (i := 735) (by decide +kernel), List.mem_of_getElem? (i := 930) (by decide +kernel), List.mem_of_getElem? (i := 931) (by decide +kernel)⟩
theorem lw_p27 : lw_okq (⟨"EarSchoolModel", "laid", "(I)V"⟩, 38) := ⟨⟨by decide +kernel, by decide +kernel⟩, List.mem_of_getElem? (i := 735) (by decide +kernel), List.mem_of_getElem? (i := 934) (by decide +kernel), List.mem_of_getElem? (i := 935) (by decide +kernel)⟩
theorem lw_p28 : lw_okq (⟨"EarSchoolModel", "countFills", "()V"⟩, 38) := ⟨⟨by decide +kernel, by decide +kernel⟩, List.mem_of_getElem? (i := 735) (by decide +kernel), List.mem_of_getElem? (i := 956) (by decide +kernel), List.mem_of_getElem? (i := 957) (by decide +kernel)⟩
theorem lw_p29 : lw_okq (⟨"EarSchoolModel", "goes", "(II)Z"⟩, 38) := ⟨⟨by decide +kernel, by decide +kernel⟩, List.mem_of_getElem? (i := 735) (by decide +kernel), List.mem_of_getElem? (i := 960) (by decide +kernel), List.mem_of_getElem? (i := 961) (by decide +kernel)⟩
theorem lw_p30 : lw_okq (⟨"EarSchoolModel", "countChords", "()V"⟩, 38) := ⟨⟨by decide +kernel, by decide +kernel⟩, List.mem_of_getElem? (i := 735) (by decide +kernel), List.mem_of_getElem? (i := 986) (by decide +kernel), List.mem_of_getElem? (i := 987) (by decide +kernel)⟩
theorem lw_p31 : lw_okq (⟨"EarSchoolModel", "findThrees", "(I)V"⟩, 38) := ⟨⟨by decide +kernel, by decide +kernel⟩, List.mem_of_getElem? (i := 735) (by decide +kernel), List.mem_of_getElem? (i := 990) (by decide +kernel), List.mem_of_getElem? (i := 991) (by decide +kernel)⟩
def lw_privs_2 : List (MethodName × Nat) := [(⟨"EarSchool$Judgement", "byMore", "(III)I"⟩, 10), (⟨"EarSchool$Judgement", "moreCost", "(I)I"⟩, 10), (⟨"EarSchool$Judgement", "fillInside", "(II)V"⟩, 10), (⟨"EarSchool$Judgement", "readActs", "()V"⟩, 10), (⟨"EarSchool$Judgement", "nextAct", "(IIIZ)I"⟩, 10), (⟨"EarSchool$Judgement", "push", "(IIII)V"⟩, 10), (⟨"EarSchoolModel", "countWays", "()V"⟩, 38), (⟨"EarSchoolModel", "fits", "(II)Z"⟩, 38), (⟨"EarSchoolModel", "waysOn", "(III)J"⟩, 38), (⟨"EarSchoolModel", "behind", "(II)I"⟩, 38), (⟨"EarSchoolModel", "lay", "(III)V"⟩, 38), (⟨"EarSchoolModel", "laid", "(I)V"⟩, 38), (⟨"EarSchoolModel", "countFills", "()V"⟩, 38), (⟨"EarSchoolModel", "goes", "(II)Z"⟩, 38), (⟨"EarSchoolModel", "countChords", "()V"⟩, 38), (⟨"EarSchoolModel", "findThrees", "(I)V"⟩, 38)]
theorem lw_r2 : ∀ q ∈ lw_privs_2, lw_okq q := List.forall_mem_cons.mpr ⟨lw_p16, List.forall_mem_cons.mpr ⟨lw_p17, List.forall_mem_cons.mpr ⟨lw_p18, List.forall_mem_cons.mpr ⟨lw_p19, List.forall_mem_cons.mpr ⟨lw_p20, List.forall_mem_cons.mpr ⟨lw_p21, List.forall_mem_cons.mpr ⟨lw_p22, List.forall_mem_cons.mpr ⟨lw_p23, List.forall_mem_cons.mpr ⟨lw_p24, List.forall_mem_cons.mpr ⟨lw_p25, List.forall_mem_cons.mpr ⟨lw_p26, List.forall_mem_cons.mpr ⟨lw_p27, List.forall_mem_cons.mpr ⟨lw_p28, List.forall_mem_cons.mpr ⟨lw_p29, List.forall_mem_cons.mpr ⟨lw_p30, List.forall_mem_cons.mpr ⟨lw_p31, fun _ h => absurd h List.not_mem_nil⟩⟩⟩⟩⟩⟩⟩⟩⟩⟩⟩⟩⟩⟩⟩⟩
theorem lw_p32 : lw_okq (⟨"EarSchoolModel", "follows", "(III)Z"⟩, 38) := ⟨⟨by decide +kernel, by decide +kernel⟩, List.mem_of_getElem? (i := 735) (by decide +kernel), List.mem_of_getElem? (i := 994) (by decide +kernel), List.mem_of_getElem? (i := 995) (by decide +kernel)⟩
theorem lw_p33 : lw_okq (⟨"EarSchoolModel", "pitchOf", "(III)I"⟩, 38) := ⟨⟨by decide +kernel, by decide +kernel⟩, List.mem_of_getElem? (i := 735) (by decide +kernel), List.mem_of_getElem? (i := 998) (by decide +kernel), List.mem_of_getElem? (i := 999) (by decide +kernel)⟩
theorem lw_p34 : lw_okq (⟨"EarSchoolModel", "leastAt", "(IIII)I"⟩, 38) := ⟨⟨by decide +kernel, by decide +kernel⟩, List.mem_of_getElem? (i := 735) (by decide +kernel), List.mem_of_getElem? (i := 1019) (by decide +kernel), List.mem_of_getElem? (i := 1020) (by decide +kernel)⟩
theorem lw_p35 : lw_okq (⟨"EarSchoolModel", "by", "(IIIII)I"⟩, 38) := ⟨⟨by decide +kernel, by decide +kernel⟩, List.mem_of_getElem? (i := 735) (by decide +kernel), List.mem_of_getElem? (i := 1023) (by decide +kernel), List.mem_of_getElem? (i := 1024) (by decide +kernel)⟩
theorem lw_p36 : lw_okq (⟨"EarSchoolModel", "hitCost", "(III)I"⟩, 38) := ⟨⟨by decide +kernel, by decide +kernel⟩, List.mem_of_getElem? (i := 735) (by decide +kernel), List.mem_of_getElem? (i := 1027) (by decide +kernel), List.mem_of_getElem? (i := 1028) (by decide +kernel)⟩
theorem lw_p37 : lw_okq (⟨"EarSchoolModel", "moreCost", "(I)I"⟩, 38) := ⟨⟨by decide +kernel, by decide +kernel⟩, List.mem_of_getElem? (i := 735) (by decide +kernel), List.mem_of_getElem? (i := 1031) (by decide +kernel), List.mem_of_getElem? (i := 1032) (by decide +kernel)⟩
theorem lw_p38 : lw_okq (⟨"EarSchoolModel", "layAct", "(IIIII)V"⟩, 38) := ⟨⟨by decide +kernel, by decide +kernel⟩, List.mem_of_getElem? (i := 735) (by decide +kernel), List.mem_of_getElem? (i := 1035) (by decide +kernel), List.mem_of_getElem? (i := 1036) (by decide +kernel)⟩
theorem lw_p39 : lw_okq (⟨"EarSchoolModel", "weight", "(II)I"⟩, 38) := ⟨⟨by decide +kernel, by decide +kernel⟩, List.mem_of_getElem? (i := 735) (by decide +kernel), List.mem_of_getElem? (i := 1052) (by decide +kernel), List.mem_of_getElem? (i := 1053) (by decide +kernel)⟩
theorem lw_p40 : lw_okq (⟨"EarSchoolModel", "bestOn", "(IIII)J"⟩, 38) := ⟨⟨by decide +kernel, by decide +kernel⟩, List.mem_of_getElem? (i := 735) (by decide +kernel), List.mem_of_getElem? (i := 1060) (by decide +kernel), List.mem_of_getElem? (i := 1061) (by decide +kernel)⟩
theorem lw_p41 : lw_okq (⟨"EarSchoolModel", "goingOn", "(IIIII)J"⟩, 38) := ⟨⟨by decide +kernel, by decide +kernel⟩, List.mem_of_getElem? (i := 735) (by decide +kernel), List.mem_of_getElem? (i := 1064) (by decide +kernel), List.mem_of_getElem? (i := 1065) (by decide +kernel)⟩
def lw_privs_3 : List (MethodName × Nat) := [(⟨"EarSchoolModel", "follows", "(III)Z"⟩, 38), (⟨"EarSchoolModel", "pitchOf", "(III)I"⟩, 38), (⟨"EarSchoolModel", "leastAt", "(IIII)I"⟩, 38), (⟨"EarSchoolModel", "by", "(IIIII)I"⟩, 38), (⟨"EarSchoolModel", "hitCost", "(III)I"⟩, 38), (⟨"EarSchoolModel", "moreCost", "(I)I"⟩, 38), (⟨"EarSchoolModel", "layAct", "(IIIII)V"⟩, 38), (⟨"EarSchoolModel", "weight", "(II)I"⟩, 38), (⟨"EarSchoolModel", "bestOn", "(IIII)J"⟩, 38), (⟨"EarSchoolModel", "goingOn", "(IIIII)J"⟩, 38)]
theorem lw_r3 : ∀ q ∈ lw_privs_3, lw_okq q := List.forall_mem_cons.mpr ⟨lw_p32, List.forall_mem_cons.mpr ⟨lw_p33, List.forall_mem_cons.mpr ⟨lw_p34, List.forall_mem_cons.mpr ⟨lw_p35, List.forall_mem_cons.mpr ⟨lw_p36, List.forall_mem_cons.mpr ⟨lw_p37, List.forall_mem_cons.mpr ⟨lw_p38, List.forall_mem_cons.mpr ⟨lw_p39, List.forall_mem_cons.mpr ⟨lw_p40, List.forall_mem_cons.mpr ⟨lw_p41, fun _ h => absurd h List.not_mem_nil⟩⟩⟩⟩⟩⟩⟩⟩⟩⟩
def lw_privs : List (MethodName × Nat) := lw_privs_1 ++ (lw_privs_2 ++ (lw_privs_3))
def lw_tbl : List Cond := k2_sels lw_privs ++ tables_1
theorem lw_privs_ok : ∀ q ∈ lw_privs, lw_okq q := by
  show ∀ q ∈ lw_privs_1 ++ (lw_privs_2 ++ (lw_privs_3)), lw_okq q
  exact List.forall_mem_append.mpr ⟨lw_r1, List.forall_mem_append.mpr ⟨lw_r2, lw_r3⟩⟩
/-! the classes whose objects the worlds hold, their fields in the order of the slots -/
def es_F0 : List (String × String × String × Bool) := [("EarSchool", "row", "LEarSchool$Notes;", true), ("EarSchool", "intended", "LEarSchool$Notes;", true), ("EarSchool", "rule", "LEarSchool$Rule;", true), ("EarSchool", "counts", "LEarSchool$CountTable;", true), ("EarSchool", "weights", "LEarSchool$WeightTable;", true), ("EarSchool", "metre", "LEarSchool$Metre;", true), ("EarSchool", "harmony", "LEarSchool$Harmony;", true), ("EarSchool", "judgement", "LEarSchool$Judgement;", true), ("EarSchool", "pupils", "LEarSchool$Pupils;", true)]
def es_T0 : u_T := fun k => es_F0.getD k ("", "I", "I", false)
def es_F1 : List (String × String × String × Bool) := [("EarSchool$Notes", "pitch", "[I", true), ("EarSchool$Notes", "length", "[I", true), ("EarSchool$Notes", "size", "I", false)]
def es_T1 : u_T := fun k => es_F1.getD k ("", "I", "I", false)
def es_F2 : List (String × String × String × Bool) := [("EarSchool$Rule", "bitsOf", "[I", true), ("EarSchool$Rule", "low", "I", false), ("EarSchool$Rule", "high", "I", false), ("EarSchool$Rule", "n", "I", false), ("EarSchool$Rule", "leap", "I", false), ("EarSchool$Rule", "repeats", "I", false)]
def es_T2 : u_T := fun k => es_F2.getD k ("", "I", "I", false)
def es_F3 : List (String × String × String × Bool) := [("EarSchool$MelodyTable", "rule", "LEarSchool$Rule;", true), ("EarSchool$MelodyTable", "worth", "[J", true), ("EarSchool$MelodyTable", "filled", "Z", false)]
def es_T3 : u_T := fun k => es_F3.getD k ("", "I", "I", false)
def es_F4 : List (String × String × String × Bool) := [("EarSchool$MelodyTable", "rule", "LEarSchool$Rule;", true), ("EarSchool$MelodyTable", "worth", "[J", true), ("EarSchool$MelodyTable", "filled", "Z", false), ("EarSchool$WeightTable", "weightOf", "[I", true)]
def es_T4 : u_T := fun k => es_F4.getD k ("", "I", "I", false)
def es_F5 : List (String × String × String × Bool) := [("EarSchool$Metre", "lengths", "[I", true), ("EarSchool$Metre", "size", "I", false), ("EarSchool$Metre", "many", "I", false), ("EarSchool$Metre", "beat", "I", false), ("EarSchool$Metre", "filled", "Z", false), ("EarSchool$Metre", "ways", "[J", true)]
def es_T5 : u_T := fun k => es_F5.getD k ("", "I", "I", false)
def es_F6 : List (String × String × String × Bool) := [("EarSchool$Harmony", "masks", "[I", true), ("EarSchool$Harmony", "lowest", "[I", true), ("EarSchool$Harmony", "size", "I", false), ("EarSchool$Harmony", "most", "I", false), ("EarSchool$Harmony", "filled", "Z", false), ("EarSchool$Harmony", "threes", "[I", true), ("EarSchool$Harmony", "pitches", "[I", true), ("EarSchool$Harmony", "ways", "[J", true)]
def es_T6 : u_T := fun k => es_F6.getD k ("", "I", "I", false)
def es_F7 : List (String × String × String × Bool) := [("EarSchool$Judgement", "meantNotes", "LEarSchool$Notes;", true), ("EarSchool$Judgement", "answer", "LEarSchool$Notes;", true), ("EarSchool$Judgement", "least", "[I", true), ("EarSchool$Judgement", "number", "[I", true), ("EarSchool$Judgement", "ofMeant", "[I", true), ("EarSchool$Judgement", "ofAnswer", "[I", true), ("EarSchool$Judgement", "cost", "[I", true), ("EarSchool$Judgement", "size", "I", false), ("EarSchool$Judgement", "sum", "I", false), ("EarSchool$Judgement", "standing", "Z", false)]
def es_T7 : u_T := fun k => es_F7.getD k ("", "I", "I", false)
def es_F8 : List (String × String × String × Bool) := [("EarSchool$Pupils", "asked", "[[I", true), ("EarSchool$Pupils", "missed", "[[I", true)]
def es_T8 : u_T := fun k => es_F8.getD k ("", "I", "I", false)
def es_F9 : List (String × String × String × Bool) := [("EarSchoolModel", "notes", "I", false), ("EarSchoolModel", "pitch", "[I", true), ("EarSchoolModel", "length", "[I", true), ("EarSchoolModel", "meantMany", "I", false), ("EarSchoolModel", "meantPitch", "[I", true), ("EarSchoolModel", "meantLength", "[I", true), ("EarSchoolModel", "isJudged", "Z", false), ("EarSchoolModel", "low", "I", false), ("EarSchoolModel", "high", "I", false), ("EarSchoolModel", "n", "I", false), ("EarSchoolModel", "scale", "I", false), ("EarSchoolModel", "begin", "I", false), ("EarSchoolModel", "end", "I", false), ("EarSchoolModel", "steps", "I", false), ("EarSchoolModel", "leap", "I", false), ("EarSchoolModel", "repeats", "I", false), ("EarSchoolModel", "bars", "I", false), ("EarSchoolModel", "beat", "I", false), ("EarSchoolModel", "isSome", "[Z", true), ("EarSchoolModel", "someMany", "I", false), ("EarSchoolModel", "masks", "I", false), ("EarSchoolModel", "mask", "[I", true), ("EarSchoolModel", "lowest", "[I", true), ("EarSchoolModel", "most", "I", false), ("EarSchoolModel", "asked", "[I", true), ("EarSchoolModel", "missed", "[I", true), ("EarSchoolModel", "ways", "[J", true), ("EarSchoolModel", "fills", "[J", true), ("EarSchoolModel", "threes", "[I", true), ("EarSchoolModel", "threeMany", "[I", true), ("EarSchoolModel", "chordWays", "[J", true), ("EarSchoolModel", "costs", "[I", true), ("EarSchoolModel", "acts", "I", false), ("EarSchoolModel", "actNumber", "[I", true), ("EarSchoolModel", "actMeant", "[I", true), ("EarSchoolModel", "actOwn", "[I", true), ("EarSchoolModel", "actCost", "[I", true), ("EarSchoolModel", "actShift", "[I", true)]
def es_T9 : u_T := fun k => es_F9.getD k ("", "I", "I", false)
def es_cl : List vw_C := [("EarSchool", es_T0, 9), ("EarSchool$Notes", es_T1, 3), ("EarSchool$Rule", es_T2, 6), ("EarSchool$CountTable", es_T3, 3), ("EarSchool$WeightTable", es_T4, 4), ("EarSchool$Metre", es_T5, 6), ("EarSchool$Harmony", es_T6, 8), ("EarSchool$Judgement", es_T7, 10), ("EarSchool$Pupils", es_T8, 2), ("EarSchoolModel", es_T9, 38)]
def es_ty (T : u_T) : Nat → FieldType := fun k => (parseFieldDescriptor (T k).2.2.1).getD .int
def es_clok (q : vw_C) : Prop := (∀ w ∈ u_ws q.1 q.2.1 q.2.2, w ∈ lw_tbl) ∧ (∀ k, k < q.2.2 → parseFieldDescriptor (q.2.1 k).2.2.1 = some (es_ty q.2.1 k)) ∧ (∀ a, a < q.2.2 → ∀ b, b < q.2.2 → a ≠ b → (q.2.1 a).2.1 ≠ (q.2.1 b).2.1)
theorem es_ok0 : es_clok ("EarSchool", es_T0, 9) := ⟨by decide +kernel, by decide +kernel, by decide +kernel⟩
theorem es_ok1 : es_clok ("EarSchool$Notes", es_T1, 3) := ⟨by decide +kernel, by decide +kernel, by decide +kernel⟩
theorem es_ok2 : es_clok ("EarSchool$Rule", es_T2, 6) := ⟨by decide +kernel, by decide +kernel, by decide +kernel⟩
theorem es_ok3 : es_clok ("EarSchool$CountTable", es_T3, 3) := ⟨by decide +kernel, by decide +kernel, by decide +kernel⟩
theorem es_ok4 : es_clok ("EarSchool$WeightTable", es_T4, 4) := ⟨by decide +kernel, by decide +kernel, by decide +kernel⟩
theorem es_ok5 : es_clok ("EarSchool$Metre", es_T5, 6) := ⟨by decide +kernel, by decide +kernel, by decide +kernel⟩
theorem es_ok6 : es_clok ("EarSchool$Harmony", es_T6, 8) := ⟨by decide +kernel, by decide +kernel, by decide +kernel⟩
theorem es_ok7 : es_clok ("EarSchool$Judgement", es_T7, 10) := ⟨by decide +kernel, by decide +kernel, by decide +kernel⟩
theorem es_ok8 : es_clok ("EarSchool$Pupils", es_T8, 2) := ⟨by decide +kernel, by decide +kernel, by decide +kernel⟩
theorem es_ok9 : es_clok ("EarSchoolModel", es_T9, 38) := ⟨by decide +kernel, by decide +kernel, by decide +kernel⟩
theorem es_cl_ok : ∀ (ci : Nat) (q : vw_C), es_cl[ci]? = some q → es_clok q := by
  intro ci q h
  have hm := List.mem_of_getElem? h
  simp only [es_cl, List.mem_cons, List.not_mem_nil, or_false] at hm
  rcases hm with rfl | rfl | rfl | rfl | rfl | rfl | rfl | rfl | rfl | rfl
  · exact es_ok0
  · exact es_ok1
  · exact es_ok2
  · exact es_ok3
  · exact es_ok4
  · exact es_ok5
  · exact es_ok6
  · exact es_ok7
  · exact es_ok8
  · exact es_ok9
/-! the private methods of the abstract class, chosen at either of its subclasses -/
def es_mp : List MethodName := [⟨"EarSchool$MelodyTable", "fillPitch", "(II)V"⟩, ⟨"EarSchool$MelodyTable", "fillStates", "(IIJ)V"⟩, ⟨"EarSchool$MelodyTable", "put", "(IIIJ)V"⟩, ⟨"EarSchool$MelodyTable", "index", "(III)I"⟩, ⟨"EarSchool$MelodyTable", "byStep", "(IIII)J"⟩]
def es_xs : List Cond := es_mp.map (fun y => Cond.selects "EarSchool$CountTable" y y) ++ es_mp.map (fun y => Cond.selects "EarSchool$WeightTable" y y)
def es_tbl : List Cond := es_xs ++ lw_tbl
theorem es_selp {y : MethodName} {C : String} {s : State} {args : Array Value} {n : Nat} {a b d : String} (hy : y.cls ≠ "java/lang/invoke/MethodHandle" ∧ y.cls ≠ "java/lang/invoke/VarHandle")
    (hins : (Cond.instantiable C n).before args s = true) (hsm : (Cond.sameMethod y.cls a b d).before args s = true) (hpriv : (Cond.privateMethod y).before args s = true) (hinst : (Cond.instanceMethod y).before args s = true) :
    (Cond.selects C y y).before args s = true := by
  obtain ⟨c, k, hc, hk, -, -, -, -⟩ := Cond.instantiable_spec hins
  obtain ⟨c2, k2, r2, hc2, hk2, hni2, -, -⟩ := Cond.sameMethod_found hsm
  obtain ⟨mk, methM, hnamed, hmethM, -, -⟩ := Cond.instanceMethod_spec hinst
  have hfound : s.methodFound? y.cls y.name y.desc = some mk := State.methodFound?_of_named hnamed hy
  have hcls : mk.cls = c2 := Option.some.inj ((findClass_of_methodNamed hnamed).symm.trans hc2)
  have hsel : selectMethod {} s.vm c mk = .method mk := selectMethod_private hmethM (Cond.privateMethod_at hpriv mk methM hnamed hmethM)
  simp only [Cond.before, Cond.holds, Cond.value, hc, hfound, hnamed, hsel, hcls, hk2]
  simp; exact hni2
theorem es_mp_ok : ∀ y ∈ es_mp, y.cls = "EarSchool$MelodyTable" ∧ Cond.privateMethod y ∈ lw_tbl ∧ Cond.instanceMethod y ∈ lw_tbl := by decide +kernel
theorem es_hts {args : Array Value} {s : State} (h : ∀ w ∈ lw_tbl, w.before args s = true) : ∀ w ∈ es_tbl, w.before args s = true := by
  have i1 := h (.instantiable "EarSchool$CountTable" 3) (by decide +kernel)
  have i2 := h (.instantiable "EarSchool$WeightTable" 4) (by decide +kernel)
  have sm := h (.sameMethod "EarSchool$MelodyTable" "EarSchool$MelodyTable" "ofNone" "()J") (by decide +kernel)
  intro w hw
  rcases List.mem_append.mp hw with hw | hw
  · rcases List.mem_append.mp hw with hw | hw
    · obtain ⟨y, hy, rfl⟩ := List.mem_map.mp hw
      obtain ⟨e, p1, p2⟩ := es_mp_ok y hy
      exact es_selp (by rw [e]; decide) i1 (by rw [e]; exact sm) (h _ p1) (h _ p2)
    · obtain ⟨y, hy, rfl⟩ := List.mem_map.mp hw
      obtain ⟨e, p1, p2⟩ := es_mp_ok y hy
      exact es_selp (by rw [e]; decide) i2 (by rw [e]; exact sm) (h _ p1) (h _ p2)
  · exact h w hw
theorem es_in {w : Cond} (h : w ∈ lw_tbl) : w ∈ es_tbl := List.mem_append_right _ h
def es_gt : List Cond := es_tbl.filter goodWord
theorem es_gt_in {w : Cond} (h : w ∈ es_tbl) (hg : goodWord w = true) : w ∈ es_gt := List.mem_filter.mpr ⟨h, hg⟩
theorem es_gt_good : ∀ w ∈ es_gt, (w.onTables && w.keeps) = true ∨ ∃ ty, w = .arrayClass ty := fun w h => good_of_word (List.mem_filter.mp h).2
theorem es_gt_hts {args : Array Value} {s : State} (h : ∀ w ∈ es_tbl, w.before args s = true) : ∀ w ∈ es_gt, w.before args s = true := fun w hw => h w (List.mem_filter.mp hw).1
def es_isN : Cond → Bool
  | .methodLinkNest .. => true
  | .declares _ => true
  | _ => false
/-- the words of nest mates and of abstract methods -/
def es_N (U : State) : Prop := ∀ w ∈ lw_tbl, es_isN w = true → va_Nw w U
theorem es_N.warm {s U : State} (hW : s.WarmedH U.vm) (h : es_N s) : es_N U := by
  intro w hw hi
  have h1 := h w hw hi
  cases w <;> first | exact va_Nw.warmM hW h1 | exact va_Nw.warmD hW h1 | exact absurd hi Bool.false_ne_true
theorem es_N.same {u U : State} (hv : u.vm = U.vm) (h : es_N u) : es_N U := by
  intro w hw hi
  have h1 := h w hw hi
  cases w <;> first | exact absurd hi Bool.false_ne_true | exact va_Nw.same rfl hv h1
theorem es_N.of {args : Array Value} {s : State} (h : ∀ w ∈ lw_tbl, w.before args s = true) : es_N s := by
  intro w hw hi
  have h1 := h w hw
  cases w <;> first | exact absurd hi Bool.false_ne_true | exact va_Nw.of rfl h1
