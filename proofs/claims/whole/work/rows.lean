section
-- ===== PART A: goes FIRST, ahead of the names: the tables' words, and 'selects' of the private methods out of them =====
/-- a private method of a class that the tables say can be made, by its rows of tables_1 -/
def lw_okq (q : MethodName × Nat) : Prop := (q.1.cls ≠ "java/lang/invoke/MethodHandle" ∧ q.1.cls ≠ "java/lang/invoke/VarHandle") ∧ Cond.instantiable q.1.cls q.2 ∈ tables_1 ∧ Cond.privateMethod q.1 ∈ tables_1 ∧ Cond.instanceMethod q.1 ∈ tables_1
theorem lw_p0 : lw_okq (⟨"EarSchool$Metre", "fillBar", "(II)V"⟩, 6) := ⟨⟨by decide +kernel, by decide +kernel⟩, List.mem_of_getElem? (i := 132) (by decide +kernel), List.mem_of_getElem? (i := 502) (by decide +kernel), List.mem_of_getElem? (i := 503) (by decide +kernel)⟩
theorem lw_p1 : lw_okq (⟨"EarSchool$Metre", "onward", "(IIII)J"⟩, 6) := ⟨⟨by decide +kernel, by decide +kernel⟩, List.mem_of_getElem? (i := 132) (by decide +kernel), List.mem_of_getElem? (i := 506) (by decide +kernel), List.mem_of_getElem? (i := 507) (by decide +kernel)⟩
theorem lw_p2 : lw_okq (⟨"EarSchool$Metre", "put", "(IIJ)V"⟩, 6) := ⟨⟨by decide +kernel, by decide +kernel⟩, List.mem_of_getElem? (i := 132) (by decide +kernel), List.mem_of_getElem? (i := 512) (by decide +kernel), List.mem_of_getElem? (i := 513) (by decide +kernel)⟩
theorem lw_p3 : lw_okq (⟨"EarSchool$Harmony", "findThrees", "(I)V"⟩, 8) := ⟨⟨by decide +kernel, by decide +kernel⟩, List.mem_of_getElem? (i := 161) (by decide +kernel), List.mem_of_getElem? (i := 555) (by decide +kernel), List.mem_of_getElem? (i := 556) (by decide +kernel)⟩
theorem lw_p4 : lw_okq (⟨"EarSchool$Harmony", "findAbove", "(II)V"⟩, 8) := ⟨⟨by decide +kernel, by decide +kernel⟩, List.mem_of_getElem? (i := 161) (by decide +kernel), List.mem_of_getElem? (i := 560) (by decide +kernel), List.mem_of_getElem? (i := 561) (by decide +kernel)⟩
theorem lw_p5 : lw_okq (⟨"EarSchool$Harmony", "waysBehind", "(II)J"⟩, 8) := ⟨⟨by decide +kernel, by decide +kernel⟩, List.mem_of_getElem? (i := 161) (by decide +kernel), List.mem_of_getElem? (i := 567) (by decide +kernel), List.mem_of_getElem? (i := 568) (by decide +kernel)⟩
theorem lw_p6 : lw_okq (⟨"EarSchool$Harmony", "mayFollow", "(III)Z"⟩, 8) := ⟨⟨by decide +kernel, by decide +kernel⟩, List.mem_of_getElem? (i := 161) (by decide +kernel), List.mem_of_getElem? (i := 571) (by decide +kernel), List.mem_of_getElem? (i := 572) (by decide +kernel)⟩
theorem lw_p7 : lw_okq (⟨"EarSchool$Harmony", "parallel", "(IIIII)Z"⟩, 8) := ⟨⟨by decide +kernel, by decide +kernel⟩, List.mem_of_getElem? (i := 161) (by decide +kernel), List.mem_of_getElem? (i := 581) (by decide +kernel), List.mem_of_getElem? (i := 582) (by decide +kernel)⟩
theorem lw_p8 : lw_okq (⟨"EarSchool$Judgement", "fillBorder", "(II)V"⟩, 10) := ⟨⟨by decide +kernel, by decide +kernel⟩, List.mem_of_getElem? (i := 197) (by decide +kernel), List.mem_of_getElem? (i := 616) (by decide +kernel), List.mem_of_getElem? (i := 617) (by decide +kernel)⟩
theorem lw_p9 : lw_okq (⟨"EarSchool$Judgement", "index", "(III)I"⟩, 10) := ⟨⟨by decide +kernel, by decide +kernel⟩, List.mem_of_getElem? (i := 197) (by decide +kernel), List.mem_of_getElem? (i := 620) (by decide +kernel), List.mem_of_getElem? (i := 621) (by decide +kernel)⟩
theorem lw_p10 : lw_okq (⟨"EarSchool$Judgement", "unshifted", "(III)I"⟩, 10) := ⟨⟨by decide +kernel, by decide +kernel⟩, List.mem_of_getElem? (i := 197) (by decide +kernel), List.mem_of_getElem? (i := 624) (by decide +kernel), List.mem_of_getElem? (i := 625) (by decide +kernel)⟩
theorem lw_p11 : lw_okq (⟨"EarSchool$Judgement", "byHit", "(III)I"⟩, 10) := ⟨⟨by decide +kernel, by decide +kernel⟩, List.mem_of_getElem? (i := 197) (by decide +kernel), List.mem_of_getElem? (i := 628) (by decide +kernel), List.mem_of_getElem? (i := 629) (by decide +kernel)⟩
theorem lw_p12 : lw_okq (⟨"EarSchool$Judgement", "hitCost", "(III)I"⟩, 10) := ⟨⟨by decide +kernel, by decide +kernel⟩, List.mem_of_getElem? (i := 197) (by decide +kernel), List.mem_of_getElem? (i := 633) (by decide +kernel), List.mem_of_getElem? (i := 634) (by decide +kernel)⟩
theorem lw_p13 : lw_okq (⟨"EarSchool$Judgement", "lengthCost", "(II)I"⟩, 10) := ⟨⟨by decide +kernel, by decide +kernel⟩, List.mem_of_getElem? (i := 197) (by decide +kernel), List.mem_of_getElem? (i := 637) (by decide +kernel), List.mem_of_getElem? (i := 638) (by decide +kernel)⟩
theorem lw_p14 : lw_okq (⟨"EarSchool$Judgement", "from", "(III)I"⟩, 10) := ⟨⟨by decide +kernel, by decide +kernel⟩, List.mem_of_getElem? (i := 197) (by decide +kernel), List.mem_of_getElem? (i := 641) (by decide +kernel), List.mem_of_getElem? (i := 642) (by decide +kernel)⟩
theorem lw_p15 : lw_okq (⟨"EarSchool$Judgement", "byLost", "(III)I"⟩, 10) := ⟨⟨by decide +kernel, by decide +kernel⟩, List.mem_of_getElem? (i := 197) (by decide +kernel), List.mem_of_getElem? (i := 646) (by decide +kernel), List.mem_of_getElem? (i := 647) (by decide +kernel)⟩
def lw_privs_1 : List (MethodName × Nat) := [(⟨"EarSchool$Metre", "fillBar", "(II)V"⟩, 6), (⟨"EarSchool$Metre", "onward", "(IIII)J"⟩, 6), (⟨"EarSchool$Metre", "put", "(IIJ)V"⟩, 6), (⟨"EarSchool$Harmony", "findThrees", "(I)V"⟩, 8), (⟨"EarSchool$Harmony", "findAbove", "(II)V"⟩, 8), (⟨"EarSchool$Harmony", "waysBehind", "(II)J"⟩, 8), (⟨"EarSchool$Harmony", "mayFollow", "(III)Z"⟩, 8), (⟨"EarSchool$Harmony", "parallel", "(IIIII)Z"⟩, 8), (⟨"EarSchool$Judgement", "fillBorder", "(II)V"⟩, 10), (⟨"EarSchool$Judgement", "index", "(III)I"⟩, 10), (⟨"EarSchool$Judgement", "unshifted", "(III)I"⟩, 10), (⟨"EarSchool$Judgement", "byHit", "(III)I"⟩, 10), (⟨"EarSchool$Judgement", "hitCost", "(III)I"⟩, 10), (⟨"EarSchool$Judgement", "lengthCost", "(II)I"⟩, 10), (⟨"EarSchool$Judgement", "from", "(III)I"⟩, 10), (⟨"EarSchool$Judgement", "byLost", "(III)I"⟩, 10)]
theorem lw_r1 : ∀ q ∈ lw_privs_1, lw_okq q := List.forall_mem_cons.mpr ⟨lw_p0, List.forall_mem_cons.mpr ⟨lw_p1, List.forall_mem_cons.mpr ⟨lw_p2, List.forall_mem_cons.mpr ⟨lw_p3, List.forall_mem_cons.mpr ⟨lw_p4, List.forall_mem_cons.mpr ⟨lw_p5, List.forall_mem_cons.mpr ⟨lw_p6, List.forall_mem_cons.mpr ⟨lw_p7, List.forall_mem_cons.mpr ⟨lw_p8, List.forall_mem_cons.mpr ⟨lw_p9, List.forall_mem_cons.mpr ⟨lw_p10, List.forall_mem_cons.mpr ⟨lw_p11, List.forall_mem_cons.mpr ⟨lw_p12, List.forall_mem_cons.mpr ⟨lw_p13, List.forall_mem_cons.mpr ⟨lw_p14, List.forall_mem_cons.mpr ⟨lw_p15, fun _ h => absurd h List.not_mem_nil⟩⟩⟩⟩⟩⟩⟩⟩⟩⟩⟩⟩⟩⟩⟩⟩
theorem lw_p16 : lw_okq (⟨"EarSchool$Judgement", "byMore", "(III)I"⟩, 10) := ⟨⟨by decide +kernel, by decide +kernel⟩, List.mem_of_getElem? (i := 197) (by decide +kernel), List.mem_of_getElem? (i := 650) (by decide +kernel), List.mem_of_getElem? (i := 651) (by decide +kernel)⟩
theorem lw_p17 : lw_okq (⟨"EarSchool$Judgement", "moreCost", "(I)I"⟩, 10) := ⟨⟨by decide +kernel, by decide +kernel⟩, List.mem_of_getElem? (i := 197) (by decide +kernel), List.mem_of_getElem? (i := 654) (by decide +kernel), List.mem_of_getElem? (i := 655) (by decide +kernel)⟩
theorem lw_p18 : lw_okq (⟨"EarSchool$Judgement", "fillInside", "(II)V"⟩, 10) := ⟨⟨by decide +kernel, by decide +kernel⟩, List.mem_of_getElem? (i := 197) (by decide +kernel), List.mem_of_getElem? (i := 659) (by decide +kernel), List.mem_of_getElem? (i := 660) (by decide +kernel)⟩
theorem lw_p19 : lw_okq (⟨"EarSchool$Judgement", "readActs", "()V"⟩, 10) := ⟨⟨by decide +kernel, by decide +kernel⟩, List.mem_of_getElem? (i := 197) (by decide +kernel), List.mem_of_getElem? (i := 663) (by decide +kernel), List.mem_of_getElem? (i := 664) (by decide +kernel)⟩
theorem lw_p20 : lw_okq (⟨"EarSchool$Judgement", "nextAct", "(IIIZ)I"⟩, 10) := ⟨⟨by decide +kernel, by decide +kernel⟩, List.mem_of_getElem? (i := 197) (by decide +kernel), List.mem_of_getElem? (i := 667) (by decide +kernel), List.mem_of_getElem? (i := 668) (by decide +kernel)⟩
theorem lw_p21 : lw_okq (⟨"EarSchool$Judgement", "push", "(IIII)V"⟩, 10) := ⟨⟨by decide +kernel, by decide +kernel⟩, List.mem_of_getElem? (i := 197) (by decide +kernel), List.mem_of_getElem? (i := 671) (by decide +kernel), List.mem_of_getElem? (i := 672) (by decide +kernel)⟩
theorem lw_p22 : lw_okq (⟨"EarSchoolModel", "countWays", "()V"⟩, 38) := ⟨⟨by decide +kernel, by decide +kernel⟩, List.mem_of_getElem? (i := 735) (by decide +kernel), List.mem_of_getElem? (i := 897) (by decide +kernel), List.mem_of_getElem? (i := 898) (by decide +kernel)⟩
theorem lw_p23 : lw_okq (⟨"EarSchoolModel", "fits", "(II)Z"⟩, 38) := ⟨⟨by decide +kernel, by decide +kernel⟩, List.mem_of_getElem? (i := 735) (by decide +kernel), List.mem_of_getElem? (i := 904) (by decide +kernel), List.mem_of_getElem? (i := 905) (by decide +kernel)⟩
theorem lw_p24 : lw_okq (⟨"EarSchoolModel", "waysOn", "(III)J"⟩, 38) := ⟨⟨by decide +kernel, by decide +kernel⟩, List.mem_of_getElem? (i := 735) (by decide +kernel), List.mem_of_getElem? (i := 911) (by decide +kernel), List.mem_of_getElem? (i := 912) (by decide +kernel)⟩
theorem lw_p25 : lw_okq (⟨"EarSchoolModel", "behind", "(II)I"⟩, 38) := ⟨⟨by decide +kernel, by decide +kernel⟩, List.mem_of_getElem? (i := 735) (by decide +kernel), List.mem_of_getElem? (i := 915) (by decide +kernel), List.mem_of_getElem? (i := 916) (by decide +kernel)⟩
theorem lw_p26 : lw_okq (⟨"EarSchoolModel", "lay", "(III)V"⟩, 38) := ⟨⟨by decide +kernel, by decide +kernel⟩, List.mem_of_getElem? (i := 735) (by decide +kernel), List.mem_of_getElem? (i := 930) (by decide +kernel), List.mem_of_getElem? (i := 931) (by decide +kernel)⟩
theorem lw_p27 : lw_okq (⟨"EarSchoolModel", "laid", "(I)V"⟩, 38) := ⟨⟨by decide +kernel, by decide +kernel⟩, List.mem_of_getElem? (i := 735) (by decide +kernel), List.mem_of_getElem? (i := 934) (by decide +kernel), List.mem_of_getElem? (i := 935) (by decide +kernel)⟩
theorem lw_p28 : lw_okq (⟨"EarSchoolModel", "countFills", "()V"⟩, 38) := ⟨⟨by decide +kernel, by decide +kernel⟩, List.mem_of_getElem? (i := 735) (by decide +kernel), List.mem_of_getElem? (i := 956) (by decide +kernel), List.mem_of_getElem? (i := 957) (by decide +kernel)⟩
theorem lw_p29 : lw_okq (⟨"EarSchoolModel", "goes", "(II)Z"⟩, 38) := ⟨⟨by decide +kernel, by decide +kernel⟩, List.mem_of_getElem? (i := 735) (by decide +kernel), List.mem_of_getElem? (i := 960) (by decide +kernel), List.mem_of_getElem? (i := 961) (by decide +kernel)⟩
theorem lw_p30 : lw_okq (⟨"EarSchoolModel", "countChords", "()V"⟩, 38) := ⟨⟨by decide +kernel, by decide +kernel⟩, List.mem_of_getElem? (i := 735) (by decide +kernel), List.mem_of_getElem? (i := 986) (by decide +kernel), List.mem_of_getElem? (i := 987) (by decide +kernel)⟩
theorem lw_p31 : lw_okq (⟨"EarSchoolModel", "findThrees", "(I)V"⟩, 38) := ⟨⟨by decide +kernel, by decide +kernel⟩, List.mem_of_getElem? (i := 735) (by decide +kernel), List.mem_of_getElem? (i := 990) (by decide +kernel), List.mem_of_getElem? (i := 991) (by decide +kernel)⟩
def lw_privs_2 : List (MethodName × Nat) := [(⟨"EarSchool$Judgement", "byMore", "(III)I"⟩, 10), (⟨"EarSchool$Judgement", "moreCost", "(I)I"⟩, 10), (⟨"EarSchool$Judgement", "fillInside", "(II)V"⟩, 10), (⟨"EarSchool$Judgement", "readActs", "()V"⟩, 10), (⟨"EarSchool$Judgement", "nextAct", "(IIIZ)I"⟩, 10), (⟨"EarSchool$Judgement", "push", "(IIII)V"⟩, 10), (⟨"EarSchoolModel", "countWays", "()V"⟩, 38), (⟨"EarSchoolModel", "fits", "(II)Z"⟩, 38), (⟨"EarSchoolModel", "waysOn", "(III)J"⟩, 38), (⟨"EarSchoolModel", "behind", "(II)I"⟩, 38), (⟨"EarSchoolModel", "lay", "(III)V"⟩, 38), (⟨"EarSchoolModel", "laid", "(I)V"⟩, 38), (⟨"EarSchoolModel", "countFills", "()V"⟩, 38), (⟨"EarSchoolModel", "goes", "(II)Z"⟩, 38), (⟨"EarSchoolModel", "countChords", "()V"⟩, 38), (⟨"EarSchoolModel", "findThrees", "(I)V"⟩, 38)]
theorem lw_r2 : ∀ q ∈ lw_privs_2, lw_okq q := List.forall_mem_cons.mpr ⟨lw_p16, List.forall_mem_cons.mpr ⟨lw_p17, List.forall_mem_cons.mpr ⟨lw_p18, List.forall_mem_cons.mpr ⟨lw_p19, List.forall_mem_cons.mpr ⟨lw_p20, List.forall_mem_cons.mpr ⟨lw_p21, List.forall_mem_cons.mpr ⟨lw_p22, List.forall_mem_cons.mpr ⟨lw_p23, List.forall_mem_cons.mpr ⟨lw_p24, List.forall_mem_cons.mpr ⟨lw_p25, List.forall_mem_cons.mpr ⟨lw_p26, List.forall_mem_cons.mpr ⟨lw_p27, List.forall_mem_cons.mpr ⟨lw_p28, List.forall_mem_cons.mpr ⟨lw_p29, List.forall_mem_cons.mpr ⟨lw_p30, List.forall_mem_cons.mpr ⟨lw_p31, fun _ h => absurd h List.not_mem_nil⟩⟩⟩⟩⟩⟩⟩⟩⟩⟩⟩⟩⟩⟩⟩⟩
theorem lw_p32 : lw_okq (⟨"EarSchoolModel", "follows", "(III)Z"⟩, 38) := ⟨⟨by decide +kernel, by decide +kernel⟩, List.mem_of_getElem? (i := 735) (by decide +kernel), List.mem_of_getElem? (i := 994) (by decide +kernel), List.mem_of_getElem? (i := 995) (by decide +kernel)⟩
theorem lw_p33 : lw_okq (⟨"EarSchoolModel", "pitchOf", "(III)I"⟩, 38) := ⟨⟨by decide +kernel, by decide +kernel⟩, List.mem_of_getElem? (i := 735) (by decide +kernel), List.mem_of_getElem? (i := 998) (by decide +kernel), List.mem_of_getElem? (i := 999) (by decide +kernel)⟩
theorem lw_p34 : lw_okq (⟨"EarSchoolModel", "leastAt", "(IIII)I"⟩, 38) := ⟨⟨by decide +kernel, by decide +kernel⟩, List.mem_of_getElem? (i := 735) (by decide +kernel), List.mem_of_getElem? (i := 1019) (by decide +kernel), List.mem_of_getElem? (i := 1020) (by decide +kernel)⟩
theorem lw_p35 : lw_okq (⟨"EarSchoolModel", "by", "(IIIII)I"⟩, 38) := ⟨⟨by decide +kernel, by decide +kernel⟩, List.mem_of_getElem? (i := 735) (by decide +kernel), List.mem_of_getElem? (i := 1023) (by decide +kernel), List.mem_of_getElem? (i := 1024) (by decide +kernel)⟩
theorem lw_p36 : lw_okq (⟨"EarSchoolModel", "hitCost", "(III)I"⟩, 38) := ⟨⟨by decide +kernel, by decide +kernel⟩, List.mem_of_getElem? (i := 735) (by decide +kernel), List.mem_of_getElem? (i := 1027) (by decide +kernel), List.mem_of_getElem? (i := 1028) (by decide +kernel)⟩
theorem lw_p37 : lw_okq (⟨"EarSchoolModel", "moreCost", "(I)I"⟩, 38) := ⟨⟨by decide +kernel, by decide +kernel⟩, List.mem_of_getElem? (i := 735) (by decide +kernel), List.mem_of_getElem? (i := 1031) (by decide +kernel), List.mem_of_getElem? (i := 1032) (by decide +kernel)⟩
theorem lw_p38 : lw_okq (⟨"EarSchoolModel", "layAct", "(IIIII)V"⟩, 38) := ⟨⟨by decide +kernel, by decide +kernel⟩, List.mem_of_getElem? (i := 735) (by decide +kernel), List.mem_of_getElem? (i := 1035) (by decide +kernel), List.mem_of_getElem? (i := 1036) (by decide +kernel)⟩
theorem lw_p39 : lw_okq (⟨"EarSchoolModel", "weight", "(II)I"⟩, 38) := ⟨⟨by decide +kernel, by decide +kernel⟩, List.mem_of_getElem? (i := 735) (by decide +kernel), List.mem_of_getElem? (i := 1052) (by decide +kernel), List.mem_of_getElem? (i := 1053) (by decide +kernel)⟩
theorem lw_p40 : lw_okq (⟨"EarSchoolModel", "bestOn", "(IIII)J"⟩, 38) := ⟨⟨by decide +kernel, by decide +kernel⟩, List.mem_of_getElem? (i := 735) (by decide +kernel), List.mem_of_getElem? (i := 1060) (by decide +kernel), List.mem_of_getElem? (i := 1061) (by decide +kernel)⟩
theorem lw_p41 : lw_okq (⟨"EarSchoolModel", "goingOn", "(IIIII)J"⟩, 38) := ⟨⟨by decide +kernel, by decide +kernel⟩, List.mem_of_getElem? (i := 735) (by decide +kernel), List.mem_of_getElem? (i := 1064) (by decide +kernel), List.mem_of_getElem? (i := 1065) (by decide +kernel)⟩
def lw_privs_3 : List (MethodName × Nat) := [(⟨"EarSchoolModel", "follows", "(III)Z"⟩, 38), (⟨"EarSchoolModel", "pitchOf", "(III)I"⟩, 38), (⟨"EarSchoolModel", "leastAt", "(IIII)I"⟩, 38), (⟨"EarSchoolModel", "by", "(IIIII)I"⟩, 38), (⟨"EarSchoolModel", "hitCost", "(III)I"⟩, 38), (⟨"EarSchoolModel", "moreCost", "(I)I"⟩, 38), (⟨"EarSchoolModel", "layAct", "(IIIII)V"⟩, 38), (⟨"EarSchoolModel", "weight", "(II)I"⟩, 38), (⟨"EarSchoolModel", "bestOn", "(IIII)J"⟩, 38), (⟨"EarSchoolModel", "goingOn", "(IIIII)J"⟩, 38)]
theorem lw_r3 : ∀ q ∈ lw_privs_3, lw_okq q := List.forall_mem_cons.mpr ⟨lw_p32, List.forall_mem_cons.mpr ⟨lw_p33, List.forall_mem_cons.mpr ⟨lw_p34, List.forall_mem_cons.mpr ⟨lw_p35, List.forall_mem_cons.mpr ⟨lw_p36, List.forall_mem_cons.mpr ⟨lw_p37, List.forall_mem_cons.mpr ⟨lw_p38, List.forall_mem_cons.mpr ⟨lw_p39, List.forall_mem_cons.mpr ⟨lw_p40, List.forall_mem_cons.mpr ⟨lw_p41, fun _ h => absurd h List.not_mem_nil⟩⟩⟩⟩⟩⟩⟩⟩⟩⟩
def lw_privs : List (MethodName × Nat) := lw_privs_1 ++ (lw_privs_2 ++ (lw_privs_3))
def lw_tbl : List Cond := k2_sels lw_privs ++ tables_1
theorem lw_privs_ok : ∀ q ∈ lw_privs, lw_okq q := by
  show ∀ q ∈ lw_privs_1 ++ (lw_privs_2 ++ (lw_privs_3)), lw_okq q
  exact List.forall_mem_append.mpr ⟨lw_r1, List.forall_mem_append.mpr ⟨lw_r2, lw_r3⟩⟩
/-! the classes whose objects the worlds hold, their fields in the order of the slots -/
def es_F0 : List (String × String × String × Bool) := [("EarSchool", "row", "LEarSchool$Notes;", true), ("EarSchool", "intended", "LEarSchool$Notes;", true), ("EarSchool", "rule", "LEarSchool$Rule;", true), ("EarSchool", "counts", "LEarSchool$CountTable;", true), ("EarSchool", "weights", "LEarSchool$WeightTable;", true), ("EarSchool", "metre", "LEarSchool$Metre;", true), ("EarSchool", "harmony", "LEarSchool$Harmony;", true), ("EarSchool", "judgement", "LEarSchool$Judgement;", true), ("EarSchool", "pupils", "LEarSchool$Pupils;", true)]
def es_T0 : u_T := fun k => es_F0.getD k ("", "I", "I", false)
def es_F1 : List (String × String × String × Bool) := [("EarSchool$Notes", "pitch", "[I", true), ("EarSchool$Notes", "length", "[I", true), ("EarSchool$Notes", "size", "I", false)]
def es_T1 : u_T := fun k => es_F1.getD k ("", "I", "I", false)
def es_F2 : List (String × String × String × Bool) := [("EarSchool$Rule", "bitsOf", "[I", true), ("EarSchool$Rule", "low", "I", false), ("EarSchool$Rule", "high", "I", false), ("EarSchool$Rule", "n", "I", false), ("EarSchool$Rule", "leap", "I", false), ("EarSchool$Rule", "repeats", "I", false)]
def es_T2 : u_T := fun k => es_F2.getD k ("", "I", "I", false)
def es_F3 : List (String × String × String × Bool) := [("EarSchool$MelodyTable", "rule", "LEarSchool$Rule;", true), ("EarSchool$MelodyTable", "worth", "[J", true), ("EarSchool$MelodyTable", "filled", "Z", false)]
def es_T3 : u_T := fun k => es_F3.getD k ("", "I", "I", false)
def es_F4 : List (String × String × String × Bool) := [("EarSchool$MelodyTable", "rule", "LEarSchool$Rule;", true), ("EarSchool$MelodyTable", "worth", "[J", true), ("EarSchool$MelodyTable", "filled", "Z", false), ("EarSchool$WeightTable", "weightOf", "[I", true)]
def es_T4 : u_T := fun k => es_F4.getD k ("", "I", "I", false)
def es_F5 : List (String × String × String × Bool) := [("EarSchool$Metre", "lengths", "[I", true), ("EarSchool$Metre", "size", "I", false), ("EarSchool$Metre", "many", "I", false), ("EarSchool$Metre", "beat", "I", false), ("EarSchool$Metre", "filled", "Z", false), ("EarSchool$Metre", "ways", "[J", true)]
def es_T5 : u_T := fun k => es_F5.getD k ("", "I", "I", false)
def es_F6 : List (String × String × String × Bool) := [("EarSchool$Harmony", "masks", "[I", true), ("EarSchool$Harmony", "lowest", "[I", true), ("EarSchool$Harmony", "size", "I", false), ("EarSchool$Harmony", "most", "I", false), ("EarSchool$Harmony", "filled", "Z", false), ("EarSchool$Harmony", "threes", "[I", true), ("EarSchool$Harmony", "pitches", "[I", true), ("EarSchool$Harmony", "ways", "[J", true)]
def es_T6 : u_T := fun k => es_F6.getD k ("", "I", "I", false)
def es_F7 : List (String × String × String × Bool) := [("EarSchool$Judgement", "meantNotes", "LEarSchool$Notes;", true), ("EarSchool$Judgement", "answer", "LEarSchool$Notes;", true), ("EarSchool$Judgement", "least", "[I", true), ("EarSchool$Judgement", "number", "[I", true), ("EarSchool$Judgement", "ofMeant", "[I", true), ("EarSchool$Judgement", "ofAnswer", "[I", true), ("EarSchool$Judgement", "cost", "[I", true), ("EarSchool$Judgement", "size", "I", false), ("EarSchool$Judgement", "sum", "I", false), ("EarSchool$Judgement", "standing", "Z", false)]
def es_T7 : u_T := fun k => es_F7.getD k ("", "I", "I", false)
def es_F8 : List (String × String × String × Bool) := [("EarSchool$Pupils", "asked", "[[I", true), ("EarSchool$Pupils", "missed", "[[I", true)]
def es_T8 : u_T := fun k => es_F8.getD k ("", "I", "I", false)
def es_F9 : List (String × String × String × Bool) := [("EarSchoolModel", "notes", "I", false), ("EarSchoolModel", "pitch", "[I", true), ("EarSchoolModel", "length", "[I", true), ("EarSchoolModel", "meantMany", "I", false), ("EarSchoolModel", "meantPitch", "[I", true), ("EarSchoolModel", "meantLength", "[I", true), ("EarSchoolModel", "isJudged", "Z", false), ("EarSchoolModel", "low", "I", false), ("EarSchoolModel", "high", "I", false), ("EarSchoolModel", "n", "I", false), ("EarSchoolModel", "scale", "I", false), ("EarSchoolModel", "begin", "I", false), ("EarSchoolModel", "end", "I", false), ("EarSchoolModel", "steps", "I", false), ("EarSchoolModel", "leap", "I", false), ("EarSchoolModel", "repeats", "I", false), ("EarSchoolModel", "bars", "I", false), ("EarSchoolModel", "beat", "I", false), ("EarSchoolModel", "isSome", "[Z", true), ("EarSchoolModel", "someMany", "I", false), ("EarSchoolModel", "masks", "I", false), ("EarSchoolModel", "mask", "[I", true), ("EarSchoolModel", "lowest", "[I", true), ("EarSchoolModel", "most", "I", false), ("EarSchoolModel", "asked", "[I", true), ("EarSchoolModel", "missed", "[I", true), ("EarSchoolModel", "ways", "[J", true), ("EarSchoolModel", "fills", "[J", true), ("EarSchoolModel", "threes", "[I", true), ("EarSchoolModel", "threeMany", "[I", true), ("EarSchoolModel", "chordWays", "[J", true), ("EarSchoolModel", "costs", "[I", true), ("EarSchoolModel", "acts", "I", false), ("EarSchoolModel", "actNumber", "[I", true), ("EarSchoolModel", "actMeant", "[I", true), ("EarSchoolModel", "actOwn", "[I", true), ("EarSchoolModel", "actCost", "[I", true), ("EarSchoolModel", "actShift", "[I", true)]
def es_T9 : u_T := fun k => es_F9.getD k ("", "I", "I", false)
def es_cl : List vw_C := [("EarSchool", es_T0, 9), ("EarSchool$Notes", es_T1, 3), ("EarSchool$Rule", es_T2, 6), ("EarSchool$CountTable", es_T3, 3), ("EarSchool$WeightTable", es_T4, 4), ("EarSchool$Metre", es_T5, 6), ("EarSchool$Harmony", es_T6, 8), ("EarSchool$Judgement", es_T7, 10), ("EarSchool$Pupils", es_T8, 2), ("EarSchoolModel", es_T9, 38)]
def es_ty (T : u_T) : Nat → FieldType := fun k => (parseFieldDescriptor (T k).2.2.1).getD .int
def es_clok (q : vw_C) : Prop := (∀ w ∈ u_ws q.1 q.2.1 q.2.2, w ∈ lw_tbl) ∧ (∀ k, k < q.2.2 → parseFieldDescriptor (q.2.1 k).2.2.1 = some (es_ty q.2.1 k)) ∧ (∀ a, a < q.2.2 → ∀ b, b < q.2.2 → a ≠ b → (q.2.1 a).2.1 ≠ (q.2.1 b).2.1)
theorem es_ok0 : es_clok ("EarSchool", es_T0, 9) := ⟨by decide +kernel, by decide +kernel, by decide +kernel⟩
theorem es_ok1 : es_clok ("EarSchool$Notes", es_T1, 3) := ⟨by decide +kernel, by decide +kernel, by decide +kernel⟩
theorem es_ok2 : es_clok ("EarSchool$Rule", es_T2, 6) := ⟨by decide +kernel, by decide +kernel, by decide +kernel⟩
theorem es_ok3 : es_clok ("EarSchool$CountTable", es_T3, 3) := ⟨by decide +kernel, by decide +kernel, by decide +kernel⟩
theorem es_ok4 : es_clok ("EarSchool$WeightTable", es_T4, 4) := ⟨by decide +kernel, by decide +kernel, by decide +kernel⟩
theorem es_ok5 : es_clok ("EarSchool$Metre", es_T5, 6) := ⟨by decide +kernel, by decide +kernel, by decide +kernel⟩
theorem es_ok6 : es_clok ("EarSchool$Harmony", es_T6, 8) := ⟨by decide +kernel, by decide +kernel, by decide +kernel⟩
theorem es_ok7 : es_clok ("EarSchool$Judgement", es_T7, 10) := ⟨by decide +kernel, by decide +kernel, by decide +kernel⟩
theorem es_ok8 : es_clok ("EarSchool$Pupils", es_T8, 2) := ⟨by decide +kernel, by decide +kernel, by decide +kernel⟩
theorem es_ok9 : es_clok ("EarSchoolModel", es_T9, 38) := ⟨by decide +kernel, by decide +kernel, by decide +kernel⟩
theorem es_cl_ok : ∀ (ci : Nat) (q : vw_C), es_cl[ci]? = some q → es_clok q := by
  intro ci q h
  have hm := List.mem_of_getElem? h
  simp only [es_cl, List.mem_cons, List.not_mem_nil, or_false] at hm
  rcases hm with rfl | rfl | rfl | rfl | rfl | rfl | rfl | rfl | rfl | rfl
  · exact es_ok0
  · exact es_ok1
  · exact es_ok2
  · exact es_ok3
  · exact es_ok4
  · exact es_ok5
  · exact es_ok6
  · exact es_ok7
  · exact es_ok8
  · exact es_ok9
/-! the private methods of the abstract class, chosen at either of its subclasses -/
def es_mp : List MethodName := [⟨"EarSchool$MelodyTable", "fillPitch", "(II)V"⟩, ⟨"EarSchool$MelodyTable", "fillStates", "(IIJ)V"⟩, ⟨"EarSchool$MelodyTable", "put", "(IIIJ)V"⟩, ⟨"EarSchool$MelodyTable", "index", "(III)I"⟩, ⟨"EarSchool$MelodyTable", "byStep", "(IIII)J"⟩]
def es_xs : List Cond := es_mp.map (fun y => Cond.selects "EarSchool$CountTable" y y) ++ es_mp.map (fun y => Cond.selects "EarSchool$WeightTable" y y)
def es_tbl : List Cond := es_xs ++ lw_tbl
theorem es_selp {y : MethodName} {C : String} {s : State} {args : Array Value} {n : Nat} {a b d : String} (hy : y.cls ≠ "java/lang/invoke/MethodHandle" ∧ y.cls ≠ "java/lang/invoke/VarHandle")
    (hins : (Cond.instantiable C n).before args s = true) (hsm : (Cond.sameMethod y.cls a b d).before args s = true) (hpriv : (Cond.privateMethod y).before args s = true) (hinst : (Cond.instanceMethod y).before args s = true) :
    (Cond.selects C y y).before args s = true := by
  obtain ⟨c, k, hc, hk, -, -, -, -⟩ := Cond.instantiable_spec hins
  obtain ⟨c2, k2, r2, hc2, hk2, hni2, -, -⟩ := Cond.sameMethod_found hsm
  obtain ⟨mk, methM, hnamed, hmethM, -, -⟩ := Cond.instanceMethod_spec hinst
  have hfound : s.methodFound? y.cls y.name y.desc = some mk := State.methodFound?_of_named hnamed hy
  have hcls : mk.cls = c2 := Option.some.inj ((findClass_of_methodNamed hnamed).symm.trans hc2)
  have hsel : selectMethod {} s.vm c mk = .method mk := selectMethod_private hmethM (Cond.privateMethod_at hpriv mk methM hnamed hmethM)
  simp only [Cond.before, Cond.holds, Cond.value, hc, hfound, hnamed, hsel, hcls, hk2]
  simp; exact hni2
theorem es_mp_ok : ∀ y ∈ es_mp, y.cls = "EarSchool$MelodyTable" ∧ Cond.privateMethod y ∈ lw_tbl ∧ Cond.instanceMethod y ∈ lw_tbl := by decide +kernel
theorem es_hts {args : Array Value} {s : State} (h : ∀ w ∈ lw_tbl, w.before args s = true) : ∀ w ∈ es_tbl, w.before args s = true := by
  have i1 := h (.instantiable "EarSchool$CountTable" 3) (by decide +kernel)
  have i2 := h (.instantiable "EarSchool$WeightTable" 4) (by decide +kernel)
  have sm := h (.sameMethod "EarSchool$MelodyTable" "EarSchool$MelodyTable" "ofNone" "()J") (by decide +kernel)
  intro w hw
  rcases List.mem_append.mp hw with hw | hw
  · rcases List.mem_append.mp hw with hw | hw
    · obtain ⟨y, hy, rfl⟩ := List.mem_map.mp hw
      obtain ⟨e, p1, p2⟩ := es_mp_ok y hy
      exact es_selp (by rw [e]; decide) i1 (by rw [e]; exact sm) (h _ p1) (h _ p2)
    · obtain ⟨y, hy, rfl⟩ := List.mem_map.mp hw
      obtain ⟨e, p1, p2⟩ := es_mp_ok y hy
      exact es_selp (by rw [e]; decide) i2 (by rw [e]; exact sm) (h _ p1) (h _ p2)
  · exact h w hw
theorem es_in {w : Cond} (h : w ∈ lw_tbl) : w ∈ es_tbl := List.mem_append_right _ h
def es_gt : List Cond := es_tbl.filter goodWord
theorem es_gt_in {w : Cond} (h : w ∈ es_tbl) (hg : goodWord w = true) : w ∈ es_gt := List.mem_filter.mpr ⟨h, hg⟩
theorem es_gt_good : ∀ w ∈ es_gt, (w.onTables && w.keeps) = true ∨ ∃ ty, w = .arrayClass ty := fun w h => good_of_word (List.mem_filter.mp h).2
theorem es_gt_hts {args : Array Value} {s : State} (h : ∀ w ∈ es_tbl, w.before args s = true) : ∀ w ∈ es_gt, w.before args s = true := fun w hw => h w (List.mem_filter.mp hw).1
def es_isN : Cond → Bool
  | .methodLinkNest .. => true
  | .declares _ => true
  | _ => false
/-- the words of nest mates and of abstract methods -/
def es_N (U : State) : Prop := ∀ w ∈ lw_tbl, es_isN w = true → va_Nw w U
theorem es_N.warm {s U : State} (hW : s.WarmedH U.vm) (h : es_N s) : es_N U := by
  intro w hw hi
  have h1 := h w hw hi
  cases w <;> first | exact va_Nw.warmM hW h1 | exact va_Nw.warmD hW h1 | exact absurd hi Bool.false_ne_true
theorem es_N.same {u U : State} (hv : u.vm = U.vm) (h : es_N u) : es_N U := by
  intro w hw hi
  have h1 := h w hw hi
  cases w <;> first | exact absurd hi Bool.false_ne_true | exact va_Nw.same rfl hv h1
theorem es_N.of {args : Array Value} {s : State} (h : ∀ w ∈ lw_tbl, w.before args s = true) : es_N s := by
  intro w hw hi
  have h1 := h w hw
  cases w <;> first | exact absurd hi Bool.false_ne_true | exact va_Nw.of rfl h1
end
section
abbrev am_v : Type := Int ⊕ (Int ⊕ Nat)
abbrev am_I : Type := Nat → Nat → Int
abbrev am_sh : Type := (Nat × List (Bool ⊕ Nat)) ⊕ (FieldType × Int × List Nat)
abbrev am_e : Type := Nat × Instr × Nat × Int × Nat
abbrev am_Y : Type := MethodName × ByteArray × Nat × Option FieldType × List am_e × List (Nat × Nat × Nat)
def ES : List am_sh := [
  .inl (0, [.inr 1, .inr 4, .inr 7, .inr 9, .inr 11, .inr 14, .inr 17, .inr 23, .inr 29]),
  .inl (1, [.inr 2, .inr 3, .inl false]),
  .inr (.int, 24, []),
  .inr (.int, 24, []),
  .inl (1, [.inr 5, .inr 6, .inl false]),
  .inr (.int, 24, []),
  .inr (.int, 24, []),
  .inl (2, [.inr 8, .inl false, .inl false, .inl false, .inl false, .inl false]),
  .inr (.int, 4, []),
  .inl (3, [.inr 7, .inr 10, .inl true]),
  .inr (.long, 10656, []),
  .inl (4, [.inr 7, .inr 12, .inl true, .inr 13]),
  .inr (.long, 10656, []),
  .inr (.int, 13, []),
  .inl (5, [.inr 15, .inl false, .inl false, .inl false, .inl true, .inr 16]),
  .inr (.int, 6, []),
  .inr (.long, 14425, []),
  .inl (6, [.inr 18, .inr 19, .inl false, .inl false, .inl true, .inr 20, .inr 21, .inr 22]),
  .inr (.int, 6, []),
  .inr (.int, 3, []),
  .inr (.int, 6, []),
  .inr (.int, 108, []),
  .inr (.long, 36, []),
  .inl (7, [.inr 4, .inr 1, .inr 24, .inr 25, .inr 26, .inr 27, .inr 28, .inl false, .inl false, .inl true]),
  .inr (.int, 15625, []),
  .inr (.int, 96, []),
  .inr (.int, 96, []),
  .inr (.int, 96, []),
  .inr (.int, 96, []),
  .inl (8, [.inr 30, .inr 37]),
  .inr (.array .int, 6, [31, 32, 33, 34, 35, 36]),
  .inr (.int, 13, []),
  .inr (.int, 13, []),
  .inr (.int, 13, []),
  .inr (.int, 13, []),
  .inr (.int, 13, []),
  .inr (.int, 13, []),
  .inr (.array .int, 6, [38, 39, 40, 41, 42, 43]),
  .inr (.int, 13, []),
  .inr (.int, 13, []),
  .inr (.int, 13, []),
  .inr (.int, 13, []),
  .inr (.int, 13, []),
  .inr (.int, 13, []),
  .inl (9, [.inl false, .inr 45, .inr 46, .inl false, .inr 47, .inr 48, .inl true, .inl false, .inl false, .inl false, .inl false, .inl false, .inl false, .inl false, .inl false, .inl false, .inl false, .inl false, .inr 49, .inl false, .inl false, .inr 50, .inr 51, .inl false, .inr 52, .inr 53, .inr 54, .inr 55, .inr 56, .inr 57, .inr 58, .inr 59, .inl false, .inr 60, .inr 61, .inr 62, .inr 63, .inr 64]),
  .inr (.int, 24, []),
  .inr (.int, 24, []),
  .inr (.int, 24, []),
  .inr (.int, 24, []),
  .inr (.boolean, 97, []),
  .inr (.int, 6, []),
  .inr (.int, 3, []),
  .inr (.int, 78, []),
  .inr (.int, 78, []),
  .inr (.long, 10656, []),
  .inr (.long, 14425, []),
  .inr (.int, 540, []),
  .inr (.int, 6, []),
  .inr (.long, 180, []),
  .inr (.int, 31250, []),
  .inr (.int, 100, []),
  .inr (.int, 100, []),
  .inr (.int, 100, []),
  .inr (.int, 100, []),
  .inr (.int, 100, [])]
def am_c (ad : Nat → Nat) (v : am_v) : Value := match v with
  | .inl x => .int (Int32.ofInt x)
  | .inr (.inl x) => .long (Int64.ofInt x)
  | .inr (.inr k) => .ref (ad k)
def am_fv (ad : Nat → Nat) (f : Nat → Int) : Nat → List (Bool ⊕ Nat) → List Value
  | _, [] => []
  | j, .inl _ :: l => .int (Int32.ofInt (f j)) :: am_fv ad f (j + 1) l
  | j, .inr r :: l => .ref (ad r) :: am_fv ad f (j + 1) l
def am_ar (ad : Nat → Nat) (ty : FieldType) (rs : List Nat) (f : Nat → Int) : (Nat → Int32) ⊕ (Nat → Int64) ⊕ (Nat → UInt32) ⊕ (Nat → UInt64) ⊕ (Nat → Option Nat) := match ty with
  | .long => .inr (.inl (fun i => Int64.ofInt (f i)))
  | .array _ => .inr (.inr (.inr (.inr (fun i => (rs[i]?).map ad))))
  | _ => .inl (fun i => Int32.ofInt (f i))
def am_cell (ad : Nat → Nat) (ca : Nat → ClassId) (I : am_I) (k : Nat) (x : am_sh) : Nat × va_E := match x with
  | .inl o => (ad k, .inr (o.1, am_fv ad (I k) 0 o.2))
  | .inr a => (ad k, .inl (ca k, a.2.1.toNat, am_ar ad a.1 a.2.2 (I k)))
def am_Wf (ad : Nat → Nat) (ca : Nat → ClassId) (I : am_I) : Nat → List am_sh → va_W
  | _, [] => []
  | k, x :: l => am_cell ad ca I k x :: am_Wf ad ca I (k + 1) l
def am_W (ad : Nat → Nat) (ca : Nat → ClassId) (I : am_I) : va_W := am_Wf ad ca I 0 ES
def am_up (f : Nat → Int) (j : Nat) (x : Int) : Nat → Int := fun b => if b = j then x else f b
def am_u (I : am_I) (k j : Nat) (x : Int) : am_I := fun a => if a = k then am_up (I k) j x else I a
theorem am_up_eq (f : Nat → Int) (j : Nat) (x : Int) : am_up f j x j = x := if_pos rfl
theorem am_up_ne {f : Nat → Int} {j b : Nat} {x : Int} (h : b ≠ j) : am_up f j x b = f b := if_neg h
theorem am_u_eq (I : am_I) (k j : Nat) (x : Int) : am_u I k j x k = am_up (I k) j x := if_pos rfl
theorem am_u_ne {I : am_I} {k j a : Nat} {x : Int} (h : a ≠ k) : am_u I k j x a = I a := if_neg h
def am_nth {α : Type} : List α → Nat → Option α
  | [], _ => none
  | x :: _, 0 => some x
  | _ :: l, n + 1 => am_nth l n
theorem am_nth_eq {α : Type} : ∀ (l : List α) (n : Nat), am_nth l n = l[n]?
  | [], n => by simp [am_nth]
  | x :: l, 0 => by simp [am_nth]
  | x :: l, n + 1 => by simp only [am_nth, List.getElem?_cons_succ]; exact am_nth_eq l n
theorem am_Wf_get (ad : Nat → Nat) (ca : Nat → ClassId) (I : am_I) : ∀ (l : List am_sh) (k i : Nat), (am_Wf ad ca I k l)[i]? = (l[i]?).map (am_cell ad ca I (k + i))
  | [], k, i => by simp [am_Wf]
  | x :: l, k, 0 => by simp [am_Wf]
  | x :: l, k, i + 1 => by
    simp only [am_Wf, List.getElem?_cons_succ]
    rw [am_Wf_get ad ca I l (k + 1) i, show k + 1 + i = k + (i + 1) by omega]
theorem am_W_get (ad : Nat → Nat) (ca : Nat → ClassId) (I : am_I) (i : Nat) : (am_W ad ca I)[i]? = (ES[i]?).map (am_cell ad ca I i) := by
  unfold am_W
  rw [am_Wf_get, Nat.zero_add]
theorem am_W_at {ad : Nat → Nat} {ca : Nat → ClassId} (I : am_I) {k : Nat} {x : am_sh} (h : am_nth ES k = some x) : (am_W ad ca I)[k]? = some (am_cell ad ca I k x) := by
  rw [am_W_get, ← am_nth_eq, h]; rfl
theorem am_cell_congr {ad : Nat → Nat} {ca : Nat → ClassId} {I I' : am_I} {k : Nat} (x : am_sh) (h : I' k = I k) : am_cell ad ca I' k x = am_cell ad ca I k x := by
  unfold am_cell; rw [h]
theorem am_W_put {ad : Nat → Nat} {ca : Nat → ClassId} {I I' : am_I} {k : Nat} {x : am_sh} (h : am_nth ES k = some x) (hI : ∀ a, a ≠ k → I' a = I a) : (am_W ad ca I).set k (am_cell ad ca I' k x) = am_W ad ca I' := by
  rw [am_nth_eq] at h
  apply List.ext_getElem?
  intro i
  by_cases e : i = k
  · subst e
    have hl : i < (am_W ad ca I).length := by
      have h1 : (am_W ad ca I)[i]? = some (am_cell ad ca I i x) := by rw [am_W_get, h]; rfl
      exact (List.getElem?_eq_some_iff.mp h1).1
    rw [List.getElem?_set_self hl, am_W_get, h]; rfl
  · rw [List.getElem?_set_ne (Ne.symm e), am_W_get, am_W_get]
    cases ES[i]? with
    | none => rfl
    | some y => show some _ = some _; rw [am_cell_congr y (hI i e)]
theorem am_fv_get (ad : Nat → Nat) (f : Nat → Int) : ∀ (l : List (Bool ⊕ Nat)) (j i : Nat), (am_fv ad f j l)[i]? = (l[i]?).map (fun x => match x with | .inl _ => Value.int (Int32.ofInt (f (j + i))) | .inr r => Value.ref (ad r))
  | [], j, i => by simp [am_fv]
  | .inl b :: l, j, 0 => by simp [am_fv]
  | .inr b :: l, j, 0 => by simp [am_fv]
  | .inl b :: l, j, i + 1 => by
    simp only [am_fv, List.getElem?_cons_succ]
    rw [am_fv_get ad f l (j + 1) i, show j + 1 + i = j + (i + 1) by omega]
  | .inr b :: l, j, i + 1 => by
    simp only [am_fv, List.getElem?_cons_succ]
    rw [am_fv_get ad f l (j + 1) i, show j + 1 + i = j + (i + 1) by omega]
theorem am_fv_len (ad : Nat → Nat) (f : Nat → Int) : ∀ (l : List (Bool ⊕ Nat)) (j : Nat), (am_fv ad f j l).length = l.length
  | [], j => rfl
  | .inl b :: l, j => by simp [am_fv, am_fv_len ad f l (j + 1)]
  | .inr b :: l, j => by simp [am_fv, am_fv_len ad f l (j + 1)]
theorem am_fv_set {ad : Nat → Nat} {f : Nat → Int} {l : List (Bool ⊕ Nat)} {i : Nat} {b : Bool} (x : Int) (h : l[i]? = some (.inl b)) : (am_fv ad f 0 l).set i (.int (Int32.ofInt x)) = am_fv ad (am_up f i x) 0 l := by
  apply List.ext_getElem?
  intro k
  have hl : i < (am_fv ad f 0 l).length := by rw [am_fv_len]; exact (List.getElem?_eq_some_iff.mp h).1
  by_cases e : k = i
  · subst e
    rw [List.getElem?_set_self hl, am_fv_get, h]
    simp [am_up]
  · rw [List.getElem?_set_ne (Ne.symm e), am_fv_get, am_fv_get]
    cases l[k]? with
    | none => rfl
    | some y =>
      cases y with
      | inl b => simp only [Option.map_some, Nat.zero_add]; rw [am_up_ne e]
      | inr r => rfl
def am_wide (v : am_v) : Bool := match v with
  | .inr (.inl _) => true
  | _ => false
theorem am_wide_cat (ad : Nat → Nat) (v : am_v) : (am_c ad v).category = if am_wide v then 2 else 1 := by
  rcases v with x | x | x <;> rfl
def am_cf (i : Nat) (w : Bool) (q : Nat × am_v) : Bool := match Nat.beq q.1 i with
  | true => true
  | false => match w && Nat.beq q.1 (i + 1) with
    | true => true
    | false => Nat.beq (q.1 + 1) i && am_wide q.2
def am_flt {α : Type} : List (Nat × am_v) → Nat → Bool → (List (Nat × am_v) → α) → α
  | [], _, _, k => k []
  | q :: l, i, w, k => match am_cf i w q with
    | true => am_flt l i w k
    | false => am_flt l i w (fun l' => k (q :: l'))
def am_ins {α : Type} : List (Nat × am_v) → Nat → am_v → (List (Nat × am_v) → α) → α
  | [], i, v, k => k [(i, v)]
  | q :: l, i, v, k => match Nat.ble i q.1 with
    | true => k ((i, v) :: q :: l)
    | false => am_ins l i v (fun l' => k (q :: l'))
def am_set {α : Type} (lv : List (Nat × am_v)) (i : Nat) (v : am_v) (k : List (Nat × am_v) → α) : α := am_flt lv i (am_wide v) (fun l => am_ins l i v k)
theorem am_flt_eq {α : Type} (i : Nat) (w : Bool) : ∀ (l : List (Nat × am_v)) (k : List (Nat × am_v) → α), ∃ l', am_flt l i w k = k l' ∧ ∀ q ∈ l', q ∈ l ∧ am_cf i w q = false
  | [], k => ⟨[], rfl, fun q h => by cases h⟩
  | q :: l, k => by
    unfold am_flt
    cases hc : am_cf i w q with
    | true =>
      obtain ⟨l', h1, h2⟩ := am_flt_eq i w l k
      exact ⟨l', h1, fun z hz => ⟨List.mem_cons_of_mem _ (h2 z hz).1, (h2 z hz).2⟩⟩
    | false =>
      obtain ⟨l', h1, h2⟩ := am_flt_eq i w l (fun l' => k (q :: l'))
      refine ⟨q :: l', h1, fun z hz => ?_⟩
      rcases List.mem_cons.mp hz with rfl | hz
      · exact ⟨List.mem_cons_self, hc⟩
      · exact ⟨List.mem_cons_of_mem _ (h2 z hz).1, (h2 z hz).2⟩
theorem am_ins_eq {α : Type} (i : Nat) (v : am_v) : ∀ (l : List (Nat × am_v)) (k : List (Nat × am_v) → α), ∃ l', am_ins l i v k = k l' ∧ ∀ q ∈ l', q = (i, v) ∨ q ∈ l
  | [], k => ⟨[(i, v)], rfl, fun q h => by rcases List.mem_cons.mp h with h | h; exact Or.inl h; cases h⟩
  | q :: l, k => by
    unfold am_ins
    cases hc : Nat.ble i q.1 with
    | true =>
      refine ⟨(i, v) :: q :: l, rfl, fun z hz => ?_⟩
      rcases List.mem_cons.mp hz with rfl | hz
      · exact Or.inl rfl
      · exact Or.inr hz
    | false =>
      obtain ⟨l', h1, h2⟩ := am_ins_eq i v l (fun l' => k (q :: l'))
      refine ⟨q :: l', h1, fun z hz => ?_⟩
      rcases List.mem_cons.mp hz with rfl | hz
      · exact Or.inr List.mem_cons_self
      · rcases h2 z hz with h | h
        · exact Or.inl h
        · exact Or.inr (List.mem_cons_of_mem _ h)
theorem am_set_eq {α : Type} (lv : List (Nat × am_v)) (i : Nat) (v : am_v) (k : List (Nat × am_v) → α) : ∃ l', am_set lv i v k = k l' ∧ ∀ q ∈ l', q = (i, v) ∨ (q ∈ lv ∧ am_cf i (am_wide v) q = false) := by
  obtain ⟨l1, e1, m1⟩ := am_flt_eq i (am_wide v) lv (fun l => am_ins l i v k)
  obtain ⟨l2, e2, m2⟩ := am_ins_eq i v l1 k
  refine ⟨l2, e1.trans e2, fun q hq => ?_⟩
  rcases m2 q hq with h | h
  · exact Or.inl h
  · exact Or.inr (m1 q h)
def am_lk : List (Nat × am_v) → Nat → Option am_v
  | [], _ => none
  | q :: l, i => match Nat.beq q.1 i with
    | true => some q.2
    | false => am_lk l i
theorem am_lk_mem : ∀ {l : List (Nat × am_v)} {i : Nat} {v : am_v}, am_lk l i = some v → (i, v) ∈ l
  | q :: l, i, v, h => by
    unfold am_lk at h
    cases hc : Nat.beq q.1 i with
    | true =>
      rw [hc] at h
      cases h
      have := Nat.eq_of_beq_eq_true hc
      subst this
      exact List.mem_cons_self
    | false =>
      rw [hc] at h
      exact List.mem_cons_of_mem _ (am_lk_mem h)
def am_cl (ad : Nat → Nat) (lv : List (Nat × am_v)) : List (Nat × Value) := lv.map (fun q => (q.1, am_c ad q.2))
theorem am_lv_get {ls : Array Slot} {nL : Nat} {ad : Nat → Nat} {lv : List (Nat × am_v)} {i : Nat} {v : am_v} (h : lv_has ls nL (am_cl ad lv)) (hk : am_lk lv i = some v) : ls[i]? = some (.val (am_c ad v)) :=
  h.2.2 (i, am_c ad v) (List.mem_map.mpr ⟨(i, v), am_lk_mem hk, rfl⟩)
theorem am_lv_set1 {ls : Array Slot} {nL : Nat} {ad : Nat → Nat} {lv l' : List (Nat × am_v)} {i : Nat} {v : am_v} (hw : am_wide v = false) (hm : ∀ q ∈ l', q = (i, v) ∨ (q ∈ lv ∧ am_cf i (am_wide v) q = false))
    (h : lv_has ls nL ((i, am_c ad v) :: (am_cl ad lv).filter (fun q => !(q.1 == i) && !(q.1 + 1 == i && q.2.category == 2)))) : lv_has ls nL (am_cl ad l') := by
  refine ⟨h.1, h.2.1, fun q hq => h.2.2 q ?_⟩
  obtain ⟨z, hz, rfl⟩ := List.mem_map.mp hq
  rcases hm z hz with rfl | ⟨h1, h2⟩
  · exact List.mem_cons_self
  · refine List.mem_cons_of_mem _ (List.mem_filter.mpr ⟨List.mem_map.mpr ⟨z, h1, rfl⟩, ?_⟩)
    simp only [am_cf] at h2
    cases e1 : Nat.beq z.1 i with
    | true => rw [e1] at h2; cases h2
    | false =>
      rw [e1] at h2
      rw [hw] at h2
      simp only [Bool.false_and] at h2
      have n1 : ¬ z.1 = i := fun q => by rw [q, Nat.beq_refl] at e1; cases e1
      show (!(z.1 == i) && !(z.1 + 1 == i && (am_c ad z.2).category == 2)) = true
      rw [am_wide_cat]
      by_cases e2 : z.1 + 1 = i
      · rw [e2, Nat.beq_refl, Bool.true_and] at h2
        simp [n1, h2]
      · simp [n1, e2]
theorem am_lv_set2 {ls : Array Slot} {nL : Nat} {ad : Nat → Nat} {lv l' : List (Nat × am_v)} {i : Nat} {v : am_v} (hw : am_wide v = true) (hm : ∀ q ∈ l', q = (i, v) ∨ (q ∈ lv ∧ am_cf i (am_wide v) q = false))
    (h : lv_has ls nL ((i, am_c ad v) :: (am_cl ad lv).filter (fun q => !(q.1 == i) && (!(q.1 == i + 1) && !(q.1 + 1 == i && q.2.category == 2))))) : lv_has ls nL (am_cl ad l') := by
  refine ⟨h.1, h.2.1, fun q hq => h.2.2 q ?_⟩
  obtain ⟨z, hz, rfl⟩ := List.mem_map.mp hq
  rcases hm z hz with rfl | ⟨h1, h2⟩
  · exact List.mem_cons_self
  · refine List.mem_cons_of_mem _ (List.mem_filter.mpr ⟨List.mem_map.mpr ⟨z, h1, rfl⟩, ?_⟩)
    simp only [am_cf] at h2
    cases e1 : Nat.beq z.1 i with
    | true => rw [e1] at h2; cases h2
    | false =>
      rw [e1] at h2
      rw [hw] at h2
      simp only [Bool.true_and] at h2
      cases e3 : Nat.beq z.1 (i + 1) with
      | true => rw [e3] at h2; cases h2
      | false =>
        rw [e3] at h2
        have n1 : ¬ z.1 = i := fun q => by rw [q, Nat.beq_refl] at e1; cases e1
        have n3 : ¬ z.1 = i + 1 := fun q => by rw [q, Nat.beq_refl] at e3; cases e3
        show (!(z.1 == i) && (!(z.1 == i + 1) && !(z.1 + 1 == i && (am_c ad z.2).category == 2))) = true
        rw [am_wide_cat]
        by_cases e2 : z.1 + 1 = i
        · simp only [e2, Nat.beq_refl, Bool.true_and] at h2
          simp [n1, n3, h2]
        · simp [n1, n3, e2]
def am_and (x y : Int) : Int := (Int32.ofInt x &&& Int32.ofInt y).toInt
def am_or (x y : Int) : Int := (Int32.ofInt x ||| Int32.ofInt y).toInt
def am_shl (x y : Int) : Int := (Int32.ofInt x <<< (Int32.ofInt y &&& 31)).toInt
def am_shr (x y : Int) : Int := (Int32.ofInt x >>> (Int32.ofInt y &&& 31)).toInt
def am_ushr (x y : Int) : Int := ((Int32.ofInt x).toUInt32 >>> ((Int32.ofInt y).toUInt32 &&& Int32.toUInt32 31)).toInt32.toInt
def am_landL (x y : Int) : Int := (Int64.ofInt x &&& Int64.ofInt y).toInt
def am_lorL (x y : Int) : Int := (Int64.ofInt x ||| Int64.ofInt y).toInt
def am_lshlL (x y : Int) : Int := (Int64.ofInt x <<< ((Int32.ofInt y).toInt64 &&& 63)).toInt
theorem am_of (z : Int32) : Int32.ofInt z.toInt = z := Int32.ofInt_toInt z
theorem am_ofL (z : Int64) : Int64.ofInt z.toInt = z := Int64.ofInt_toInt z
abbrev am_R : Type := Option (Option Prop × Nat × List (Nat × am_v) × List am_v × am_I)
def am_fs : List (Nat × Nat × Nat) → Nat → Nat → Option Nat
  | [], _, _ => none
  | (a, b, c) :: l, idx, ci => match Nat.beq a idx with
    | true => match Nat.beq b ci with
      | true => some c
      | false => am_fs l idx ci
    | false => am_fs l idx ci
theorem am_fs_mem : ∀ {l : List (Nat × Nat × Nat)} {idx ci j : Nat}, am_fs l idx ci = some j → (idx, ci, j) ∈ l
  | (a, b, c) :: l, idx, ci, j, h => by
    unfold am_fs at h
    cases h1 : Nat.beq a idx with
    | true =>
      rw [h1] at h
      cases h2 : Nat.beq b ci with
      | true =>
        rw [h2] at h
        cases h
        have e1 := Nat.eq_of_beq_eq_true h1
        have e2 := Nat.eq_of_beq_eq_true h2
        subst e1; subst e2
        exact List.mem_cons_self
      | false => rw [h2] at h; exact List.mem_cons_of_mem _ (am_fs_mem h)
    | false => rw [h1] at h; exact List.mem_cons_of_mem _ (am_fs_mem h)
def am_ii (st : List am_v) (k : Int → Int → List am_v → am_R) : am_R := match st with
  | .inl y :: .inl x :: r => k x y r
  | _ => none
def am_i1 (st : List am_v) (k : Int → List am_v → am_R) : am_R := match st with
  | .inl x :: r => k x r
  | _ => none
def am_l1 (st : List am_v) (k : Int → List am_v → am_R) : am_R := match st with
  | .inr (.inl x) :: r => k x r
  | _ => none
def am_ll (st : List am_v) (k : Int → Int → List am_v → am_R) : am_R := match st with
  | .inr (.inl y) :: .inr (.inl x) :: r => k x y r
  | _ => none
def am_ai (st : List am_v) (k : Nat → Int → List am_v → am_R) : am_R := match st with
  | .inl i :: .inr (.inr a) :: r => k a i r
  | _ => none
def am_ldi (lv : List (Nat × am_v)) (i : Nat) (k : Int → am_R) : am_R := match am_lk lv i with
  | some (.inl x) => k x
  | _ => none
def am_ldl (lv : List (Nat × am_v)) (i : Nat) (k : Int → am_R) : am_R := match am_lk lv i with
  | some (.inr (.inl x)) => k x
  | _ => none
def am_lda (lv : List (Nat × am_v)) (i : Nat) (k : Nat → am_R) : am_R := match am_lk lv i with
  | some (.inr (.inr x)) => k x
  | _ => none
def am_ob (a : Nat) (k : Nat → List (Bool ⊕ Nat) → am_R) : am_R := match am_nth ES a with
  | some (.inl o) => k o.1 o.2
  | _ => none
def am_arr (a : Nat) (k : FieldType → Int → List Nat → am_R) : am_R := match am_nth ES a with
  | some (.inr (ty, n, rs)) => k ty n rs
  | _ => none
def am_fsk (fl : List (Nat × Nat × Nat)) (idx ci : Nat) (k : Nat → am_R) : am_R := match am_fs fl idx ci with
  | some j => k j
  | none => none
def am_gf (fs : List (Bool ⊕ Nat)) (j : Nat) (k1 : Bool → am_R) (k2 : Nat → am_R) : am_R := match am_nth fs j with
  | some (.inl b) => k1 b
  | some (.inr r) => k2 r
  | none => none
def am_isI (ty : FieldType) (k : am_R) : am_R := match ty with
  | .int => k
  | _ => none
def am_isL (ty : FieldType) (k : am_R) : am_R := match ty with
  | .long => k
  | _ => none
def am_isZ (ty : FieldType) (k : am_R) : am_R := match ty with
  | .boolean => k
  | _ => none
def am_isA (ty : FieldType) (k : am_R) : am_R := match ty with
  | .array .int => k
  | _ => none
def am_nk (rs : List Nat) (i : Nat) (k : Nat → am_R) : am_R := match am_nth rs i with
  | some q => k q
  | none => none
def am_ex (fl : List (Nat × Nat × Nat)) (ins : Instr) (nx : Nat) (ax : Int) (tg : Nat) (lv : List (Nat × am_v)) (st : List am_v) (I : am_I) : am_R := match ins with
  | .iconst _ => some (none, nx, lv, .inl ax :: st, I)
  | .bipush _ => some (none, nx, lv, .inl ax :: st, I)
  | .sipush _ => some (none, nx, lv, .inl ax :: st, I)
  | .ldc _ => some (none, nx, lv, .inl ax :: st, I)
  | .ldc_w _ => some (none, nx, lv, .inl ax :: st, I)
  | .lconst _ => some (none, nx, lv, .inr (.inl ax) :: st, I)
  | .ldc2_w _ => some (none, nx, lv, .inr (.inl ax) :: st, I)
  | .iload _ => am_ldi lv tg (fun x => some (none, nx, lv, .inl x :: st, I))
  | .iload_n _ => am_ldi lv tg (fun x => some (none, nx, lv, .inl x :: st, I))
  | .lload _ => am_ldl lv tg (fun x => some (none, nx, lv, .inr (.inl x) :: st, I))
  | .lload_n _ => am_ldl lv tg (fun x => some (none, nx, lv, .inr (.inl x) :: st, I))
  | .aload _ => am_lda lv tg (fun x => some (none, nx, lv, .inr (.inr x) :: st, I))
  | .aload_n _ => am_lda lv tg (fun x => some (none, nx, lv, .inr (.inr x) :: st, I))
  | .istore _ => am_i1 st (fun x r => am_set lv tg (.inl x) (fun l' => some (none, nx, l', r, I)))
  | .istore_n _ => am_i1 st (fun x r => am_set lv tg (.inl x) (fun l' => some (none, nx, l', r, I)))
  | .lstore _ => am_l1 st (fun x r => am_set lv tg (.inr (.inl x)) (fun l' => some (none, nx, l', r, I)))
  | .lstore_n _ => am_l1 st (fun x r => am_set lv tg (.inr (.inl x)) (fun l' => some (none, nx, l', r, I)))
  | .iinc _ _ => am_ldi lv tg (fun x => am_set lv tg (.inl (x + ax)) (fun l' => some (none, nx, l', st, I)))
  | .iadd => am_ii st (fun x y r => some (none, nx, lv, .inl (x + y) :: r, I))
  | .isub => am_ii st (fun x y r => some (none, nx, lv, .inl (x - y) :: r, I))
  | .imul => am_ii st (fun x y r => some (none, nx, lv, .inl (x * y) :: r, I))
  | .idiv => am_ii st (fun x y r => some (some ((0 ≤ x ∧ x < 2147483648) ∧ (0 < y ∧ y < 2147483648)), nx, lv, .inl (x / y) :: r, I))
  | .irem => am_ii st (fun x y r => some (some ((0 ≤ x ∧ x < 2147483648) ∧ (0 < y ∧ y < 2147483648)), nx, lv, .inl (x % y) :: r, I))
  | .ineg => am_i1 st (fun x r => some (none, nx, lv, .inl (-x) :: r, I))
  | .iand => am_ii st (fun x y r => some (none, nx, lv, .inl (am_and x y) :: r, I))
  | .ior => am_ii st (fun x y r => some (none, nx, lv, .inl (am_or x y) :: r, I))
  | .ishl => am_ii st (fun x y r => some (none, nx, lv, .inl (am_shl x y) :: r, I))
  | .ishr => am_ii st (fun x y r => some (none, nx, lv, .inl (am_shr x y) :: r, I))
  | .iushr => am_ii st (fun x y r => some (none, nx, lv, .inl (am_ushr x y) :: r, I))
  | .ladd => am_ll st (fun x y r => some (none, nx, lv, .inr (.inl (x + y)) :: r, I))
  | .lsub => am_ll st (fun x y r => some (none, nx, lv, .inr (.inl (x - y)) :: r, I))
  | .i2l => am_i1 st (fun x r => some (some (-2147483648 ≤ x ∧ x < 2147483648), nx, lv, .inr (.inl x) :: r, I))
  | .l2i => am_l1 st (fun x r => some (none, nx, lv, .inl x :: r, I))
  | .dup => match st with
    | .inl x :: r => some (none, nx, lv, .inl x :: .inl x :: r, I)
    | .inr (.inr x) :: r => some (none, nx, lv, .inr (.inr x) :: .inr (.inr x) :: r, I)
    | _ => none
  | .dup2 => am_ai st (fun a i r => some (none, nx, lv, .inl i :: .inr (.inr a) :: .inl i :: .inr (.inr a) :: r, I))
  | .goto _ => some (none, tg, lv, st, I)
  | .getfield idx => match st with
    | .inr (.inr a) :: r => am_ob a (fun ci fs => am_fsk fl idx ci (fun j => am_gf fs j (fun _ => some (none, nx, lv, .inl (I a j) :: r, I)) (fun q => some (none, nx, lv, .inr (.inr q) :: r, I))))
    | _ => none
  | .putfield idx => match st with
    | .inl x :: .inr (.inr a) :: r => am_ob a (fun ci fs => am_fsk fl idx ci (fun j => am_gf fs j (fun b => match b with
      | false => some (none, nx, lv, r, am_u I a j x)
      | true => some (some (x = 0 ∨ x = 1), nx, lv, r, am_u I a j x)) (fun _ => none)))
    | _ => none
  | .iaload => am_ai st (fun a i r => am_arr a (fun ty n _ => am_isI ty (some (some (0 ≤ i ∧ i < n), nx, lv, .inl (I a i.toNat) :: r, I))))
  | .laload => am_ai st (fun a i r => am_arr a (fun ty n _ => am_isL ty (some (some (0 ≤ i ∧ i < n), nx, lv, .inr (.inl (I a i.toNat)) :: r, I))))
  | .baload => am_ai st (fun a i r => am_arr a (fun ty n _ => am_isZ ty (some (some (0 ≤ i ∧ i < n), nx, lv, .inl (I a i.toNat) :: r, I))))
  | .aaload => am_ai st (fun a i r => am_arr a (fun ty n rs => am_isA ty (am_nk rs i.toNat (fun q => some (some (0 ≤ i ∧ i < n), nx, lv, .inr (.inr q) :: r, I)))))
  | .iastore => match st with
    | .inl x :: .inl i :: .inr (.inr a) :: r => am_arr a (fun ty n _ => am_isI ty (some (some (0 ≤ i ∧ i < n), nx, lv, r, am_u I a i.toNat x)))
    | _ => none
  | .bastore => match st with
    | .inl x :: .inl i :: .inr (.inr a) :: r => am_arr a (fun ty n _ => am_isZ ty (some (some ((0 ≤ i ∧ i < n) ∧ (x = 0 ∨ x = 1)), nx, lv, r, am_u I a i.toNat x)))
    | _ => none
  | .lastore => match st with
    | .inr (.inl x) :: .inl i :: .inr (.inr a) :: r => am_arr a (fun ty n _ => am_isL ty (some (some (0 ≤ i ∧ i < n), nx, lv, r, am_u I a i.toNat x)))
    | _ => none
  | .arraylength => match st with
    | .inr (.inr a) :: r => am_arr a (fun _ n _ => some (none, nx, lv, .inl n :: r, I))
    | _ => none
  | _ => none
def am_at : List am_e → Nat → Option (Instr × Nat × Int × Nat)
  | [], _ => none
  | e :: l, pc => match Nat.beq e.1 pc with
    | true => some e.2
    | false => am_at l pc
theorem am_at_mem : ∀ {l : List am_e} {pc : Nat} {q : Instr × Nat × Int × Nat}, am_at l pc = some q → (pc, q) ∈ l
  | e :: l, pc, q, h => by
    unfold am_at at h
    cases h1 : Nat.beq e.1 pc with
    | true =>
      rw [h1] at h
      cases h
      have e1 := Nat.eq_of_beq_eq_true h1
      subst e1
      exact List.mem_cons_self
    | false => rw [h1] at h; exact List.mem_cons_of_mem _ (am_at_mem h)
def am_step (y : am_Y) (pc : Nat) (lv : List (Nat × am_v)) (st : List am_v) (I : am_I) : am_R := match am_at y.2.2.2.2.1 pc with
  | none => none
  | some (ins, nx, ax, tg) => am_ex y.2.2.2.2.2 ins nx ax tg lv st I
def am_mem (n : Nat) : List Nat → Bool
  | [] => false
  | a :: l => match Nat.beq a n with
    | true => true
    | false => am_mem n l
def am_run : Nat → List Nat → am_Y → Nat → List (Nat × am_v) → List am_v → am_I → am_R
  | 0, _, _, pc, lv, st, I => some (none, pc, lv, st, I)
  | n + 1, ss, y, pc, lv, st, I => match am_step y pc lv st I with
    | none => some (none, pc, lv, st, I)
    | some (P, pc', lv', st', I') => match am_mem pc' ss with
      | true => some (P, pc', lv', st', I')
      | false => match am_run n ss y pc' lv' st' I' with
        | none => none
        | some (Q, c) => match P with
          | none => some (Q, c)
          | some p => match Q with
            | none => some (some p, c)
            | some q => some (some (p ∧ q), c)
def am_p (P : Option Prop) : Prop := match P with
  | none => True
  | some p => p
def am_cnd (o : ClassFile.Cond) (x y : Int) : Prop := match o with
  | .eq => x = y
  | .ne => ¬ x = y
  | .lt => x < y
  | .ge => y ≤ x
  | .gt => y < x
  | .le => x ≤ y
end
section
def am_len (ins : Instr) : Nat := match ins with
  | .bipush _ => 2
  | .sipush _ => 3
  | .ldc _ => 2
  | .ldc_w _ => 3
  | .ldc2_w _ => 3
  | .iload _ => 2
  | .lload _ => 2
  | .aload _ => 2
  | .istore _ => 2
  | .lstore _ => 2
  | .astore _ => 2
  | .iinc _ _ => 3
  | .goto _ => 3
  | .getfield _ => 3
  | .putfield _ => 3
  | .invokevirtual _ => 3
  | .invokestatic _ => 3
  | .invokespecial _ => 3
  | .new _ => 3
  | .if_icmp _ _ => 3
  | .ifCond _ _ => 3
  | _ => 1
def am_wd (i : Nat) (w : Jvm.Cond) : Bool := match am_nth es_tbl i with
  | some v => decide (v = w) && goodWord w
  | none => false
theorem am_wd_in (i : Nat) {w : Jvm.Cond} (h : am_wd i w = true) : w ∈ es_gt := by
  unfold am_wd at h
  split at h
  · rename_i v hv
    simp only [Bool.and_eq_true, decide_eq_true_eq] at h
    rw [am_nth_eq] at hv
    obtain ⟨rfl, hg⟩ := h
    exact es_gt_in (List.mem_of_getElem? hv) hg
  · cases h
def am_vx (own : String) (mL : Nat) (e : am_e) : Bool := match e.2.1 with
  | .iconst n => decide (Int32.ofInt n = Int32.ofInt e.2.2.2.1)
  | .bipush n => decide ((Int8.ofInt n).toInt32 = Int32.ofInt e.2.2.2.1)
  | .sipush n => decide ((Int16.ofInt n).toInt32 = Int32.ofInt e.2.2.2.1)
  | .ldc i => am_wd e.2.2.2.2 (.constant own i (Int32.ofInt e.2.2.2.1))
  | .ldc_w i => am_wd e.2.2.2.2 (.constant own i (Int32.ofInt e.2.2.2.1))
  | .ldc2_w i => am_wd e.2.2.2.2 (.constantLong own i (Int64.ofInt e.2.2.2.1))
  | .lconst n => decide (Int64.ofNat (n : Nat) = Int64.ofInt e.2.2.2.1)
  | .iload i => decide (i = e.2.2.2.2)
  | .lload i => decide (i = e.2.2.2.2)
  | .aload i => decide (i = e.2.2.2.2)
  | .iload_n i => decide ((i : Nat) = e.2.2.2.2)
  | .lload_n i => decide ((i : Nat) = e.2.2.2.2)
  | .aload_n i => decide ((i : Nat) = e.2.2.2.2)
  | .istore i => decide (i = e.2.2.2.2 ∧ i < mL)
  | .istore_n i => decide ((i : Nat) = e.2.2.2.2 ∧ (i : Nat) < mL)
  | .lstore i => decide (i = e.2.2.2.2 ∧ i + 1 < mL)
  | .lstore_n i => decide ((i : Nat) = e.2.2.2.2 ∧ (i : Nat) + 1 < mL)
  | .iinc i n => decide ((i = e.2.2.2.2 ∧ i < mL) ∧ Int32.ofInt n = Int32.ofInt e.2.2.2.1)
  | .goto o => decide ((e.1 : Int) + o = (e.2.2.2.2 : Int))
  | .if_icmp _ o => decide ((e.1 : Int) + o = (e.2.2.2.2 : Int))
  | .ifCond _ o => decide ((e.1 : Int) + o = (e.2.2.2.2 : Int))
  | _ => true
def am_isT (ins : Instr) : Bool := match ins with
  | .tableswitch _ _ _ _ => true
  | _ => false
def am_v1 (own : String) (bs : ByteArray) (mL : Nat) (e : am_e) : Bool := match am_isT e.2.1 with
  | true => decide (decode bs e.1 = .ok (e.2.1, e.2.2.1 - e.1))
  | false => decide (decode bs e.1 = .ok (e.2.1, am_len e.2.1)) && (decide (e.2.2.1 = e.1 + am_len e.2.1) && am_vx own mL e)
def am_fok (own : String) (q : Nat × Nat × Nat) : Prop := ∃ r : vw_C, es_cl[q.2.1]? = some r ∧ q.2.2 < r.2.2 ∧ ∃ ref : String, Jvm.Cond.fieldLink own q.1 ref (r.2.1 q.2.2).2.1 (r.2.1 q.2.2).2.2.1 ∈ es_gt ∧ (ref = (r.2.1 q.2.2).1 ∨ Jvm.Cond.sameField ref (r.2.1 q.2.2).1 (r.2.1 q.2.2).2.1 (r.2.1 q.2.2).2.2.1 ∈ es_gt)
def am_chk (y : am_Y) : Prop := y.2.2.2.2.1.all (am_v1 y.1.cls y.2.1 y.2.2.1) = true ∧ ∀ q ∈ y.2.2.2.2.2, am_fok y.1.cls q
def es_sh1 (x : am_sh) : Bool := match x with
  | .inl o => match es_cl[o.1]? with
    | none => false
    | some r => decide (o.2.length = r.2.2) && (List.range r.2.2).all (fun j => match o.2[j]? with
      | some (.inl b) => decide ((r.2.1 j).2.2.1 = if b then "Z" else "I") && decide ((r.2.1 j).2.2.2 = false)
      | _ => true)
  | .inr a => decide (0 ≤ a.2.1 ∧ a.2.1 < 2147483648)
theorem es_shok : ES.all es_sh1 = true := by decide +kernel
theorem es_sh_arr {k : Nat} {a : FieldType × Int × List Nat} (h : am_nth ES k = some (.inr a)) : 0 ≤ a.2.1 ∧ a.2.1 < 2147483648 := by
  rw [am_nth_eq] at h
  have h1 := List.all_eq_true.mp es_shok _ (List.mem_of_getElem? h)
  exact of_decide_eq_true h1
theorem es_sh_fld {k : Nat} {o : Nat × List (Bool ⊕ Nat)} (h : am_nth ES k = some (.inl o)) : ∃ r : vw_C, es_cl[o.1]? = some r ∧ o.2.length = r.2.2 ∧ ∀ (j : Nat) (b : Bool), o.2[j]? = some (.inl b) → (r.2.1 j).2.2.1 = (if b then "Z" else "I") ∧ (r.2.1 j).2.2.2 = false := by
  rw [am_nth_eq] at h
  have h1 := List.all_eq_true.mp es_shok _ (List.mem_of_getElem? h)
  unfold es_sh1 at h1
  dsimp only at h1
  cases hc : es_cl[o.1]? with
  | none => rw [hc] at h1; cases h1
  | some r =>
    rw [hc] at h1
    simp only [Bool.and_eq_true, decide_eq_true_eq] at h1
    refine ⟨r, rfl, h1.1, fun j b hj => ?_⟩
    have hl : j < r.2.2 := by rw [← h1.1]; exact (List.getElem?_eq_some_iff.mp hj).1
    have h2 := List.all_eq_true.mp h1.2 j (List.mem_range.mpr hl)
    rw [hj] at h2
    simpa using h2
def am_T (ca : Nat → ClassId) (tys : List (ClassId × FieldType)) : Prop := ∀ (k : Nat) (a : FieldType × Int × List Nat), am_nth ES k = some (.inr a) → ∃ t0 : Nat, tys[t0]? = some (ca k, a.1)
def am_B (y : am_Y) (d : Nat) (p : Program) (R : Room) (s : State) (m : MethodId) (args : Array Value) (c : Code) (D : va_G) (ca : Nat → ClassId) (tys : List (ClassId × FieldType)) (A : Nat → Prop) (H0 : Heap) (cells slots : Nat) : Prop :=
  (p.tables.exec = Jvm.exec ∧ c.code = y.2.1 ∧ c.maxLocals = y.2.2.1 ∧ s.vm.findClass y.1.cls = some m.cls) ∧ (∀ w ∈ es_gt, w.before args s = true) ∧ es_N s ∧ va_K D es_cl tys s ∧ am_T ca tys ∧ (∀ q, H0.size ≤ q → A q) ∧ (d ≤ R.frames ∧ 37 * d ≤ R.locals) ∧ (cells ≤ R.cells ∧ slots ≤ R.slots) ∧ am_chk y
def am_w (p : Program) (l : Launch) (e : Env) (R : Room) (s : State) (m : MethodId) (args : Array Value) (below : List Frame) (meth : Method) (c : Code) (D : va_G) (ad : Nat → Nat) (ca : Nat → ClassId) (A : Nat → Prop) (H0 : Heap) (cells slots : Nat) (Q : State → Prop) (y : am_Y) (pc : Nat) (lv : List (Nat × am_v)) (st : List am_v) (I : am_I) : Prop :=
  ∀ (H : Heap) (locs : List Loc) (ls : Array Slot), va_P D es_cl (am_W ad ca I) H → va_D A (am_W ad ca I) → va_S A H0 H locs → lv_has ls y.2.2.1 (am_cl ad lv) → W p l e R s m args below meth c H locs cells slots Q (F0 m pc ls (st.map (am_c ad)))
theorem am_v1_sp {own : String} {bs : ByteArray} {mL pc nx tg : Nat} {ins : Instr} {ax : Int} (ht : am_isT ins = false) (h : am_v1 own bs mL (pc, ins, nx, ax, tg) = true) : decode bs pc = .ok (ins, am_len ins) ∧ nx = pc + am_len ins ∧ am_vx own mL (pc, ins, nx, ax, tg) = true := by
  unfold am_v1 at h
  dsimp only at h
  rw [ht] at h
  simpa using h
theorem am_chk_1 {y : am_Y} (h : am_chk y) {e : am_e} (he : e ∈ y.2.2.2.2.1) : am_v1 y.1.cls y.2.1 y.2.2.1 e = true := List.all_eq_true.mp h.1 e he
theorem am_chk_f {y : am_Y} (h : am_chk y) {q : Nat × Nat × Nat} (he : q ∈ y.2.2.2.2.2) : am_fok y.1.cls q := h.2 q he
theorem am_min32 : Int32.minValue.toInt = -2147483648 := by decide +kernel
theorem am_max32 : Int32.maxValue.toInt = 2147483647 := by decide +kernel
theorem am_min64 : Int64.minValue.toInt = -9223372036854775808 := by decide +kernel
theorem am_max64 : Int64.maxValue.toInt = 9223372036854775807 := by decide +kernel
theorem am_toI {x : Int} (h : -2147483648 ≤ x ∧ x < 2147483648) : (Int32.ofInt x).toInt = x := Int32.toInt_ofInt_of_le (by omega) (by omega)
theorem am_toL {x : Int} (h : -9223372036854775808 ≤ x ∧ x < 9223372036854775808) : (Int64.ofInt x).toInt = x := Int64.toInt_ofInt_of_le (by omega) (by omega)
theorem am_eq32 {x y : Int} (hx : -2147483648 ≤ x ∧ x < 2147483648) (hy : -2147483648 ≤ y ∧ y < 2147483648) : Int32.ofInt x = Int32.ofInt y ↔ x = y := by
  rw [← Int32.toInt_inj, am_toI hx, am_toI hy]
theorem am_lt32 {x y : Int} (hx : -2147483648 ≤ x ∧ x < 2147483648) (hy : -2147483648 ≤ y ∧ y < 2147483648) : Int32.ofInt x < Int32.ofInt y ↔ x < y := by
  rw [Int32.lt_iff_toInt_lt, am_toI hx, am_toI hy]
theorem am_le32 {x y : Int} (hx : -2147483648 ≤ x ∧ x < 2147483648) (hy : -2147483648 ≤ y ∧ y < 2147483648) : Int32.ofInt x ≤ Int32.ofInt y ↔ x ≤ y := by
  rw [Int32.le_iff_toInt_le, am_toI hx, am_toI hy]
theorem am_eq64 {x y : Int} (hx : -9223372036854775808 ≤ x ∧ x < 9223372036854775808) (hy : -9223372036854775808 ≤ y ∧ y < 9223372036854775808) : Int64.ofInt x = Int64.ofInt y ↔ x = y := by
  rw [← Int64.toInt_inj, am_toL hx, am_toL hy]
theorem am_lt64 {x y : Int} (hx : -9223372036854775808 ≤ x ∧ x < 9223372036854775808) (hy : -9223372036854775808 ≤ y ∧ y < 9223372036854775808) : Int64.ofInt x < Int64.ofInt y ↔ x < y := by
  rw [Int64.lt_iff_toInt_lt, am_toL hx, am_toL hy]
theorem am_idx {i n : Int} (h : 0 ≤ i ∧ i < n) (hn : n < 2147483648) : vp_in (Int32.ofInt i) n.toNat ∧ (Int32.ofInt i).toNatClampNeg = i.toNat := by
  have e1 := am_toI (x := i) (by omega)
  refine ⟨vp_in_iff.mpr (by rw [e1]; omega), ?_⟩
  show (Int32.ofInt i).toInt.toNat = i.toNat
  rw [e1]
theorem am_ofdiv {x y : Int} (hx : 0 ≤ x ∧ x < 2147483648) (hy : 0 < y ∧ y < 2147483648) : Int32.ofInt x / Int32.ofInt y = Int32.ofInt (x / y) := by
  rw [← Int32.ofInt_tdiv (by rw [am_min32]; omega) (by rw [am_max32]; omega) (by rw [am_min32]; omega) (by rw [am_max32]; omega), Int.tdiv_eq_ediv_of_nonneg hx.1]
theorem am_ofrem {x y : Int} (hx : 0 ≤ x ∧ x < 2147483648) (hy : 0 < y ∧ y < 2147483648) : Int32.ofInt x - Int32.ofInt x / Int32.ofInt y * Int32.ofInt y = Int32.ofInt (x % y) := by
  rw [am_ofdiv hx hy, ← Int32.ofInt_mul, ← Int32.ofInt_sub]
  congr 1
  have := Int.emod_add_mul_ediv x y
  rw [Int.mul_comm (x / y) y]
  omega
theorem am_nz {y : Int} (hy : 0 < y ∧ y < 2147483648) : ¬ Int32.ofInt y = 0 := by
  intro h
  have e := am_toI (x := y) (by omega)
  rw [h] at e
  have e0 : (0 : Int32).toInt = 0 := by decide +kernel
  rw [e0] at e
  omega
section AMS
variable {p : Program} {l : Launch} {e : Env} {R : Room} {s : State} {m : MethodId} {args : Array Value} {below : List Frame} {meth : Method} {c : Code} {cells slots : Nat} {Q : State → Prop} {D : va_G} {ad : Nat → Nat} {ca : Nat → ClassId} {tys : List (ClassId × FieldType)} {A : Nat → Prop} {H0 : Heap} {y : am_Y} {d : Nat} {pc nx tg pc' : Nat} {ax : Int} {lv lv' : List (Nat × am_v)} {st st' : List am_v} {I I' : am_I} {P : Option Prop}
theorem am_o_iconst {n : Int} (hB : am_B y d p R s m args c D ca tys A H0 cells slots) (hv : am_v1 y.1.cls y.2.1 y.2.2.1 (pc, .iconst n, nx, ax, tg) = true) (h : am_ex y.2.2.2.2.2 (.iconst n) nx ax tg lv st I = some (P, pc', lv', st', I')) (hp : am_p P) (k : am_w p l e R s m args below meth c D ad ca A H0 cells slots Q y pc' lv' st' I') : am_w p l e R s m args below meth c D ad ca A H0 cells slots Q y pc lv st I := by
  obtain ⟨hd, hn, hw⟩ := am_v1_sp rfl hv
  obtain ⟨⟨hx, hb, hml, hown⟩, hts, hN, hK, hT, hA, hR, hC, hk⟩ := hB
  try simp only [am_vx, decide_eq_true_eq] at hw
  subst hn
  simp only [am_ex] at h
  cases h
  intro H locs ls hP hD hS hl
  exact lv_iconst hx hb hd hw (k H locs ls hP hD hS hl)
theorem am_o_bipush {n : Int} (hB : am_B y d p R s m args c D ca tys A H0 cells slots) (hv : am_v1 y.1.cls y.2.1 y.2.2.1 (pc, .bipush n, nx, ax, tg) = true) (h : am_ex y.2.2.2.2.2 (.bipush n) nx ax tg lv st I = some (P, pc', lv', st', I')) (hp : am_p P) (k : am_w p l e R s m args below meth c D ad ca A H0 cells slots Q y pc' lv' st' I') : am_w p l e R s m args below meth c D ad ca A H0 cells slots Q y pc lv st I := by
  obtain ⟨hd, hn, hw⟩ := am_v1_sp rfl hv
  obtain ⟨⟨hx, hb, hml, hown⟩, hts, hN, hK, hT, hA, hR, hC, hk⟩ := hB
  try simp only [am_vx, decide_eq_true_eq] at hw
  subst hn
  simp only [am_ex] at h
  cases h
  intro H locs ls hP hD hS hl
  exact lv_bipush hx hb hd hw (k H locs ls hP hD hS hl)
theorem am_o_sipush {n : Int} (hB : am_B y d p R s m args c D ca tys A H0 cells slots) (hv : am_v1 y.1.cls y.2.1 y.2.2.1 (pc, .sipush n, nx, ax, tg) = true) (h : am_ex y.2.2.2.2.2 (.sipush n) nx ax tg lv st I = some (P, pc', lv', st', I')) (hp : am_p P) (k : am_w p l e R s m args below meth c D ad ca A H0 cells slots Q y pc' lv' st' I') : am_w p l e R s m args below meth c D ad ca A H0 cells slots Q y pc lv st I := by
  obtain ⟨hd, hn, hw⟩ := am_v1_sp rfl hv
  obtain ⟨⟨hx, hb, hml, hown⟩, hts, hN, hK, hT, hA, hR, hC, hk⟩ := hB
  try simp only [am_vx, decide_eq_true_eq] at hw
  subst hn
  simp only [am_ex] at h
  cases h
  intro H locs ls hP hD hS hl
  exact lv_sipush hx hb hd hw (k H locs ls hP hD hS hl)
theorem am_o_lconst {n : Fin 2} (hB : am_B y d p R s m args c D ca tys A H0 cells slots) (hv : am_v1 y.1.cls y.2.1 y.2.2.1 (pc, .lconst n, nx, ax, tg) = true) (h : am_ex y.2.2.2.2.2 (.lconst n) nx ax tg lv st I = some (P, pc', lv', st', I')) (hp : am_p P) (k : am_w p l e R s m args below meth c D ad ca A H0 cells slots Q y pc' lv' st' I') : am_w p l e R s m args below meth c D ad ca A H0 cells slots Q y pc lv st I := by
  obtain ⟨hd, hn, hw⟩ := am_v1_sp rfl hv
  obtain ⟨⟨hx, hb, hml, hown⟩, hts, hN, hK, hT, hA, hR, hC, hk⟩ := hB
  try simp only [am_vx, decide_eq_true_eq] at hw
  subst hn
  simp only [am_ex] at h
  cases h
  intro H locs ls hP hD hS hl
  exact lv_lconst hx hb hd hw (k H locs ls hP hD hS hl)
theorem am_o_ldc {n : Nat} (hB : am_B y d p R s m args c D ca tys A H0 cells slots) (hv : am_v1 y.1.cls y.2.1 y.2.2.1 (pc, .ldc n, nx, ax, tg) = true) (h : am_ex y.2.2.2.2.2 (.ldc n) nx ax tg lv st I = some (P, pc', lv', st', I')) (hp : am_p P) (k : am_w p l e R s m args below meth c D ad ca A H0 cells slots Q y pc' lv' st' I') : am_w p l e R s m args below meth c D ad ca A H0 cells slots Q y pc lv st I := by
  obtain ⟨hd, hn, hw⟩ := am_v1_sp rfl hv
  obtain ⟨⟨hx, hb, hml, hown⟩, hts, hN, hK, hT, hA, hR, hC, hk⟩ := hB
  try simp only [am_vx, decide_eq_true_eq] at hw
  subst hn
  simp only [am_ex] at h
  cases h
  intro H locs ls hP hD hS hl
  exact lv_ldc hx hb hown (hts _ (am_wd_in _ hw)) hd (k H locs ls hP hD hS hl)
theorem am_o_ldc_w {n : Nat} (hB : am_B y d p R s m args c D ca tys A H0 cells slots) (hv : am_v1 y.1.cls y.2.1 y.2.2.1 (pc, .ldc_w n, nx, ax, tg) = true) (h : am_ex y.2.2.2.2.2 (.ldc_w n) nx ax tg lv st I = some (P, pc', lv', st', I')) (hp : am_p P) (k : am_w p l e R s m args below meth c D ad ca A H0 cells slots Q y pc' lv' st' I') : am_w p l e R s m args below meth c D ad ca A H0 cells slots Q y pc lv st I := by
  obtain ⟨hd, hn, hw⟩ := am_v1_sp rfl hv
  obtain ⟨⟨hx, hb, hml, hown⟩, hts, hN, hK, hT, hA, hR, hC, hk⟩ := hB
  try simp only [am_vx, decide_eq_true_eq] at hw
  subst hn
  simp only [am_ex] at h
  cases h
  intro H locs ls hP hD hS hl
  exact lv_ldcw hx hb hown (hts _ (am_wd_in _ hw)) hd (k H locs ls hP hD hS hl)
theorem am_o_ldc2 {n : Nat} (hB : am_B y d p R s m args c D ca tys A H0 cells slots) (hv : am_v1 y.1.cls y.2.1 y.2.2.1 (pc, .ldc2_w n, nx, ax, tg) = true) (h : am_ex y.2.2.2.2.2 (.ldc2_w n) nx ax tg lv st I = some (P, pc', lv', st', I')) (hp : am_p P) (k : am_w p l e R s m args below meth c D ad ca A H0 cells slots Q y pc' lv' st' I') : am_w p l e R s m args below meth c D ad ca A H0 cells slots Q y pc lv st I := by
  obtain ⟨hd, hn, hw⟩ := am_v1_sp rfl hv
  obtain ⟨⟨hx, hb, hml, hown⟩, hts, hN, hK, hT, hA, hR, hC, hk⟩ := hB
  try simp only [am_vx, decide_eq_true_eq] at hw
  subst hn
  simp only [am_ex] at h
  cases h
  intro H locs ls hP hD hS hl
  exact lv_ldc2 hx hb hown (hts _ (am_wd_in _ hw)) hd (k H locs ls hP hD hS hl)
theorem am_o_iload {n : Nat} (hB : am_B y d p R s m args c D ca tys A H0 cells slots) (hv : am_v1 y.1.cls y.2.1 y.2.2.1 (pc, .iload n, nx, ax, tg) = true) (h : am_ex y.2.2.2.2.2 (.iload n) nx ax tg lv st I = some (P, pc', lv', st', I')) (hp : am_p P) (k : am_w p l e R s m args below meth c D ad ca A H0 cells slots Q y pc' lv' st' I') : am_w p l e R s m args below meth c D ad ca A H0 cells slots Q y pc lv st I := by
  obtain ⟨hd, hn, hw⟩ := am_v1_sp rfl hv
  obtain ⟨⟨hx, hb, hml, hown⟩, hts, hN, hK, hT, hA, hR, hC, hk⟩ := hB
  try simp only [am_vx, decide_eq_true_eq] at hw
  subst hn
  simp only [am_ex, am_ldi] at h
  split at h
  · rename_i x hx2
    cases h
    subst hw
    intro H locs ls hP hD hS hl
    exact lv_iload hx hb hd (am_lv_get hl hx2) (k H locs ls hP hD hS hl)
  · cases h
theorem am_o_iload_n {n : Fin 4} (hB : am_B y d p R s m args c D ca tys A H0 cells slots) (hv : am_v1 y.1.cls y.2.1 y.2.2.1 (pc, .iload_n n, nx, ax, tg) = true) (h : am_ex y.2.2.2.2.2 (.iload_n n) nx ax tg lv st I = some (P, pc', lv', st', I')) (hp : am_p P) (k : am_w p l e R s m args below meth c D ad ca A H0 cells slots Q y pc' lv' st' I') : am_w p l e R s m args below meth c D ad ca A H0 cells slots Q y pc lv st I := by
  obtain ⟨hd, hn, hw⟩ := am_v1_sp rfl hv
  obtain ⟨⟨hx, hb, hml, hown⟩, hts, hN, hK, hT, hA, hR, hC, hk⟩ := hB
  try simp only [am_vx, decide_eq_true_eq] at hw
  subst hn
  simp only [am_ex, am_ldi] at h
  split at h
  · rename_i x hx2
    cases h
    intro H locs ls hP hD hS hl
    exact lv_iload_n hx hb hd hw (am_lv_get hl hx2) (k H locs ls hP hD hS hl)
  · cases h
theorem am_o_lload {n : Nat} (hB : am_B y d p R s m args c D ca tys A H0 cells slots) (hv : am_v1 y.1.cls y.2.1 y.2.2.1 (pc, .lload n, nx, ax, tg) = true) (h : am_ex y.2.2.2.2.2 (.lload n) nx ax tg lv st I = some (P, pc', lv', st', I')) (hp : am_p P) (k : am_w p l e R s m args below meth c D ad ca A H0 cells slots Q y pc' lv' st' I') : am_w p l e R s m args below meth c D ad ca A H0 cells slots Q y pc lv st I := by
  obtain ⟨hd, hn, hw⟩ := am_v1_sp rfl hv
  obtain ⟨⟨hx, hb, hml, hown⟩, hts, hN, hK, hT, hA, hR, hC, hk⟩ := hB
  try simp only [am_vx, decide_eq_true_eq] at hw
  subst hn
  simp only [am_ex, am_ldl] at h
  split at h
  · rename_i x hx2
    cases h
    subst hw
    intro H locs ls hP hD hS hl
    exact lv_lload hx hb hd (am_lv_get hl hx2) (k H locs ls hP hD hS hl)
  · cases h
theorem am_o_lload_n {n : Fin 4} (hB : am_B y d p R s m args c D ca tys A H0 cells slots) (hv : am_v1 y.1.cls y.2.1 y.2.2.1 (pc, .lload_n n, nx, ax, tg) = true) (h : am_ex y.2.2.2.2.2 (.lload_n n) nx ax tg lv st I = some (P, pc', lv', st', I')) (hp : am_p P) (k : am_w p l e R s m args below meth c D ad ca A H0 cells slots Q y pc' lv' st' I') : am_w p l e R s m args below meth c D ad ca A H0 cells slots Q y pc lv st I := by
  obtain ⟨hd, hn, hw⟩ := am_v1_sp rfl hv
  obtain ⟨⟨hx, hb, hml, hown⟩, hts, hN, hK, hT, hA, hR, hC, hk⟩ := hB
  try simp only [am_vx, decide_eq_true_eq] at hw
  subst hn
  simp only [am_ex, am_ldl] at h
  split at h
  · rename_i x hx2
    cases h
    intro H locs ls hP hD hS hl
    exact lv_lload_n hx hb hd hw (am_lv_get hl hx2) (k H locs ls hP hD hS hl)
  · cases h
theorem am_o_aload {n : Nat} (hB : am_B y d p R s m args c D ca tys A H0 cells slots) (hv : am_v1 y.1.cls y.2.1 y.2.2.1 (pc, .aload n, nx, ax, tg) = true) (h : am_ex y.2.2.2.2.2 (.aload n) nx ax tg lv st I = some (P, pc', lv', st', I')) (hp : am_p P) (k : am_w p l e R s m args below meth c D ad ca A H0 cells slots Q y pc' lv' st' I') : am_w p l e R s m args below meth c D ad ca A H0 cells slots Q y pc lv st I := by
  obtain ⟨hd, hn, hw⟩ := am_v1_sp rfl hv
  obtain ⟨⟨hx, hb, hml, hown⟩, hts, hN, hK, hT, hA, hR, hC, hk⟩ := hB
  try simp only [am_vx, decide_eq_true_eq] at hw
  subst hn
  simp only [am_ex, am_lda] at h
  split at h
  · rename_i x hx2
    cases h
    subst hw
    intro H locs ls hP hD hS hl
    exact lv_aload hx hb hd (am_lv_get hl hx2) (k H locs ls hP hD hS hl)
  · cases h
theorem am_o_aload_n {n : Fin 4} (hB : am_B y d p R s m args c D ca tys A H0 cells slots) (hv : am_v1 y.1.cls y.2.1 y.2.2.1 (pc, .aload_n n, nx, ax, tg) = true) (h : am_ex y.2.2.2.2.2 (.aload_n n) nx ax tg lv st I = some (P, pc', lv', st', I')) (hp : am_p P) (k : am_w p l e R s m args below meth c D ad ca A H0 cells slots Q y pc' lv' st' I') : am_w p l e R s m args below meth c D ad ca A H0 cells slots Q y pc lv st I := by
  obtain ⟨hd, hn, hw⟩ := am_v1_sp rfl hv
  obtain ⟨⟨hx, hb, hml, hown⟩, hts, hN, hK, hT, hA, hR, hC, hk⟩ := hB
  try simp only [am_vx, decide_eq_true_eq] at hw
  subst hn
  simp only [am_ex, am_lda] at h
  split at h
  · rename_i x hx2
    cases h
    intro H locs ls hP hD hS hl
    exact lv_aload_n hx hb hd hw (am_lv_get hl hx2) (k H locs ls hP hD hS hl)
  · cases h
theorem am_o_istore {n : Nat} (hB : am_B y d p R s m args c D ca tys A H0 cells slots) (hv : am_v1 y.1.cls y.2.1 y.2.2.1 (pc, .istore n, nx, ax, tg) = true) (h : am_ex y.2.2.2.2.2 (.istore n) nx ax tg lv st I = some (P, pc', lv', st', I')) (hp : am_p P) (k : am_w p l e R s m args below meth c D ad ca A H0 cells slots Q y pc' lv' st' I') : am_w p l e R s m args below meth c D ad ca A H0 cells slots Q y pc lv st I := by
  obtain ⟨hd, hn, hw⟩ := am_v1_sp rfl hv
  obtain ⟨⟨hx, hb, hml, hown⟩, hts, hN, hK, hT, hA, hR, hC, hk⟩ := hB
  try simp only [am_vx, decide_eq_true_eq] at hw
  subst hn
  obtain ⟨hw1, hw2⟩ := hw
  simp only [am_ex, am_i1] at h
  split at h
  · rename_i x r
    obtain ⟨l2, e2, m2⟩ := am_set_eq lv tg _ (fun l' => (some (none, _, l', r, I) : am_R))
    rw [e2] at h
    cases h
    intro H locs ls hP hD hS hl
    refine lv_istore (lv' := _) hx hb hd hl hw2 rfl (fun ls1 hl1 => k H locs ls1 hP hD hS (am_lv_set1 rfl m2 (by rw [← hw1]; exact hl1)))
  · cases h
theorem am_o_istore_n {n : Fin 4} (hB : am_B y d p R s m args c D ca tys A H0 cells slots) (hv : am_v1 y.1.cls y.2.1 y.2.2.1 (pc, .istore_n n, nx, ax, tg) = true) (h : am_ex y.2.2.2.2.2 (.istore_n n) nx ax tg lv st I = some (P, pc', lv', st', I')) (hp : am_p P) (k : am_w p l e R s m args below meth c D ad ca A H0 cells slots Q y pc' lv' st' I') : am_w p l e R s m args below meth c D ad ca A H0 cells slots Q y pc lv st I := by
  obtain ⟨hd, hn, hw⟩ := am_v1_sp rfl hv
  obtain ⟨⟨hx, hb, hml, hown⟩, hts, hN, hK, hT, hA, hR, hC, hk⟩ := hB
  try simp only [am_vx, decide_eq_true_eq] at hw
  subst hn
  obtain ⟨hw1, hw2⟩ := hw
  simp only [am_ex, am_i1] at h
  split at h
  · rename_i x r
    obtain ⟨l2, e2, m2⟩ := am_set_eq lv tg _ (fun l' => (some (none, _, l', r, I) : am_R))
    rw [e2] at h
    cases h
    intro H locs ls hP hD hS hl
    refine lv_istore_n (lv' := _) hx hb hd hw1 hl (by rw [← hw1]; exact hw2) rfl (fun ls1 hl1 => k H locs ls1 hP hD hS (am_lv_set1 rfl m2 hl1))
  · cases h
theorem am_o_lstore {n : Nat} (hB : am_B y d p R s m args c D ca tys A H0 cells slots) (hv : am_v1 y.1.cls y.2.1 y.2.2.1 (pc, .lstore n, nx, ax, tg) = true) (h : am_ex y.2.2.2.2.2 (.lstore n) nx ax tg lv st I = some (P, pc', lv', st', I')) (hp : am_p P) (k : am_w p l e R s m args below meth c D ad ca A H0 cells slots Q y pc' lv' st' I') : am_w p l e R s m args below meth c D ad ca A H0 cells slots Q y pc lv st I := by
  obtain ⟨hd, hn, hw⟩ := am_v1_sp rfl hv
  obtain ⟨⟨hx, hb, hml, hown⟩, hts, hN, hK, hT, hA, hR, hC, hk⟩ := hB
  try simp only [am_vx, decide_eq_true_eq] at hw
  subst hn
  obtain ⟨hw1, hw2⟩ := hw
  simp only [am_ex, am_l1] at h
  split at h
  · rename_i x r
    obtain ⟨l2, e2, m2⟩ := am_set_eq lv tg _ (fun l' => (some (none, _, l', r, I) : am_R))
    rw [e2] at h
    cases h
    intro H locs ls hP hD hS hl
    refine lv_lstore (lv' := _) hx hb hd hl hw2 rfl (fun ls1 hl1 => k H locs ls1 hP hD hS (am_lv_set2 rfl m2 (by rw [← hw1]; exact hl1)))
  · cases h
theorem am_o_lstore_n {n : Fin 4} (hB : am_B y d p R s m args c D ca tys A H0 cells slots) (hv : am_v1 y.1.cls y.2.1 y.2.2.1 (pc, .lstore_n n, nx, ax, tg) = true) (h : am_ex y.2.2.2.2.2 (.lstore_n n) nx ax tg lv st I = some (P, pc', lv', st', I')) (hp : am_p P) (k : am_w p l e R s m args below meth c D ad ca A H0 cells slots Q y pc' lv' st' I') : am_w p l e R s m args below meth c D ad ca A H0 cells slots Q y pc lv st I := by
  obtain ⟨hd, hn, hw⟩ := am_v1_sp rfl hv
  obtain ⟨⟨hx, hb, hml, hown⟩, hts, hN, hK, hT, hA, hR, hC, hk⟩ := hB
  try simp only [am_vx, decide_eq_true_eq] at hw
  subst hn
  obtain ⟨hw1, hw2⟩ := hw
  simp only [am_ex, am_l1] at h
  split at h
  · rename_i x r
    obtain ⟨l2, e2, m2⟩ := am_set_eq lv tg _ (fun l' => (some (none, _, l', r, I) : am_R))
    rw [e2] at h
    cases h
    intro H locs ls hP hD hS hl
    refine lv_lstore_n (lv' := _) hx hb hd hw1 hl (by rw [← hw1]; exact hw2) rfl (fun ls1 hl1 => k H locs ls1 hP hD hS (am_lv_set2 rfl m2 hl1))
  · cases h
theorem am_o_iinc {n : Nat} {j : Int} (hB : am_B y d p R s m args c D ca tys A H0 cells slots) (hv : am_v1 y.1.cls y.2.1 y.2.2.1 (pc, .iinc n j, nx, ax, tg) = true) (h : am_ex y.2.2.2.2.2 (.iinc n j) nx ax tg lv st I = some (P, pc', lv', st', I')) (hp : am_p P) (k : am_w p l e R s m args below meth c D ad ca A H0 cells slots Q y pc' lv' st' I') : am_w p l e R s m args below meth c D ad ca A H0 cells slots Q y pc lv st I := by
  obtain ⟨hd, hn, hw⟩ := am_v1_sp rfl hv
  obtain ⟨⟨hx, hb, hml, hown⟩, hts, hN, hK, hT, hA, hR, hC, hk⟩ := hB
  try simp only [am_vx, decide_eq_true_eq] at hw
  subst hn
  obtain ⟨⟨hw1, hw2⟩, hw3⟩ := hw
  subst hw1
  simp only [am_ex, am_ldi] at h
  split at h
  · rename_i x hx2
    obtain ⟨l2, e2, m2⟩ := am_set_eq lv n (.inl (x + ax)) (fun l' => (some (none, _, l', st, I) : am_R))
    rw [e2] at h
    cases h
    intro H locs ls hP hD hS hl
    obtain ⟨q, hq⟩ := List.getElem?_of_mem (List.mem_map.mpr ⟨(n, _), am_lk_mem hx2, rfl⟩ : (n, am_c ad (.inl x)) ∈ am_cl ad lv)
    exact lv_iinc (v := Int32.ofInt (x + ax)) (lv' := _) hx hb hd hl hq (by rw [hw3, Int32.ofInt_add]) hw2 rfl (fun ls1 hl1 => k H locs ls1 hP hD hS (am_lv_set1 rfl m2 hl1))
  · cases h
theorem am_o_iadd (hB : am_B y d p R s m args c D ca tys A H0 cells slots) (hv : am_v1 y.1.cls y.2.1 y.2.2.1 (pc, .iadd, nx, ax, tg) = true) (h : am_ex y.2.2.2.2.2 (.iadd) nx ax tg lv st I = some (P, pc', lv', st', I')) (hp : am_p P) (k : am_w p l e R s m args below meth c D ad ca A H0 cells slots Q y pc' lv' st' I') : am_w p l e R s m args below meth c D ad ca A H0 cells slots Q y pc lv st I := by
  obtain ⟨hd, hn, hw⟩ := am_v1_sp rfl hv
  obtain ⟨⟨hx, hb, hml, hown⟩, hts, hN, hK, hT, hA, hR, hC, hk⟩ := hB
  try simp only [am_vx, decide_eq_true_eq] at hw
  subst hn
  simp only [am_ex, am_ii] at h
  split at h
  · rename_i a b r
    cases h
    intro H locs ls hP hD hS hl
    refine lv_iadd hx hb hd ?_
    rw [← Int32.ofInt_add]; exact k H locs ls hP hD hS hl
  · cases h
theorem am_o_isub (hB : am_B y d p R s m args c D ca tys A H0 cells slots) (hv : am_v1 y.1.cls y.2.1 y.2.2.1 (pc, .isub, nx, ax, tg) = true) (h : am_ex y.2.2.2.2.2 (.isub) nx ax tg lv st I = some (P, pc', lv', st', I')) (hp : am_p P) (k : am_w p l e R s m args below meth c D ad ca A H0 cells slots Q y pc' lv' st' I') : am_w p l e R s m args below meth c D ad ca A H0 cells slots Q y pc lv st I := by
  obtain ⟨hd, hn, hw⟩ := am_v1_sp rfl hv
  obtain ⟨⟨hx, hb, hml, hown⟩, hts, hN, hK, hT, hA, hR, hC, hk⟩ := hB
  try simp only [am_vx, decide_eq_true_eq] at hw
  subst hn
  simp only [am_ex, am_ii] at h
  split at h
  · rename_i a b r
    cases h
    intro H locs ls hP hD hS hl
    refine lv_isub hx hb hd ?_
    rw [← Int32.ofInt_sub]; exact k H locs ls hP hD hS hl
  · cases h
theorem am_o_imul (hB : am_B y d p R s m args c D ca tys A H0 cells slots) (hv : am_v1 y.1.cls y.2.1 y.2.2.1 (pc, .imul, nx, ax, tg) = true) (h : am_ex y.2.2.2.2.2 (.imul) nx ax tg lv st I = some (P, pc', lv', st', I')) (hp : am_p P) (k : am_w p l e R s m args below meth c D ad ca A H0 cells slots Q y pc' lv' st' I') : am_w p l e R s m args below meth c D ad ca A H0 cells slots Q y pc lv st I := by
  obtain ⟨hd, hn, hw⟩ := am_v1_sp rfl hv
  obtain ⟨⟨hx, hb, hml, hown⟩, hts, hN, hK, hT, hA, hR, hC, hk⟩ := hB
  try simp only [am_vx, decide_eq_true_eq] at hw
  subst hn
  simp only [am_ex, am_ii] at h
  split at h
  · rename_i a b r
    cases h
    intro H locs ls hP hD hS hl
    refine lv_imul hx hb hd ?_
    rw [← Int32.ofInt_mul]; exact k H locs ls hP hD hS hl
  · cases h
theorem am_o_iand (hB : am_B y d p R s m args c D ca tys A H0 cells slots) (hv : am_v1 y.1.cls y.2.1 y.2.2.1 (pc, .iand, nx, ax, tg) = true) (h : am_ex y.2.2.2.2.2 (.iand) nx ax tg lv st I = some (P, pc', lv', st', I')) (hp : am_p P) (k : am_w p l e R s m args below meth c D ad ca A H0 cells slots Q y pc' lv' st' I') : am_w p l e R s m args below meth c D ad ca A H0 cells slots Q y pc lv st I := by
  obtain ⟨hd, hn, hw⟩ := am_v1_sp rfl hv
  obtain ⟨⟨hx, hb, hml, hown⟩, hts, hN, hK, hT, hA, hR, hC, hk⟩ := hB
  try simp only [am_vx, decide_eq_true_eq] at hw
  subst hn
  simp only [am_ex, am_ii] at h
  split at h
  · rename_i a b r
    cases h
    intro H locs ls hP hD hS hl
    refine lv_iand hx hb hd ?_
    have k1 := k H locs ls hP hD hS hl
    simp only [List.map_cons, am_c, am_and, am_of] at k1
    exact k1
  · cases h
theorem am_o_ior (hB : am_B y d p R s m args c D ca tys A H0 cells slots) (hv : am_v1 y.1.cls y.2.1 y.2.2.1 (pc, .ior, nx, ax, tg) = true) (h : am_ex y.2.2.2.2.2 (.ior) nx ax tg lv st I = some (P, pc', lv', st', I')) (hp : am_p P) (k : am_w p l e R s m args below meth c D ad ca A H0 cells slots Q y pc' lv' st' I') : am_w p l e R s m args below meth c D ad ca A H0 cells slots Q y pc lv st I := by
  obtain ⟨hd, hn, hw⟩ := am_v1_sp rfl hv
  obtain ⟨⟨hx, hb, hml, hown⟩, hts, hN, hK, hT, hA, hR, hC, hk⟩ := hB
  try simp only [am_vx, decide_eq_true_eq] at hw
  subst hn
  simp only [am_ex, am_ii] at h
  split at h
  · rename_i a b r
    cases h
    intro H locs ls hP hD hS hl
    refine lv_ior hx hb hd ?_
    have k1 := k H locs ls hP hD hS hl
    simp only [List.map_cons, am_c, am_or, am_of] at k1
    exact k1
  · cases h
theorem am_o_ishl (hB : am_B y d p R s m args c D ca tys A H0 cells slots) (hv : am_v1 y.1.cls y.2.1 y.2.2.1 (pc, .ishl, nx, ax, tg) = true) (h : am_ex y.2.2.2.2.2 (.ishl) nx ax tg lv st I = some (P, pc', lv', st', I')) (hp : am_p P) (k : am_w p l e R s m args below meth c D ad ca A H0 cells slots Q y pc' lv' st' I') : am_w p l e R s m args below meth c D ad ca A H0 cells slots Q y pc lv st I := by
  obtain ⟨hd, hn, hw⟩ := am_v1_sp rfl hv
  obtain ⟨⟨hx, hb, hml, hown⟩, hts, hN, hK, hT, hA, hR, hC, hk⟩ := hB
  try simp only [am_vx, decide_eq_true_eq] at hw
  subst hn
  simp only [am_ex, am_ii] at h
  split at h
  · rename_i a b r
    cases h
    intro H locs ls hP hD hS hl
    refine lv_ishl hx hb hd ?_
    have k1 := k H locs ls hP hD hS hl
    simp only [List.map_cons, am_c, am_shl, am_of] at k1
    exact k1
  · cases h
theorem am_o_ishr (hB : am_B y d p R s m args c D ca tys A H0 cells slots) (hv : am_v1 y.1.cls y.2.1 y.2.2.1 (pc, .ishr, nx, ax, tg) = true) (h : am_ex y.2.2.2.2.2 (.ishr) nx ax tg lv st I = some (P, pc', lv', st', I')) (hp : am_p P) (k : am_w p l e R s m args below meth c D ad ca A H0 cells slots Q y pc' lv' st' I') : am_w p l e R s m args below meth c D ad ca A H0 cells slots Q y pc lv st I := by
  obtain ⟨hd, hn, hw⟩ := am_v1_sp rfl hv
  obtain ⟨⟨hx, hb, hml, hown⟩, hts, hN, hK, hT, hA, hR, hC, hk⟩ := hB
  try simp only [am_vx, decide_eq_true_eq] at hw
  subst hn
  simp only [am_ex, am_ii] at h
  split at h
  · rename_i a b r
    cases h
    intro H locs ls hP hD hS hl
    refine lv_ishr hx hb hd ?_
    have k1 := k H locs ls hP hD hS hl
    simp only [List.map_cons, am_c, am_shr, am_of] at k1
    exact k1
  · cases h
theorem am_o_iushr (hB : am_B y d p R s m args c D ca tys A H0 cells slots) (hv : am_v1 y.1.cls y.2.1 y.2.2.1 (pc, .iushr, nx, ax, tg) = true) (h : am_ex y.2.2.2.2.2 (.iushr) nx ax tg lv st I = some (P, pc', lv', st', I')) (hp : am_p P) (k : am_w p l e R s m args below meth c D ad ca A H0 cells slots Q y pc' lv' st' I') : am_w p l e R s m args below meth c D ad ca A H0 cells slots Q y pc lv st I := by
  obtain ⟨hd, hn, hw⟩ := am_v1_sp rfl hv
  obtain ⟨⟨hx, hb, hml, hown⟩, hts, hN, hK, hT, hA, hR, hC, hk⟩ := hB
  try simp only [am_vx, decide_eq_true_eq] at hw
  subst hn
  simp only [am_ex, am_ii] at h
  split at h
  · rename_i a b r
    cases h
    intro H locs ls hP hD hS hl
    refine lv_iushr hx hb hd rfl ?_
    have k1 := k H locs ls hP hD hS hl
    simp only [List.map_cons, am_c, am_ushr, am_of] at k1
    exact k1
  · cases h
theorem am_o_idiv (hB : am_B y d p R s m args c D ca tys A H0 cells slots) (hv : am_v1 y.1.cls y.2.1 y.2.2.1 (pc, .idiv, nx, ax, tg) = true) (h : am_ex y.2.2.2.2.2 (.idiv) nx ax tg lv st I = some (P, pc', lv', st', I')) (hp : am_p P) (k : am_w p l e R s m args below meth c D ad ca A H0 cells slots Q y pc' lv' st' I') : am_w p l e R s m args below meth c D ad ca A H0 cells slots Q y pc lv st I := by
  obtain ⟨hd, hn, hw⟩ := am_v1_sp rfl hv
  obtain ⟨⟨hx, hb, hml, hown⟩, hts, hN, hK, hT, hA, hR, hC, hk⟩ := hB
  try simp only [am_vx, decide_eq_true_eq] at hw
  subst hn
  simp only [am_ex, am_ii] at h
  split at h
  · rename_i a b r
    cases h
    intro H locs ls hP hD hS hl
    refine lv_idiv hx hb hd (am_nz hp.2) ?_
    rw [am_ofdiv hp.1 hp.2]
    exact k H locs ls hP hD hS hl
  · cases h
theorem am_o_irem (hB : am_B y d p R s m args c D ca tys A H0 cells slots) (hv : am_v1 y.1.cls y.2.1 y.2.2.1 (pc, .irem, nx, ax, tg) = true) (h : am_ex y.2.2.2.2.2 (.irem) nx ax tg lv st I = some (P, pc', lv', st', I')) (hp : am_p P) (k : am_w p l e R s m args below meth c D ad ca A H0 cells slots Q y pc' lv' st' I') : am_w p l e R s m args below meth c D ad ca A H0 cells slots Q y pc lv st I := by
  obtain ⟨hd, hn, hw⟩ := am_v1_sp rfl hv
  obtain ⟨⟨hx, hb, hml, hown⟩, hts, hN, hK, hT, hA, hR, hC, hk⟩ := hB
  try simp only [am_vx, decide_eq_true_eq] at hw
  subst hn
  simp only [am_ex, am_ii] at h
  split at h
  · rename_i a b r
    cases h
    intro H locs ls hP hD hS hl
    refine lv_irem hx hb hd (am_nz hp.2) ?_
    rw [am_ofrem hp.1 hp.2]
    exact k H locs ls hP hD hS hl
  · cases h
theorem am_o_ineg (hB : am_B y d p R s m args c D ca tys A H0 cells slots) (hv : am_v1 y.1.cls y.2.1 y.2.2.1 (pc, .ineg, nx, ax, tg) = true) (h : am_ex y.2.2.2.2.2 (.ineg) nx ax tg lv st I = some (P, pc', lv', st', I')) (hp : am_p P) (k : am_w p l e R s m args below meth c D ad ca A H0 cells slots Q y pc' lv' st' I') : am_w p l e R s m args below meth c D ad ca A H0 cells slots Q y pc lv st I := by
  obtain ⟨hd, hn, hw⟩ := am_v1_sp rfl hv
  obtain ⟨⟨hx, hb, hml, hown⟩, hts, hN, hK, hT, hA, hR, hC, hk⟩ := hB
  try simp only [am_vx, decide_eq_true_eq] at hw
  subst hn
  simp only [am_ex, am_i1] at h
  split at h
  · rename_i a r
    cases h
    intro H locs ls hP hD hS hl
    refine lv_ineg hx hb hd ?_
    rw [← Int32.ofInt_neg]; exact k H locs ls hP hD hS hl
  · cases h
theorem am_o_ladd (hB : am_B y d p R s m args c D ca tys A H0 cells slots) (hv : am_v1 y.1.cls y.2.1 y.2.2.1 (pc, .ladd, nx, ax, tg) = true) (h : am_ex y.2.2.2.2.2 (.ladd) nx ax tg lv st I = some (P, pc', lv', st', I')) (hp : am_p P) (k : am_w p l e R s m args below meth c D ad ca A H0 cells slots Q y pc' lv' st' I') : am_w p l e R s m args below meth c D ad ca A H0 cells slots Q y pc lv st I := by
  obtain ⟨hd, hn, hw⟩ := am_v1_sp rfl hv
  obtain ⟨⟨hx, hb, hml, hown⟩, hts, hN, hK, hT, hA, hR, hC, hk⟩ := hB
  try simp only [am_vx, decide_eq_true_eq] at hw
  subst hn
  simp only [am_ex, am_ll] at h
  split at h
  · rename_i a b r
    cases h
    intro H locs ls hP hD hS hl
    refine lv_ladd hx hb hd ?_
    rw [← Int64.ofInt_add]; exact k H locs ls hP hD hS hl
  · cases h
theorem am_o_lsub (hB : am_B y d p R s m args c D ca tys A H0 cells slots) (hv : am_v1 y.1.cls y.2.1 y.2.2.1 (pc, .lsub, nx, ax, tg) = true) (h : am_ex y.2.2.2.2.2 (.lsub) nx ax tg lv st I = some (P, pc', lv', st', I')) (hp : am_p P) (k : am_w p l e R s m args below meth c D ad ca A H0 cells slots Q y pc' lv' st' I') : am_w p l e R s m args below meth c D ad ca A H0 cells slots Q y pc lv st I := by
  obtain ⟨hd, hn, hw⟩ := am_v1_sp rfl hv
  obtain ⟨⟨hx, hb, hml, hown⟩, hts, hN, hK, hT, hA, hR, hC, hk⟩ := hB
  try simp only [am_vx, decide_eq_true_eq] at hw
  subst hn
  simp only [am_ex, am_ll] at h
  split at h
  · rename_i a b r
    cases h
    intro H locs ls hP hD hS hl
    refine lv_lsub hx hb hd ?_
    rw [← Int64.ofInt_sub]; exact k H locs ls hP hD hS hl
  · cases h
theorem am_o_i2l (hB : am_B y d p R s m args c D ca tys A H0 cells slots) (hv : am_v1 y.1.cls y.2.1 y.2.2.1 (pc, .i2l, nx, ax, tg) = true) (h : am_ex y.2.2.2.2.2 (.i2l) nx ax tg lv st I = some (P, pc', lv', st', I')) (hp : am_p P) (k : am_w p l e R s m args below meth c D ad ca A H0 cells slots Q y pc' lv' st' I') : am_w p l e R s m args below meth c D ad ca A H0 cells slots Q y pc lv st I := by
  obtain ⟨hd, hn, hw⟩ := am_v1_sp rfl hv
  obtain ⟨⟨hx, hb, hml, hown⟩, hts, hN, hK, hT, hA, hR, hC, hk⟩ := hB
  try simp only [am_vx, decide_eq_true_eq] at hw
  subst hn
  simp only [am_ex, am_i1] at h
  split at h
  · rename_i a r
    cases h
    intro H locs ls hP hD hS hl
    have hp : -2147483648 ≤ a ∧ a < 2147483648 := hp
    exact lv_i2l hx hb hd (Int32.toInt64_ofInt (by rw [am_min32]; omega) (by rw [am_max32]; omega)) (k H locs ls hP hD hS hl)
  · cases h
theorem am_o_l2i (hB : am_B y d p R s m args c D ca tys A H0 cells slots) (hv : am_v1 y.1.cls y.2.1 y.2.2.1 (pc, .l2i, nx, ax, tg) = true) (h : am_ex y.2.2.2.2.2 (.l2i) nx ax tg lv st I = some (P, pc', lv', st', I')) (hp : am_p P) (k : am_w p l e R s m args below meth c D ad ca A H0 cells slots Q y pc' lv' st' I') : am_w p l e R s m args below meth c D ad ca A H0 cells slots Q y pc lv st I := by
  obtain ⟨hd, hn, hw⟩ := am_v1_sp rfl hv
  obtain ⟨⟨hx, hb, hml, hown⟩, hts, hN, hK, hT, hA, hR, hC, hk⟩ := hB
  try simp only [am_vx, decide_eq_true_eq] at hw
  subst hn
  simp only [am_ex, am_l1] at h
  split at h
  · rename_i a r
    cases h
    intro H locs ls hP hD hS hl
    exact lv_l2i hx hb hd Int64.toInt32_ofInt (k H locs ls hP hD hS hl)
  · cases h
theorem am_o_dup (hB : am_B y d p R s m args c D ca tys A H0 cells slots) (hv : am_v1 y.1.cls y.2.1 y.2.2.1 (pc, .dup, nx, ax, tg) = true) (h : am_ex y.2.2.2.2.2 (.dup) nx ax tg lv st I = some (P, pc', lv', st', I')) (hp : am_p P) (k : am_w p l e R s m args below meth c D ad ca A H0 cells slots Q y pc' lv' st' I') : am_w p l e R s m args below meth c D ad ca A H0 cells slots Q y pc lv st I := by
  obtain ⟨hd, hn, hw⟩ := am_v1_sp rfl hv
  obtain ⟨⟨hx, hb, hml, hown⟩, hts, hN, hK, hT, hA, hR, hC, hk⟩ := hB
  try simp only [am_vx, decide_eq_true_eq] at hw
  subst hn
  simp only [am_ex] at h
  split at h
  · cases h
    intro H locs ls hP hD hS hl
    exact lv_dup hx hb hd rfl (k H locs ls hP hD hS hl)
  · cases h
    intro H locs ls hP hD hS hl
    exact lv_dup hx hb hd rfl (k H locs ls hP hD hS hl)
  · cases h
theorem am_o_dup2 (hB : am_B y d p R s m args c D ca tys A H0 cells slots) (hv : am_v1 y.1.cls y.2.1 y.2.2.1 (pc, .dup2, nx, ax, tg) = true) (h : am_ex y.2.2.2.2.2 (.dup2) nx ax tg lv st I = some (P, pc', lv', st', I')) (hp : am_p P) (k : am_w p l e R s m args below meth c D ad ca A H0 cells slots Q y pc' lv' st' I') : am_w p l e R s m args below meth c D ad ca A H0 cells slots Q y pc lv st I := by
  obtain ⟨hd, hn, hw⟩ := am_v1_sp rfl hv
  obtain ⟨⟨hx, hb, hml, hown⟩, hts, hN, hK, hT, hA, hR, hC, hk⟩ := hB
  try simp only [am_vx, decide_eq_true_eq] at hw
  subst hn
  simp only [am_ex, am_ai] at h
  split at h
  · cases h
    intro H locs ls hP hD hS hl
    exact lv_dup2_11 hx hb hd rfl rfl (k H locs ls hP hD hS hl)
  · cases h
theorem am_o_goto {o : Int} (hB : am_B y d p R s m args c D ca tys A H0 cells slots) (hv : am_v1 y.1.cls y.2.1 y.2.2.1 (pc, .goto o, nx, ax, tg) = true) (h : am_ex y.2.2.2.2.2 (.goto o) nx ax tg lv st I = some (P, pc', lv', st', I')) (hp : am_p P) (k : am_w p l e R s m args below meth c D ad ca A H0 cells slots Q y pc' lv' st' I') : am_w p l e R s m args below meth c D ad ca A H0 cells slots Q y pc lv st I := by
  obtain ⟨hd, hn, hw⟩ := am_v1_sp rfl hv
  obtain ⟨⟨hx, hb, hml, hown⟩, hts, hN, hK, hT, hA, hR, hC, hk⟩ := hB
  try simp only [am_vx, decide_eq_true_eq] at hw
  subst hn
  simp only [am_ex] at h
  cases h
  intro H locs ls hP hD hS hl
  exact lv_goto hx hb hd hw (k H locs ls hP hD hS hl)
end AMS
end
section
theorem am_uws {C : String} {T : u_T} {N : Nat} {ci : Nat} (h : es_cl[ci]? = some (C, T, N)) : ∀ w ∈ u_ws C T N, w ∈ es_gt := by
  intro w hw
  refine es_gt_in (es_in ((es_cl_ok ci _ h).1 w hw)) ?_
  obtain ⟨k, -, rfl⟩ := List.mem_map.mp hw
  unfold u_lay
  split <;> rfl
theorem am_fok_sp {own : String} {n ci j : Nat} {r : vw_C} (h : am_fok own (n, ci, j)) (hr : es_cl[ci]? = some r) : j < r.2.2 ∧ ∃ ref : String, Jvm.Cond.fieldLink own n ref (r.2.1 j).2.1 (r.2.1 j).2.2.1 ∈ es_gt ∧ (ref = (r.2.1 j).1 ∨ Jvm.Cond.sameField ref (r.2.1 j).1 (r.2.1 j).2.1 (r.2.1 j).2.2.1 ∈ es_gt) := by
  obtain ⟨r2, h1, h2⟩ := h
  cases h1.symm.trans hr
  exact h2
theorem am_same {args : Array Value} {s : State} {ref o n dd : String} (hts : ∀ w ∈ es_gt, w.before args s = true) (h : ref = o ∨ Jvm.Cond.sameField ref o n dd ∈ es_gt) : ∀ x, s.fieldFound? o n dd = some x → s.fieldFound? ref n dd = some x := by
  intro x hx
  rcases h with rfl | h
  · exact hx
  · exact u_same (hts _ h) x hx
theorem am_nar (b : Bool) {x : Int} (h : b = true → x = 0 ∨ x = 1) : ∃ ty : FieldType, parseFieldDescriptor (if b then "Z" else "I") = some ty ∧ narrow ty (.int (Int32.ofInt x)) = .int (Int32.ofInt x) ∧ fits ty (.int (Int32.ofInt x)) = true := by
  cases b with
  | false => exact ⟨.int, by decide +kernel, rfl, rfl⟩
  | true =>
    rcases h rfl with rfl | rfl
    · exact ⟨.boolean, by decide +kernel, by decide +kernel, by decide +kernel⟩
    · exact ⟨.boolean, by decide +kernel, by decide +kernel, by decide +kernel⟩
theorem am_cell_put {ad : Nat → Nat} {ca : Nat → ClassId} {I : am_I} {a j : Nat} {b : Bool} {o : Nat × List (Bool ⊕ Nat)} (x : Int) (ho : am_nth ES a = some (.inl o)) (hj : o.2[j]? = some (.inl b)) : (am_W ad ca I).set a (ad a, .inr (o.1, (am_fv ad (I a) 0 o.2).set j (.int (Int32.ofInt x)))) = am_W ad ca (am_u I a j x) := by
  rw [← am_W_put (I := I) (I' := am_u I a j x) ho (fun q hq => am_u_ne hq), am_fv_set x hj]
  unfold am_cell
  dsimp only
  rw [am_u_eq]
theorem am_cell_putA {ad : Nat → Nat} {ca : Nat → ClassId} {I : am_I} {a j : Nat} {o : FieldType × Int × List Nat} (x : Int) (ho : am_nth ES a = some (.inr o)) : (am_W ad ca I).set a (ad a, .inl (ca a, o.2.1.toNat, am_ar ad o.1 o.2.2 (am_up (I a) j x))) = am_W ad ca (am_u I a j x) := by
  rw [← am_W_put (I := I) (I' := am_u I a j x) ho (fun q hq => am_u_ne hq)]
  unfold am_cell
  dsimp only
  rw [am_u_eq]
theorem am_updI (f : Nat → Int) (j : Nat) (x : Int) : upd (fun i => Int32.ofInt (f i)) j (Int32.ofInt x) = fun i => Int32.ofInt (am_up f j x i) := by
  funext i
  unfold upd am_up
  split <;> rfl
theorem am_updL (f : Nat → Int) (j : Nat) (x : Int) : vp_updL (fun i => Int64.ofInt (f i)) j (Int64.ofInt x) = fun i => Int64.ofInt (am_up f j x i) := by
  funext i
  unfold vp_updL am_up
  split <;> rfl
section AMH
variable {p : Program} {l : Launch} {e : Env} {R : Room} {s : State} {m : MethodId} {args : Array Value} {below : List Frame} {meth : Method} {c : Code} {cells slots : Nat} {Q : State → Prop} {D : va_G} {ad : Nat → Nat} {ca : Nat → ClassId} {tys : List (ClassId × FieldType)} {A : Nat → Prop} {H0 : Heap} {y : am_Y} {d : Nat} {pc nx tg pc' : Nat} {ax : Int} {lv lv' : List (Nat × am_v)} {st st' : List am_v} {I I' : am_I} {P : Option Prop}
theorem am_o_getfield {n : Nat} (hB : am_B y d p R s m args c D ca tys A H0 cells slots) (hv : am_v1 y.1.cls y.2.1 y.2.2.1 (pc, .getfield n, nx, ax, tg) = true) (h : am_ex y.2.2.2.2.2 (.getfield n) nx ax tg lv st I = some (P, pc', lv', st', I')) (hp : am_p P) (k : am_w p l e R s m args below meth c D ad ca A H0 cells slots Q y pc' lv' st' I') : am_w p l e R s m args below meth c D ad ca A H0 cells slots Q y pc lv st I := by
  obtain ⟨hd, hn, hw⟩ := am_v1_sp rfl hv
  obtain ⟨⟨hx, hb, hml, hown⟩, hts, hN, hK, hT, hA, hR, hC, hk⟩ := hB
  try simp only [am_vx, decide_eq_true_eq] at hw
  subst hn
  simp only [am_ex] at h
  split at h
  · rename_i a r
    unfold am_ob at h
    split at h
    · rename_i o ho
      dsimp only at h
      unfold am_fsk at h
      split at h
      · rename_i j hj
        obtain ⟨⟨C, T, N⟩, hr0, hlen, hfld⟩ := es_sh_fld ho
        obtain ⟨hlt, ref, hli, hsa⟩ := am_fok_sp (am_chk_f hk (am_fs_mem hj)) hr0
        dsimp only at h
        unfold am_gf at h
        split at h
        · rename_i b hb2
          cases h
          intro H locs ls hP hD hS hl
          exact va_get hx hb hts (am_uws hr0) hown hK hP a (am_W_at I ho) hr0 j hlt (hts _ hli) (am_same hts hsa) (v := .int (Int32.ofInt (I a j))) (by rw [am_fv_get, ← am_nth_eq, hb2]; simp) hd (k H locs ls hP hD hS hl)
        · rename_i q hb2
          cases h
          intro H locs ls hP hD hS hl
          exact va_get hx hb hts (am_uws hr0) hown hK hP a (am_W_at I ho) hr0 j hlt (hts _ hli) (am_same hts hsa) (v := .ref (ad q)) (by rw [am_fv_get, ← am_nth_eq, hb2]; simp) hd (k H locs ls hP hD hS hl)
        · cases h
      · cases h
    · cases h
  · cases h
theorem am_o_putfield {n : Nat} (hB : am_B y d p R s m args c D ca tys A H0 cells slots) (hv : am_v1 y.1.cls y.2.1 y.2.2.1 (pc, .putfield n, nx, ax, tg) = true) (h : am_ex y.2.2.2.2.2 (.putfield n) nx ax tg lv st I = some (P, pc', lv', st', I')) (hp : am_p P) (k : am_w p l e R s m args below meth c D ad ca A H0 cells slots Q y pc' lv' st' I') : am_w p l e R s m args below meth c D ad ca A H0 cells slots Q y pc lv st I := by
  obtain ⟨hd, hn, hw⟩ := am_v1_sp rfl hv
  obtain ⟨⟨hx, hb, hml, hown⟩, hts, hN, hK, hT, hA, hR, hC, hk⟩ := hB
  try simp only [am_vx, decide_eq_true_eq] at hw
  subst hn
  simp only [am_ex] at h
  split at h
  · rename_i x a r
    unfold am_ob at h
    split at h
    · rename_i o ho
      dsimp only at h
      unfold am_fsk at h
      split at h
      · rename_i j hj
        obtain ⟨⟨C, T, N⟩, hr0, hlen, hfld⟩ := es_sh_fld ho
        obtain ⟨hlt, ref, hli, hsa⟩ := am_fok_sp (am_chk_f hk (am_fs_mem hj)) hr0
        dsimp only at h
        unfold am_gf at h
        split at h
        · rename_i b hb2
          cases b with
          | false =>
            cases h
            obtain ⟨ty, t1, t2, t3⟩ := am_nar false (x := x) (fun h => by cases h)
            obtain ⟨f1, f2⟩ := hfld j false (by rw [← am_nth_eq]; exact hb2)
            intro H locs ls hP hD hS hl
            refine va_put hx hb hts (am_uws hr0) (es_ty T) (es_cl_ok _ _ hr0).2.1 (es_cl_ok _ _ hr0).2.2 hown hK hP hD hS a (am_W_at I ho) hr0 j hlt (hts _ hli) (am_same hts hsa) f2 (ty := ty) (v := .int (Int32.ofInt x)) (by rw [f1]; exact t1) t2 t3 (by rw [am_fv_len, hlen]; exact hlt) hd (fun H1 locs1 hP1 hD1 hS1 => ?_)
            rw [am_cell_put x ho (by rw [← am_nth_eq]; exact hb2)] at hP1 hD1
            exact k H1 locs1 ls hP1 hD1 hS1 hl
          | true =>
            cases h
            obtain ⟨ty, t1, t2, t3⟩ := am_nar true (x := x) (fun _ => hp)
            obtain ⟨f1, f2⟩ := hfld j true (by rw [← am_nth_eq]; exact hb2)
            intro H locs ls hP hD hS hl
            refine va_put hx hb hts (am_uws hr0) (es_ty T) (es_cl_ok _ _ hr0).2.1 (es_cl_ok _ _ hr0).2.2 hown hK hP hD hS a (am_W_at I ho) hr0 j hlt (hts _ hli) (am_same hts hsa) f2 (ty := ty) (v := .int (Int32.ofInt x)) (by rw [f1]; exact t1) t2 t3 (by rw [am_fv_len, hlen]; exact hlt) hd (fun H1 locs1 hP1 hD1 hS1 => ?_)
            rw [am_cell_put x ho (by rw [← am_nth_eq]; exact hb2)] at hP1 hD1
            exact k H1 locs1 ls hP1 hD1 hS1 hl
        · cases h
        · cases h
      · cases h
    · cases h
  · cases h
theorem am_o_iaload (hB : am_B y d p R s m args c D ca tys A H0 cells slots) (hv : am_v1 y.1.cls y.2.1 y.2.2.1 (pc, .iaload, nx, ax, tg) = true) (h : am_ex y.2.2.2.2.2 (.iaload) nx ax tg lv st I = some (P, pc', lv', st', I')) (hp : am_p P) (k : am_w p l e R s m args below meth c D ad ca A H0 cells slots Q y pc' lv' st' I') : am_w p l e R s m args below meth c D ad ca A H0 cells slots Q y pc lv st I := by
  obtain ⟨hd, hn, hw⟩ := am_v1_sp rfl hv
  obtain ⟨⟨hx, hb, hml, hown⟩, hts, hN, hK, hT, hA, hR, hC, hk⟩ := hB
  try simp only [am_vx, decide_eq_true_eq] at hw
  subst hn
  simp only [am_ex, am_ai] at h
  split at h
  · rename_i i a r
    unfold am_arr at h
    split at h
    · rename_i ty n rs ho
      dsimp only at h
      unfold am_isI at h
      split at h
      · cases h
        obtain ⟨z1, z2⟩ := es_sh_arr ho
        obtain ⟨t0, ht0⟩ := hT a _ ho
        obtain ⟨i1, i2⟩ := am_idx hp z2
        intro H locs ls hP hD hS hl
        refine va_iald hx hb hK hP a t0 (am_W_at I ho) ht0 i1 hd ?_
        rw [i2]
        exact k H locs ls hP hD hS hl
      · cases h
    · cases h
  · cases h
theorem am_o_laload (hB : am_B y d p R s m args c D ca tys A H0 cells slots) (hv : am_v1 y.1.cls y.2.1 y.2.2.1 (pc, .laload, nx, ax, tg) = true) (h : am_ex y.2.2.2.2.2 (.laload) nx ax tg lv st I = some (P, pc', lv', st', I')) (hp : am_p P) (k : am_w p l e R s m args below meth c D ad ca A H0 cells slots Q y pc' lv' st' I') : am_w p l e R s m args below meth c D ad ca A H0 cells slots Q y pc lv st I := by
  obtain ⟨hd, hn, hw⟩ := am_v1_sp rfl hv
  obtain ⟨⟨hx, hb, hml, hown⟩, hts, hN, hK, hT, hA, hR, hC, hk⟩ := hB
  try simp only [am_vx, decide_eq_true_eq] at hw
  subst hn
  simp only [am_ex, am_ai] at h
  split at h
  · rename_i i a r
    unfold am_arr at h
    split at h
    · rename_i ty n rs ho
      dsimp only at h
      unfold am_isL at h
      split at h
      · cases h
        obtain ⟨z1, z2⟩ := es_sh_arr ho
        obtain ⟨t0, ht0⟩ := hT a _ ho
        obtain ⟨i1, i2⟩ := am_idx hp z2
        intro H locs ls hP hD hS hl
        refine va_lald hx hb hK hP a t0 (am_W_at I ho) ht0 i1 hd ?_
        rw [i2]
        exact k H locs ls hP hD hS hl
      · cases h
    · cases h
  · cases h
theorem am_o_baload (hB : am_B y d p R s m args c D ca tys A H0 cells slots) (hv : am_v1 y.1.cls y.2.1 y.2.2.1 (pc, .baload, nx, ax, tg) = true) (h : am_ex y.2.2.2.2.2 (.baload) nx ax tg lv st I = some (P, pc', lv', st', I')) (hp : am_p P) (k : am_w p l e R s m args below meth c D ad ca A H0 cells slots Q y pc' lv' st' I') : am_w p l e R s m args below meth c D ad ca A H0 cells slots Q y pc lv st I := by
  obtain ⟨hd, hn, hw⟩ := am_v1_sp rfl hv
  obtain ⟨⟨hx, hb, hml, hown⟩, hts, hN, hK, hT, hA, hR, hC, hk⟩ := hB
  try simp only [am_vx, decide_eq_true_eq] at hw
  subst hn
  simp only [am_ex, am_ai] at h
  split at h
  · rename_i i a r
    unfold am_arr at h
    split at h
    · rename_i ty n rs ho
      dsimp only at h
      unfold am_isZ at h
      split at h
      · cases h
        obtain ⟨z1, z2⟩ := es_sh_arr ho
        obtain ⟨t0, ht0⟩ := hT a _ ho
        obtain ⟨i1, i2⟩ := am_idx hp z2
        intro H locs ls hP hD hS hl
        refine va_zald hx hb hK hP a t0 (am_W_at I ho) ht0 i1 hd ?_
        rw [i2]
        exact k H locs ls hP hD hS hl
      · cases h
    · cases h
  · cases h
theorem am_o_aaload (hB : am_B y d p R s m args c D ca tys A H0 cells slots) (hv : am_v1 y.1.cls y.2.1 y.2.2.1 (pc, .aaload, nx, ax, tg) = true) (h : am_ex y.2.2.2.2.2 (.aaload) nx ax tg lv st I = some (P, pc', lv', st', I')) (hp : am_p P) (k : am_w p l e R s m args below meth c D ad ca A H0 cells slots Q y pc' lv' st' I') : am_w p l e R s m args below meth c D ad ca A H0 cells slots Q y pc lv st I := by
  obtain ⟨hd, hn, hw⟩ := am_v1_sp rfl hv
  obtain ⟨⟨hx, hb, hml, hown⟩, hts, hN, hK, hT, hA, hR, hC, hk⟩ := hB
  try simp only [am_vx, decide_eq_true_eq] at hw
  subst hn
  simp only [am_ex, am_ai] at h
  split at h
  · rename_i i a r
    unfold am_arr at h
    split at h
    · rename_i ty n rs ho
      dsimp only at h
      unfold am_isA at h
      split at h
      · unfold am_nk at h
        split at h
        · rename_i q hq
          cases h
          obtain ⟨z1, z2⟩ := es_sh_arr ho
          obtain ⟨t0, ht0⟩ := hT a _ ho
          obtain ⟨i1, i2⟩ := am_idx hp z2
          intro H locs ls hP hD hS hl
          have hlt : (Int32.ofInt i).toNatClampNeg < n.toNat := Nat.not_le.mp fun q => i1 (Or.inr q)
          refine W.aald (v := va_rf ((rs[(Int32.ofInt i).toNatClampNeg]?).map ad)) (ty := .array .int) hx hb (hP a _ (am_W_at I ho)) ((hK.2 t0 _ ht0).1 n.toNat (fun j => va_rf ((rs[j]?).map ad))) rfl (fun q => by cases q) (by show ¬ (Int32.ofInt i < 0 ∨ (arrV _ _ _).slots.size ≤ _); rw [arrV_size]; exact i1) (by show (arrV _ _ _).slots[_]? = _; rw [arrV_read _ _ hlt]) rfl rfl hd ?_
          rw [i2, ← am_nth_eq, hq]
          exact k H locs ls hP hD hS hl
        · cases h
      · cases h
    · cases h
  · cases h
theorem am_o_iastore (hB : am_B y d p R s m args c D ca tys A H0 cells slots) (hv : am_v1 y.1.cls y.2.1 y.2.2.1 (pc, .iastore, nx, ax, tg) = true) (h : am_ex y.2.2.2.2.2 (.iastore) nx ax tg lv st I = some (P, pc', lv', st', I')) (hp : am_p P) (k : am_w p l e R s m args below meth c D ad ca A H0 cells slots Q y pc' lv' st' I') : am_w p l e R s m args below meth c D ad ca A H0 cells slots Q y pc lv st I := by
  obtain ⟨hd, hn, hw⟩ := am_v1_sp rfl hv
  obtain ⟨⟨hx, hb, hml, hown⟩, hts, hN, hK, hT, hA, hR, hC, hk⟩ := hB
  try simp only [am_vx, decide_eq_true_eq] at hw
  subst hn
  simp only [am_ex] at h
  split at h
  · rename_i x i a r
    unfold am_arr at h
    split at h
    · rename_i ty n rs ho
      dsimp only at h
      unfold am_isI at h
      split at h
      · cases h
        obtain ⟨z1, z2⟩ := es_sh_arr ho
        obtain ⟨t0, ht0⟩ := hT a _ ho
        obtain ⟨i1, i2⟩ := am_idx hp z2
        intro H locs ls hP hD hS hl
        refine va_iast hx hb hK hP hD hS a t0 (am_W_at I ho) ht0 i1 hd (fun H1 locs1 hP1 hD1 hS1 => ?_)
        rw [i2, am_updI] at hP1 hD1
        refine k H1 locs1 ls ?_ ?_ hS1 hl
        · rw [← am_cell_putA x ho]; exact hP1
        · rw [← am_cell_putA x ho]; exact hD1
      · cases h
    · cases h
  · cases h
theorem am_o_lastore (hB : am_B y d p R s m args c D ca tys A H0 cells slots) (hv : am_v1 y.1.cls y.2.1 y.2.2.1 (pc, .lastore, nx, ax, tg) = true) (h : am_ex y.2.2.2.2.2 (.lastore) nx ax tg lv st I = some (P, pc', lv', st', I')) (hp : am_p P) (k : am_w p l e R s m args below meth c D ad ca A H0 cells slots Q y pc' lv' st' I') : am_w p l e R s m args below meth c D ad ca A H0 cells slots Q y pc lv st I := by
  obtain ⟨hd, hn, hw⟩ := am_v1_sp rfl hv
  obtain ⟨⟨hx, hb, hml, hown⟩, hts, hN, hK, hT, hA, hR, hC, hk⟩ := hB
  try simp only [am_vx, decide_eq_true_eq] at hw
  subst hn
  simp only [am_ex] at h
  split at h
  · rename_i x i a r
    unfold am_arr at h
    split at h
    · rename_i ty n rs ho
      dsimp only at h
      unfold am_isL at h
      split at h
      · cases h
        obtain ⟨z1, z2⟩ := es_sh_arr ho
        obtain ⟨t0, ht0⟩ := hT a _ ho
        obtain ⟨i1, i2⟩ := am_idx hp z2
        intro H locs ls hP hD hS hl
        refine va_last hx hb hK hP hD hS a t0 (am_W_at I ho) ht0 i1 hd (fun H1 locs1 hP1 hD1 hS1 => ?_)
        rw [i2, am_updL] at hP1 hD1
        refine k H1 locs1 ls ?_ ?_ hS1 hl
        · rw [← am_cell_putA x ho]; exact hP1
        · rw [← am_cell_putA x ho]; exact hD1
      · cases h
    · cases h
  · cases h
theorem am_o_bastore (hB : am_B y d p R s m args c D ca tys A H0 cells slots) (hv : am_v1 y.1.cls y.2.1 y.2.2.1 (pc, .bastore, nx, ax, tg) = true) (h : am_ex y.2.2.2.2.2 (.bastore) nx ax tg lv st I = some (P, pc', lv', st', I')) (hp : am_p P) (k : am_w p l e R s m args below meth c D ad ca A H0 cells slots Q y pc' lv' st' I') : am_w p l e R s m args below meth c D ad ca A H0 cells slots Q y pc lv st I := by
  obtain ⟨hd, hn, hw⟩ := am_v1_sp rfl hv
  obtain ⟨⟨hx, hb, hml, hown⟩, hts, hN, hK, hT, hA, hR, hC, hk⟩ := hB
  try simp only [am_vx, decide_eq_true_eq] at hw
  subst hn
  simp only [am_ex] at h
  split at h
  · rename_i x i a r
    unfold am_arr at h
    split at h
    · rename_i ty n rs ho
      dsimp only at h
      unfold am_isZ at h
      split at h
      · cases h
        obtain ⟨z1, z2⟩ := es_sh_arr ho
        obtain ⟨t0, ht0⟩ := hT a _ ho
        obtain ⟨i1, i2⟩ := am_idx hp.1 z2
        intro H locs ls hP hD hS hl
        refine va_zast hx hb hK hP hD hS a t0 (am_W_at I ho) ht0 i1 hd (fun H1 locs1 hP1 hD1 hS1 => ?_)
        have e0 : vp_nar .boolean (Int32.ofInt x) = Int32.ofInt x := by rcases hp.2 with rfl | rfl <;> decide +kernel
        rw [i2, e0, am_updI] at hP1 hD1
        refine k H1 locs1 ls ?_ ?_ hS1 hl
        · rw [← am_cell_putA x ho]; exact hP1
        · rw [← am_cell_putA x ho]; exact hD1
      · cases h
    · cases h
  · cases h
theorem am_o_arraylength (hB : am_B y d p R s m args c D ca tys A H0 cells slots) (hv : am_v1 y.1.cls y.2.1 y.2.2.1 (pc, .arraylength, nx, ax, tg) = true) (h : am_ex y.2.2.2.2.2 (.arraylength) nx ax tg lv st I = some (P, pc', lv', st', I')) (hp : am_p P) (k : am_w p l e R s m args below meth c D ad ca A H0 cells slots Q y pc' lv' st' I') : am_w p l e R s m args below meth c D ad ca A H0 cells slots Q y pc lv st I := by
  obtain ⟨hd, hn, hw⟩ := am_v1_sp rfl hv
  obtain ⟨⟨hx, hb, hml, hown⟩, hts, hN, hK, hT, hA, hR, hC, hk⟩ := hB
  try simp only [am_vx, decide_eq_true_eq] at hw
  subst hn
  simp only [am_ex] at h
  split at h
  · rename_i a r
    unfold am_arr at h
    split at h
    · rename_i ty n rs ho
      dsimp only at h
      cases h
      obtain ⟨z1, z2⟩ := es_sh_arr ho
      obtain ⟨t0, ht0⟩ := hT a _ ho
      intro H locs ls hP hD hS hl
      refine va_alen hx hb hK hP a t0 (am_W_at I ho) ht0 (v := Int32.ofInt n) ?_ hd (k H locs ls hP hD hS hl)
      show Int32.ofNat n.toNat = Int32.ofInt n
      rw [← Int32.ofInt_eq_ofNat, Int.toNat_of_nonneg z1]
    · cases h
  · cases h
theorem am_ex_ok {ins : Instr} (hB : am_B y d p R s m args c D ca tys A H0 cells slots) (hv : am_v1 y.1.cls y.2.1 y.2.2.1 (pc, ins, nx, ax, tg) = true) (h : am_ex y.2.2.2.2.2 ins nx ax tg lv st I = some (P, pc', lv', st', I')) (hp : am_p P) (k : am_w p l e R s m args below meth c D ad ca A H0 cells slots Q y pc' lv' st' I') : am_w p l e R s m args below meth c D ad ca A H0 cells slots Q y pc lv st I := by
  cases ins with
  | iconst n => exact am_o_iconst hB hv h hp k
  | bipush n => exact am_o_bipush hB hv h hp k
  | sipush n => exact am_o_sipush hB hv h hp k
  | ldc n => exact am_o_ldc hB hv h hp k
  | ldc_w n => exact am_o_ldc_w hB hv h hp k
  | lconst n => exact am_o_lconst hB hv h hp k
  | ldc2_w n => exact am_o_ldc2 hB hv h hp k
  | iload n => exact am_o_iload hB hv h hp k
  | iload_n n => exact am_o_iload_n hB hv h hp k
  | lload n => exact am_o_lload hB hv h hp k
  | lload_n n => exact am_o_lload_n hB hv h hp k
  | aload n => exact am_o_aload hB hv h hp k
  | aload_n n => exact am_o_aload_n hB hv h hp k
  | istore n => exact am_o_istore hB hv h hp k
  | istore_n n => exact am_o_istore_n hB hv h hp k
  | lstore n => exact am_o_lstore hB hv h hp k
  | lstore_n n => exact am_o_lstore_n hB hv h hp k
  | iinc n j => exact am_o_iinc hB hv h hp k
  | iadd  => exact am_o_iadd hB hv h hp k
  | isub  => exact am_o_isub hB hv h hp k
  | imul  => exact am_o_imul hB hv h hp k
  | idiv  => exact am_o_idiv hB hv h hp k
  | irem  => exact am_o_irem hB hv h hp k
  | ineg  => exact am_o_ineg hB hv h hp k
  | iand  => exact am_o_iand hB hv h hp k
  | ior  => exact am_o_ior hB hv h hp k
  | ishl  => exact am_o_ishl hB hv h hp k
  | ishr  => exact am_o_ishr hB hv h hp k
  | iushr  => exact am_o_iushr hB hv h hp k
  | ladd  => exact am_o_ladd hB hv h hp k
  | lsub  => exact am_o_lsub hB hv h hp k
  | i2l  => exact am_o_i2l hB hv h hp k
  | l2i  => exact am_o_l2i hB hv h hp k
  | dup  => exact am_o_dup hB hv h hp k
  | dup2  => exact am_o_dup2 hB hv h hp k
  | goto n => exact am_o_goto hB hv h hp k
  | getfield n => exact am_o_getfield hB hv h hp k
  | putfield n => exact am_o_putfield hB hv h hp k
  | iaload  => exact am_o_iaload hB hv h hp k
  | laload  => exact am_o_laload hB hv h hp k
  | baload  => exact am_o_baload hB hv h hp k
  | aaload  => exact am_o_aaload hB hv h hp k
  | iastore  => exact am_o_iastore hB hv h hp k
  | bastore  => exact am_o_bastore hB hv h hp k
  | lastore  => exact am_o_lastore hB hv h hp k
  | arraylength  => exact am_o_arraylength hB hv h hp k
  | _ => simp only [am_ex, reduceCtorEq] at h
theorem am_step_ok (hB : am_B y d p R s m args c D ca tys A H0 cells slots) (h : am_step y pc lv st I = some (P, pc', lv', st', I')) (hp : am_p P) (k : am_w p l e R s m args below meth c D ad ca A H0 cells slots Q y pc' lv' st' I') : am_w p l e R s m args below meth c D ad ca A H0 cells slots Q y pc lv st I := by
  unfold am_step at h
  split at h
  · cases h
  · rename_i ins nx1 ax1 tg1 hq
    exact am_ex_ok hB (am_chk_1 hB.2.2.2.2.2.2.2.2 (am_at_mem hq)) h hp k
theorem am_run_ok (hB : am_B y d p R s m args c D ca tys A H0 cells slots) (ss : List Nat) : ∀ (n : Nat) (pc : Nat) (lv : List (Nat × am_v)) (st : List am_v) (I : am_I) (P : Option Prop), am_run n ss y pc lv st I = some (P, pc', lv', st', I') → am_p P → am_w p l e R s m args below meth c D ad ca A H0 cells slots Q y pc' lv' st' I' → am_w p l e R s m args below meth c D ad ca A H0 cells slots Q y pc lv st I := by
  intro n
  induction n with
  | zero =>
    intro pc lv st I P h hp k
    unfold am_run at h
    cases h
    exact k
  | succ n ih =>
    intro pc lv st I P h hp k
    unfold am_run at h
    split at h
    · cases h
      exact k
    · rename_i P1 pc1 lv1 st1 I1 h1
      split at h
      · cases h
        exact am_step_ok hB h1 hp k
      · split at h
        · cases h
        · rename_i Q1 c1 h2
          obtain ⟨pc2, lv2, st2, I2⟩ := c1
          split at h
          · cases h
            exact am_step_ok hB h1 trivial (ih _ _ _ _ _ h2 hp k)
          · split at h
            · cases h
              exact am_step_ok hB h1 hp (ih _ _ _ _ _ h2 trivial k)
            · cases h
              exact am_step_ok hB h1 hp.1 (ih _ _ _ _ _ h2 hp.2 k)
end AMH
end
section
def am_cndK {α : Type} (o : ClassFile.Cond) (x y : Int) (k : Prop → α) : α := match o with
  | .eq => k (x = y)
  | .ne => k (¬ x = y)
  | .lt => k (x < y)
  | .ge => k (y ≤ x)
  | .gt => k (y < x)
  | .le => k (x ≤ y)
theorem am_cndK_eq {α : Type} (o : ClassFile.Cond) (x y : Int) (k : Prop → α) : am_cndK o x y k = k (am_cnd o x y) := by cases o <;> rfl
abbrev am_BR : Type := Option (Prop × Prop × Nat × Nat × List am_v)
def am_brf (y : am_Y) (pc : Nat) (st : List am_v) : am_BR := match am_at y.2.2.2.2.1 pc with
  | some (.ifCond o _, nx, _, tg) => match st with
    | .inl x :: r => am_cndK o x 0 (fun c => some (-2147483648 ≤ x ∧ x < 2147483648, c, tg, nx, r))
    | _ => none
  | some (.if_icmp o _, nx, _, tg) => match st with
    | .inl z :: .inl x :: r => am_cndK o x z (fun c => some ((-2147483648 ≤ x ∧ x < 2147483648) ∧ (-2147483648 ≤ z ∧ z < 2147483648), c, tg, nx, r))
    | _ => none
  | some (.lcmp, nx, _, _) => match st with
    | .inr (.inl z) :: .inr (.inl x) :: r => match am_at y.2.2.2.2.1 nx with
      | some (.ifCond o _, nx2, _, tg) => am_cndK o x z (fun c => some ((-9223372036854775808 ≤ x ∧ x < 9223372036854775808) ∧ (-9223372036854775808 ≤ z ∧ z < 9223372036854775808), c, tg, nx2, r))
      | _ => none
    | _ => none
  | _ => none
theorem am_cmp_lt {x z : Int} (hx : -9223372036854775808 ≤ x ∧ x < 9223372036854775808) (hz : -9223372036854775808 ≤ z ∧ z < 9223372036854775808) : lg_cmp (Int64.ofInt x) (Int64.ofInt z) = Int32.ofInt (if z < x then 1 else if x = z then 0 else -1) := by
  unfold lg_cmp
  have e1 : (Int64.ofInt x > Int64.ofInt z) ↔ z < x := am_lt64 hz hx
  have e2 : (Int64.ofInt x = Int64.ofInt z) ↔ x = z := am_eq64 hx hz
  by_cases h1 : z < x
  · rw [if_pos (e1.mpr h1), if_pos h1]; decide +kernel
  · rw [if_neg (fun q => h1 (e1.mp q)), if_neg h1]
    by_cases h2 : x = z
    · rw [if_pos (e2.mpr h2), if_pos h2]; decide +kernel
    · rw [if_neg (fun q => h2 (e2.mp q)), if_neg h2]; decide +kernel
section AMB
variable {p : Program} {l : Launch} {e : Env} {R : Room} {s : State} {m : MethodId} {args : Array Value} {below : List Frame} {meth : Method} {c : Code} {cells slots : Nat} {Q : State → Prop} {D : va_G} {ad : Nat → Nat} {ca : Nat → ClassId} {tys : List (ClassId × FieldType)} {A : Nat → Prop} {H0 : Heap} {y : am_Y} {d : Nat} {pc nx tg : Nat} {lv : List (Nat × am_v)} {st r : List am_v} {I : am_I} {P C : Prop}
theorem am_if_ok {o : ClassFile.Cond} {off : Int} {x : Int} {H : Heap} {locs : List Loc} {ls : Array Slot} {rest : List Value} (hx : p.tables.exec = Jvm.exec) (hb : c.code = y.2.1) (hd : decode y.2.1 pc = .ok (.ifCond o off, 3)) (ht : (pc : Int) + off = (tg : Int)) (h : -2147483648 ≤ x ∧ x < 2147483648)
    (kt : am_cnd o x 0 → W p l e R s m args below meth c H locs cells slots Q (F0 m tg ls rest)) (kf : ¬ am_cnd o x 0 → W p l e R s m args below meth c H locs cells slots Q (F0 m (pc + 3) ls rest)) : W p l e R s m args below meth c H locs cells slots Q (F0 m pc ls (.int (Int32.ofInt x) :: rest)) := by
  have e0 : (0 : Int32) = Int32.ofInt 0 := by decide +kernel
  have h0 : -2147483648 ≤ (0 : Int) ∧ (0 : Int) < 2147483648 := by omega
  have q1 : (Int32.ofInt x = 0) ↔ x = 0 := by rw [e0]; exact am_eq32 h h0
  have q2 : (Int32.ofInt x < 0) ↔ x < 0 := by rw [e0]; exact am_lt32 h h0
  have q3 : (0 ≤ Int32.ofInt x) ↔ 0 ≤ x := by rw [e0]; exact am_le32 h0 h
  have q4 : (0 < Int32.ofInt x) ↔ 0 < x := by rw [e0]; exact am_lt32 h0 h
  have q5 : (Int32.ofInt x ≤ 0) ↔ x ≤ 0 := by rw [e0]; exact am_le32 h h0
  cases o with
  | eq => exact lv_if_eq hx hb hd ht (fun z => kt (q1.mp z)) (fun z => kf (fun w => z (q1.mpr w)))
  | ne => exact lv_if_ne hx hb hd ht (fun z => kt (fun w => z (q1.mpr w))) (fun z => kf (fun w => w (q1.mp z)))
  | lt => exact lv_if_lt hx hb hd ht (fun z => kt (q2.mp z)) (fun z => kf (fun w => z (q2.mpr w)))
  | ge => exact lv_if_ge hx hb hd ht (fun z => kt (q3.mp z)) (fun z => kf (fun w => z (q3.mpr w)))
  | gt => exact lv_if_gt hx hb hd ht (fun z => kt (q4.mp z)) (fun z => kf (fun w => z (q4.mpr w)))
  | le => exact lv_if_le hx hb hd ht (fun z => kt (q5.mp z)) (fun z => kf (fun w => z (q5.mpr w)))
theorem am_icmp_ok {o : ClassFile.Cond} {off : Int} {x z : Int} {H : Heap} {locs : List Loc} {ls : Array Slot} {rest : List Value} (hx : p.tables.exec = Jvm.exec) (hb : c.code = y.2.1) (hd : decode y.2.1 pc = .ok (.if_icmp o off, 3)) (ht : (pc : Int) + off = (tg : Int)) (h : -2147483648 ≤ x ∧ x < 2147483648) (h0 : -2147483648 ≤ z ∧ z < 2147483648)
    (kt : am_cnd o x z → W p l e R s m args below meth c H locs cells slots Q (F0 m tg ls rest)) (kf : ¬ am_cnd o x z → W p l e R s m args below meth c H locs cells slots Q (F0 m (pc + 3) ls rest)) : W p l e R s m args below meth c H locs cells slots Q (F0 m pc ls (.int (Int32.ofInt z) :: .int (Int32.ofInt x) :: rest)) := by
  have q1 : (Int32.ofInt x = Int32.ofInt z) ↔ x = z := am_eq32 h h0
  have q2 : (Int32.ofInt x < Int32.ofInt z) ↔ x < z := am_lt32 h h0
  have q3 : (Int32.ofInt z ≤ Int32.ofInt x) ↔ z ≤ x := am_le32 h0 h
  have q4 : (Int32.ofInt z < Int32.ofInt x) ↔ z < x := am_lt32 h0 h
  have q5 : (Int32.ofInt x ≤ Int32.ofInt z) ↔ x ≤ z := am_le32 h h0
  cases o with
  | eq => exact lv_icmp_eq hx hb hd ht (fun z => kt (q1.mp z)) (fun z => kf (fun w => z (q1.mpr w)))
  | ne => exact lv_icmp_ne hx hb hd ht (fun z => kt (fun w => z (q1.mpr w))) (fun z => kf (fun w => w (q1.mp z)))
  | lt => exact lv_icmp_lt hx hb hd ht (fun z => kt (q2.mp z)) (fun z => kf (fun w => z (q2.mpr w)))
  | ge => exact lv_icmp_ge hx hb hd ht (fun z => kt (q3.mp z)) (fun z => kf (fun w => z (q3.mpr w)))
  | gt => exact lv_icmp_gt hx hb hd ht (fun z => kt (q4.mp z)) (fun z => kf (fun w => z (q4.mpr w)))
  | le => exact lv_icmp_le hx hb hd ht (fun z => kt (q5.mp z)) (fun z => kf (fun w => z (q5.mpr w)))
theorem am_sg {o : ClassFile.Cond} {x z : Int} : am_cnd o (if z < x then 1 else if x = z then 0 else -1) 0 ↔ am_cnd o x z := by
  by_cases h1 : z < x
  · rw [if_pos h1]; cases o <;> simp only [am_cnd] <;> omega
  · rw [if_neg h1]
    by_cases h2 : x = z
    · rw [if_pos h2]; subst h2; cases o <;> simp [am_cnd]
    · rw [if_neg h2]; cases o <;> simp only [am_cnd] <;> omega
theorem am_br_w (hB : am_B y d p R s m args c D ca tys A H0 cells slots) (h : am_brf y pc st = some (P, C, tg, nx, r)) (hp : P) (kt : C → am_w p l e R s m args below meth c D ad ca A H0 cells slots Q y tg lv r I) (kf : ¬ C → am_w p l e R s m args below meth c D ad ca A H0 cells slots Q y nx lv r I) : am_w p l e R s m args below meth c D ad ca A H0 cells slots Q y pc lv st I := by
  obtain ⟨⟨hx, hb, hml, hown⟩, hts, hN, hK, hT, hA, hR, hC, hk⟩ := hB
  unfold am_brf at h
  split at h
  · rename_i o off nx1 ax1 tg1 hat
    obtain ⟨hd, hn, hw⟩ := am_v1_sp rfl (am_chk_1 hk (am_at_mem hat))
    simp only [am_vx, decide_eq_true_eq] at hw
    split at h
    · rename_i x r1
      rw [am_cndK_eq] at h
      cases h
      subst hn
      intro H locs ls hP hD hS hl
      exact am_if_ok hx hb hd hw hp (fun z => kt z H locs ls hP hD hS hl) (fun z => kf z H locs ls hP hD hS hl)
    · cases h
  · rename_i o off nx1 ax1 tg1 hat
    obtain ⟨hd, hn, hw⟩ := am_v1_sp rfl (am_chk_1 hk (am_at_mem hat))
    simp only [am_vx, decide_eq_true_eq] at hw
    split at h
    · rename_i z x r1
      rw [am_cndK_eq] at h
      cases h
      subst hn
      intro H locs ls hP hD hS hl
      exact am_icmp_ok hx hb hd hw hp.1 hp.2 (fun z => kt z H locs ls hP hD hS hl) (fun z => kf z H locs ls hP hD hS hl)
    · cases h
  · rename_i nx1 ax1 tg1 hat
    obtain ⟨hd, hn, hw⟩ := am_v1_sp rfl (am_chk_1 hk (am_at_mem hat))
    split at h
    · rename_i z x r1
      split at h
      · rename_i o off nx2 ax2 tg2 hat2
        obtain ⟨hd2, hn2, hw2⟩ := am_v1_sp rfl (am_chk_1 hk (am_at_mem hat2))
        simp only [am_vx, decide_eq_true_eq] at hw2
        rw [am_cndK_eq] at h
        cases h
        subst hn2
        intro H locs ls hP hD hS hl
        refine W.lcmp hx hb hd ?_
        rw [am_cmp_lt hp.1 hp.2]
        have e1 : nx1 = pc + 1 := hn
        rw [← e1]
        refine am_if_ok hx hb hd2 hw2 ?_ (fun z => kt (am_sg.mp z) H locs ls hP hD hS hl) (fun z => kf (fun w => z (am_sg.mpr w)) H locs ls hP hD hS hl)
        split
        · omega
        · split <;> omega
      · cases h
    · cases h
  · cases h
end AMB
def am_Qc (D : va_G) (ad : Nat → Nat) (ca : Nat → ClassId) (tys : List (ClassId × FieldType)) (Po : Option am_v → am_I → Prop) (ws : va_W) (sz : Nat) : Array Value → State → Outcome → State → Prop := fun _ st oc t => (∃ (r : Option am_v) (I' : am_I), oc = .returned (r.map (am_c ad)) ∧ Po r I' ∧ va_P D es_cl (am_W ad ca I') t.heap ∧ va_K D es_cl tys t ∧ va_D (va_A ws sz) (am_W ad ca I')) ∧ va_F (va_A ws sz) st t
def am_ws (y : am_Y) : List Jvm.Cond := .code y.1 y.2.1 y.2.2.1 y.2.2.2.1 :: es_gt
def am_rm (d : Nat) : Room := { frames := d, cells := 0, slots := 0, locals := 37 * d }
def am_Pc (D : va_G) (ad : Nat → Nat) (ca : Nat → ClassId) (tys : List (ClassId × FieldType)) (as : List am_v) (I : am_I) (sz : Nat) : Array Value → State → Prop := va_Pc (as.map (am_c ad)) (fun U => U.heap.size = sz ∧ va_P D es_cl (am_W ad ca I) U.heap ∧ va_K D es_cl tys U ∧ es_N U ∧ va_D (fun _ => True) (am_W ad ca I))
def am_C (d : Nat) (y : am_Y) (as : List am_v) (I : am_I) (Po : Option am_v → am_I → Prop) : Prop := ∀ (l : Launch) (D : va_G) (ad : Nat → Nat) (ca : Nat → ClassId) (tys : List (ClassId × FieldType)) (sz : Nat), am_T ca tys → Met l y.1 (am_ws y) (am_rm d) (am_Pc D ad ca tys as I sz) (am_Qc D ad ca tys Po (am_W ad ca I) sz) 0 0 (va_A (am_W ad ca I) sz)
def am_EM (d : Nat) (y : am_Y) (Po : Option am_v → am_I → Prop) (I0 : am_I) (p : Program) (R : Room) (s : State) (m : MethodId) (args : Array Value) (below : List Frame) (meth : Method) (c : Code) (D : va_G) (ad : Nat → Nat) (ca : Nat → ClassId) (tys : List (ClassId × FieldType)) (A : Nat → Prop) (H0 : Heap) (Q : State → Prop) : Prop :=
  am_B y d p R s m args c D ca tys A H0 0 0 ∧ H0 = s.heap ∧ A = va_A (am_W ad ca I0) s.heap.size ∧ meth.sig.returnType = y.2.2.2.1 ∧ meth.locks = false ∧ Q = MQ below (am_Qc D ad ca tys Po (am_W ad ca I0) s.heap.size) args s 0 0 (va_A (am_W ad ca I0) s.heap.size)
def am_V (d : Nat) (y : am_Y) (Po : Option am_v → am_I → Prop) (pc : Nat) (lv : List (Nat × am_v)) (st : List am_v) (I : am_I) : Prop :=
  ∀ (I0 : am_I) (p : Program) (l : Launch) (e : Env) (R : Room) (s : State) (m : MethodId) (args : Array Value) (below : List Frame) (meth : Method) (c : Code) (D : va_G) (ad : Nat → Nat) (ca : Nat → ClassId) (tys : List (ClassId × FieldType)) (A : Nat → Prop) (H0 : Heap) (Q : State → Prop), am_EM d y Po I0 p R s m args below meth c D ad ca tys A H0 Q → am_w p l e R s m args below meth c D ad ca A H0 0 0 Q y pc lv st I
theorem am_go {d : Nat} {y : am_Y} {Po : Option am_v → am_I → Prop} {pc pc' : Nat} {lv lv' : List (Nat × am_v)} {st st' : List am_v} {I I' : am_I} {P : Option Prop} (n : Nat) (ss : List Nat) (h : am_run n ss y pc lv st I = some (P, pc', lv', st', I')) (hp : am_p P) (k : am_V d y Po pc' lv' st' I') : am_V d y Po pc lv st I := by
  intro I0 p l e R s m args below meth c D ad ca tys A H0 Q hE
  exact am_run_ok hE.1 ss n pc lv st I P h hp (k I0 p l e R s m args below meth c D ad ca tys A H0 Q hE)
theorem am_br {d : Nat} {y : am_Y} {Po : Option am_v → am_I → Prop} {pc tg nx : Nat} {lv : List (Nat × am_v)} {st r : List am_v} {I : am_I} {P C : Prop} (h : am_brf y pc st = some (P, C, tg, nx, r)) (hp : P) (kt : C → am_V d y Po tg lv r I) (kf : ¬ C → am_V d y Po nx lv r I) : am_V d y Po pc lv st I := by
  intro I0 p l e R s m args below meth c D ad ca tys A H0 Q hE
  exact am_br_w hE.1 h hp (fun z => kt z I0 p l e R s m args below meth c D ad ca tys A H0 Q hE) (fun z => kf z I0 p l e R s m args below meth c D ad ca tys A H0 Q hE)
theorem am_weak {d : Nat} {y : am_Y} {Po : Option am_v → am_I → Prop} {pc : Nat} {lv lv' : List (Nat × am_v)} {st : List am_v} {I : am_I} (h : ∀ q ∈ lv', q ∈ lv) (k : am_V d y Po pc lv' st I) : am_V d y Po pc lv st I := by
  intro I0 p l e R s m args below meth c D ad ca tys A H0 Q hE H locs ls hP hD hS hl
  refine k I0 p l e R s m args below meth c D ad ca tys A H0 Q hE H locs ls hP hD hS ⟨hl.1, hl.2.1, fun q hq => hl.2.2 q ?_⟩
  obtain ⟨z, hz, rfl⟩ := List.mem_map.mp hq
  exact List.mem_map.mpr ⟨z, h z hz, rfl⟩
def am_rtf (y : am_Y) (pc : Nat) (st : List am_v) : Option (Option Prop × Option am_v) := match am_at y.2.2.2.2.1 pc with
  | some (.ireturn, _, _, _) => match st with
    | [.inl x] => match y.2.2.2.1 with
      | some .int => some (none, some (.inl x))
      | some .boolean => some (some (x = 0 ∨ x = 1), some (.inl x))
      | _ => none
    | _ => none
  | some (.lreturn, _, _, _) => match st with
    | [.inr (.inl x)] => match y.2.2.2.1 with
      | some .long => some (none, some (.inr (.inl x)))
      | _ => none
    | _ => none
  | some (.return_, _, _, _) => match st with
    | [] => match y.2.2.2.1 with
      | none => some (none, none)
      | _ => none
    | _ => none
  | _ => none
theorem am_rt {d : Nat} {y : am_Y} {Po : Option am_v → am_I → Prop} {pc : Nat} {lv : List (Nat × am_v)} {st : List am_v} {I : am_I} {P : Option Prop} {r : Option am_v} (h : am_rtf y pc st = some (P, r)) (hp : am_p P) (k : Po r I) : am_V d y Po pc lv st I := by
  intro I0 p l e R s m args below meth c D ad ca tys A H0 Q hE H locs ls hP hD hS hl
  obtain ⟨⟨⟨hx, hb, hml, hown⟩, hts, hN, hK, hT, hA, hR, hC, hk⟩, rfl, rfl, hr, hlocks, rfl⟩ := hE
  have fin : ∀ t : State, t.heap = H → s.WarmedH t.vm → am_Qc D ad ca tys Po (am_W ad ca I0) s.heap.size args s (.returned (r.map (am_c ad))) t := fun t ht hW => ⟨⟨r, I, rfl, k, by rw [ht]; exact hP, va_K.moved hW.alike hK, hD⟩, hS.F ht⟩
  unfold am_rtf at h
  split at h
  · rename_i nx1 ax1 tg1 hat
    obtain ⟨hd, hn, hw⟩ := am_v1_sp rfl (am_chk_1 hk (am_at_mem hat))
    split at h
    · rename_i x
      split at h
      · rename_i hy
        cases h
        rw [hy] at hr
        exact W.iret hx hb hr fin hS.2.2 hd hlocks
      · rename_i hy
        cases h
        rw [hy] at hr
        exact W.zret hx hb hr (by rcases (show x = 0 ∨ x = 1 from hp) with rfl | rfl <;> decide +kernel) fin hS.2.2 hd hlocks
      · cases h
    · cases h
  · rename_i nx1 ax1 tg1 hat
    obtain ⟨hd, hn, hw⟩ := am_v1_sp rfl (am_chk_1 hk (am_at_mem hat))
    split at h
    · rename_i x
      split at h
      · rename_i hy
        cases h
        rw [hy] at hr
        exact W.lret hx hb hr fin hS.2.2 hd hlocks
      · cases h
    · cases h
  · rename_i nx1 ax1 tg1 hat
    obtain ⟨hd, hn, hw⟩ := am_v1_sp rfl (am_chk_1 hk (am_at_mem hat))
    split at h
    · split at h
      · rename_i hy
        cases h
        rw [hy] at hr
        exact W.vret hx hb hr fin hS.2.2 hd hlocks
      · cases h
    · cases h
  · cases h
def am_args : Nat → List am_v → List (Nat × am_v)
  | _, [] => []
  | i, v :: vs => match am_wide v with
    | true => (i, v) :: am_args (i + 2) vs
    | false => (i, v) :: am_args (i + 1) vs
theorem am_args_eq (ad : Nat → Nat) : ∀ (as : List am_v) (i : Nat), am_cl ad (am_args i as) = lv_args i (as.map (am_c ad))
  | [], i => rfl
  | v :: vs, i => by
    simp only [am_args, List.map_cons, lv_args, am_wide_cat]
    cases hw : am_wide v with
    | true => simp only [if_true]; rw [← am_args_eq ad vs (i + 2)]; rfl
    | false =>
      have e : ¬ ((if false = true then 2 else 1) = 2) := by decide
      simp only [e, if_false]
      rw [← am_args_eq ad vs (i + 1)]; rfl
def am_sz : List am_v → Nat
  | [] => 0
  | v :: vs => match am_wide v with
    | true => am_sz vs + 2
    | false => am_sz vs + 1
theorem am_sz_eq (ad : Nat → Nat) : ∀ (as : List am_v), (lg_sl (as.map (am_c ad))).length = am_sz as
  | [] => rfl
  | v :: vs => by
    have ih := am_sz_eq ad vs
    unfold lg_sl at ih ⊢
    rw [List.map_cons, List.flatMap_cons, List.length_append, ih]
    rcases v with x | x | x <;> simp [am_sz, am_wide, am_c, Value.category] <;> omega
def am_yok (y : am_Y) : Prop := am_chk y ∧ plainName y.1.cls = true ∧ y.2.2.1 ≤ 18 ∧ Jvm.Cond.code y.1 y.2.1 y.2.2.1 y.2.2.2.1 ∈ es_gt
theorem am_enter {d : Nat} {y : am_Y} {as : List am_v} {I : am_I} {Po : Option am_v → am_I → Prop} (hy : am_yok y) (hz : Nat.ble (am_sz as) y.2.2.1 = true) (h : am_V d y Po 0 (am_args 0 as) [] I) : am_C d y as I Po := by
  intro l D ad ca tys sz hT
  refine Met.ofW (cc := y.2.1) (maxL := y.2.2.1) (ret := y.2.2.2.1) hy.2.1 rfl ?_
  intro p e s m args below meth c s₁ B hml hv
  obtain ⟨rfl, hsz, hP, hK, hN, hD⟩ := hv
  subst hsz
  have hts := atoms_spec (ws := am_ws y) B.pre
  have hl := lv_entry (as.map (am_c ad)) (n := y.2.2.1) (by rw [am_sz_eq]; exact Nat.le_of_ble_eq_true hz)
  rw [lg_entry_eq]
  refine h I p l e _ s m _ below meth c D ad ca tys (va_A (am_W ad ca I) s.heap.size) s.heap _ ⟨⟨⟨B.exec, B.bytes, hml, findClass_of_methodNamed B.named⟩, fun w hw => hts w (List.mem_cons_of_mem _ hw), hN, hK, hT, fun q h => Or.inr h, ⟨Nat.le_refl _, Nat.le_refl _⟩, ⟨Nat.zero_le _, Nat.zero_le _⟩, hy.1⟩, rfl, rfl, B.returns, B.notSynchronized, rfl⟩ s.heap [] _ hP hD.self va_S.rf ?_
  rw [am_args_eq]
  exact hl
end
section
def am_np (dsc : String) : Option Nat := (parseMethodDescriptor dsc).map (fun d => d.parameters.length)
def am_nmh (c : String) : Bool := decide (c ≠ "java/lang/invoke/MethodHandle" ∧ c ≠ "java/lang/invoke/VarHandle")
def am_lkV (own : String) (n : Nat) (C : String) (x : MethodName) (k : Nat) : Prop := Jvm.Cond.methodLink own n x ∈ es_gt ∧ Jvm.Cond.instanceMethod x ∈ es_gt ∧ Jvm.Cond.selects C x x ∈ es_gt ∧ Jvm.Cond.initialized x.cls ∈ es_gt ∧ am_nmh x.cls = true ∧ am_np x.desc = some k
def am_lkS (own : String) (n : Nat) (x : MethodName) (k : Nat) : Prop := Jvm.Cond.methodLink own n x ∈ es_gt ∧ Jvm.Cond.static x ∈ es_gt ∧ Jvm.Cond.initialized x.cls ∈ es_gt ∧ am_nmh x.cls = true ∧ am_np x.desc = some k
def am_lkN (own : String) (n : Nat) (x : MethodName) (host : String) (k : Nat) : Prop := Jvm.Cond.methodLinkNest own n x host ∈ lw_tbl ∧ Jvm.Cond.static x ∈ es_gt ∧ Jvm.Cond.initialized x.cls ∈ es_gt ∧ am_nmh x.cls = true ∧ am_np x.desc = some k
def am_lkU (own : String) (n : Nat) (C owner : String) (x y : MethodName) (k : Nat) : Prop := Jvm.Cond.methodLink own n x ∈ es_gt ∧ Jvm.Cond.sameMethod x.cls owner x.name x.desc ∈ es_gt ∧ Jvm.Cond.declares ⟨owner, x.name, x.desc⟩ ∈ lw_tbl ∧ Jvm.Cond.selects C x y ∈ es_gt ∧ Jvm.Cond.instanceMethod y ∈ es_gt ∧ Jvm.Cond.initialized y.cls ∈ es_gt ∧ am_nmh owner = true ∧ am_np x.desc = some k
def am_cn (b : Nat) : Option String := match am_nth ES b with
  | some (.inl o) => match am_nth es_cl o.1 with
    | some q => some q.1
    | none => none
  | _ => none
theorem am_cn_sp {b : Nat} {C : String} (h : am_cn b = some C) : ∃ (o : Nat × List (Bool ⊕ Nat)) (q : vw_C), am_nth ES b = some (.inl o) ∧ es_cl[o.1]? = some q ∧ q.1 = C := by
  unfold am_cn at h
  split at h
  · rename_i o ho
    split at h
    · rename_i q hq
      cases h
      exact ⟨o, q, ho, by rw [← am_nth_eq]; exact hq, rfl⟩
    · cases h
  · cases h
def am_cut : Nat → List am_v → List am_v → Option (List am_v × List am_v)
  | 0, acc, st => some (acc, st)
  | _ + 1, _, [] => none
  | k + 1, acc, v :: st => am_cut k (v :: acc) st
theorem am_cut_sp : ∀ {k : Nat} {acc st as rest : List am_v}, am_cut k acc st = some (as, rest) → as.reverse ++ rest = acc.reverse ++ st ∧ as.length = acc.length + k
  | 0, acc, st, as, rest, h => by
    unfold am_cut at h
    cases h
    exact ⟨rfl, rfl⟩
  | k + 1, acc, [], as, rest, h => by
    unfold am_cut at h
    cases h
  | k + 1, acc, v :: st, as, rest, h => by
    unfold am_cut at h
    obtain ⟨h1, h2⟩ := am_cut_sp h
    refine ⟨?_, ?_⟩
    · rw [h1, List.reverse_cons, List.append_assoc]; rfl
    · rw [h2, List.length_cons]; omega
theorem am_sz_cat (ad : Nat → Nat) : ∀ (as : List am_v), ((as.map (am_c ad)).map fun v => v.category).sum = am_sz as
  | [] => rfl
  | v :: vs => by
    have ih := am_sz_cat ad vs
    rw [List.map_cons, List.map_cons, List.sum_cons, ih]
    rcases v with x | x | x <;> simp [am_sz, am_wide, am_c, Value.category] <;> omega
theorem am_Pc_blind {D : va_G} {ad : Nat → Nat} {ca : Nat → ClassId} {tys : List (ClassId × FieldType)} {as : List am_v} {I : am_I} {sz : Nat} : FrameBlind (am_Pc D ad ca tys as I sz) := by
  intro a U g mk q
  obtain ⟨q0, q1, qP, qK, qN, qD⟩ := q
  exact ⟨q0, q1, qP, va_K.moved (u := U) (U := U.calling g mk a) (Vm.Alike.refl U.vm) qK, es_N.same (u := U) (U := U.calling g mk a) rfl qN, qD⟩
theorem am_hws {args : Array Value} {s : State} {y' : am_Y} (hts : ∀ w ∈ es_gt, w.before args s = true) (hy : am_yok y') : (∀ w ∈ am_ws y', ∀ (a' : Array Value) (U : State), s.WarmedH U.vm → w.before a' U = true) ∧ (Jvm.Cond.code y'.1 y'.2.1 y'.2.2.1 y'.2.2.2.1).before args s = true ∧ y'.2.2.1 ≤ 18 := by
  have hc : Jvm.Cond.code y'.1 y'.2.1 y'.2.2.1 y'.2.2.2.1 ∈ es_gt := hy.2.2.2
  refine ⟨fun w hw a' U hW => ?_, hts _ hc, hy.2.2.1⟩
  rcases List.mem_cons.mp hw with rfl | hw
  · exact word_at hW (es_gt_good _ hc) (hts _ hc)
  · exact word_at hW (es_gt_good _ hw) (hts _ hw)
section AMC
variable {p : Program} {l : Launch} {e : Env} {R : Room} {s : State} {m : MethodId} {args : Array Value} {below : List Frame} {meth : Method} {c : Code} {cells slots : Nat} {Q : State → Prop} {D : va_G} {ad : Nat → Nat} {ca : Nat → ClassId} {tys : List (ClassId × FieldType)} {A : Nat → Prop} {H0 : Heap} {y y' : am_Y} {d : Nat} {pc nx tg n k : Nat} {ax : Int} {lv : List (Nat × am_v)} {st as rest : List am_v} {I : am_I} {Po' : Option am_v → am_I → Prop} {H : Heap} {locs : List Loc} {ls : Array Slot}
theorem am_post {a : Array Value} {st0 : List Value} {rs : List Value} {sz : Nat} {free : Addr → Prop} {ws : va_W} (hr : va_Run p l e R s m args below meth c H locs cells slots 0 0 (F0 m pc ls st0) rs (am_Qc D ad ca tys Po' ws sz a) free) (hS : va_S A H0 H locs) (hA : ∀ q, q < H.size → va_A ws sz q → A q) (hf : ∀ q, free q → A q) (hw : ∀ q, va_A ws sz q → A q)
    (kk : ∀ (r : Option am_v) (I' : am_I) (H1 : Heap) (locs1 : List Loc), Po' r I' → va_P D es_cl (am_W ad ca I') H1 → va_D A (am_W ad ca I') → va_S A H0 H1 locs1 → W p l e R s m args below meth c H1 locs1 cells slots Q (F0 m (pc + 3) ls ((r.map (am_c ad)).toList ++ rs))) : W p l e R s m args below meth c H locs cells slots Q (F0 m pc ls st0) := by
  intro T hT X
  obtain ⟨v, st₀, t, T', L, h0, X', hL, e1, e2, ⟨⟨r, I', hv, hp, hb1, hb2, hb3⟩, hz, hk⟩, st⟩ := hr T hT X
  cases hv
  rw [h0] at hz hk
  obtain ⟨t2, a1, b1⟩ := kk r I' T'.heap (locs ++ L) hp (by rw [e1]; exact hb1) (hb3.weaken (fun _ q _ h => hw q.1 h))
    ⟨Nat.le_trans hS.1 (by rw [e1]; exact hz), fun q h1 h2 => by rw [e1, hk q (Nat.lt_of_lt_of_le h1 hS.1) (fun z => h2 (hA q (Nat.lt_of_lt_of_le h1 hS.1) z))]; exact hS.2.1 q h1 h2, fun q hq => by
      rcases List.mem_append.mp hq with h | h
      · exact hS.2.2 q h
      · exact hf _ (hL q h)⟩ T' rfl X'
  exact ⟨t2, st t2 a1, b1⟩
theorem am_frees (hA : ∀ q, H0.size ≤ q → A q) (hD : va_D A (am_W ad ca I)) (hS : va_S A H0 H locs) : ∀ q, va_A (am_W ad ca I) H.size q → A q := by
  intro q hq
  rcases hq with ⟨k, e, h⟩ | h
  · exact hD.2 k (q, e) h
  · exact hA q (Nat.le_trans hS.1 h)
theorem am_toL1 (r : Option am_v) (rs : List am_v) : (r.map (am_c ad)).toList ++ rs.map (am_c ad) = (r.toList ++ rs).map (am_c ad) := by
  cases r <;> simp
theorem am_stk {b : Nat} (h : am_cut (k + 1) [] st = some (.inr (.inr b) :: as, rest)) : st.map (am_c ad) = (as.map (am_c ad)).reverse ++ .ref (ad b) :: rest.map (am_c ad) ∧ as.length = k := by
  obtain ⟨h1, h2⟩ := am_cut_sp h
  refine ⟨?_, by simpa using h2⟩
  have h1 : st = (.inr (.inr b) :: as).reverse ++ rest := by rw [h1]; rfl
  rw [h1]
  simp [am_c]
theorem am_stkS (h : am_cut k [] st = some (as, rest)) : st.map (am_c ad) = (as.map (am_c ad)).reverse ++ rest.map (am_c ad) ∧ as.length = k := by
  obtain ⟨h1, h2⟩ := am_cut_sp h
  refine ⟨?_, by simpa using h2⟩
  have h1 : st = as.reverse ++ rest := by rw [h1]; rfl
  rw [h1]
  simp
theorem am_cV_w {b : Nat} {C : String} (hB : am_B y (d + 1) p R s m args c D ca tys A H0 cells slots) (hat : am_at y.2.2.2.2.1 pc = some (.invokevirtual n, nx, ax, tg)) (hlk : am_lkV y.1.cls n C y'.1 k) (hy : am_yok y') (hcut : am_cut (k + 1) [] st = some (.inr (.inr b) :: as, rest)) (hrm : Nat.ble (am_sz rest) 8 = true) (hcn : am_cn b = some C) (hc : am_C d y' (.inr (.inr b) :: as) I Po')
    (kk : ∀ r I', Po' r I' → am_w p l e R s m args below meth c D ad ca A H0 cells slots Q y nx lv (r.toList ++ rest) I') : am_w p l e R s m args below meth c D ad ca A H0 cells slots Q y pc lv st I := by
  obtain ⟨⟨hx, hb, hml, hown⟩, hts, hN, hK, hT, hA, hR, hC, hk⟩ := hB
  obtain ⟨hd, hn, -⟩ := am_v1_sp rfl (am_chk_1 hk (am_at_mem hat))
  obtain ⟨o, q0, ho, hq0, rfl⟩ := am_cn_sp hcn
  obtain ⟨hws, hcode, hml'⟩ := am_hws hts hy
  obtain ⟨hst, hlen⟩ := am_stk (ad := ad) hcut
  obtain ⟨w1, w2, w3, w4, w5, w6⟩ := hlk
  intro H locs ls hP hD hS hl
  rw [hst]
  have run := va_runV (As := as.map (am_c ad)) (rest := rest.map (am_c ad)) (b := ad b) (g := F0 m pc ls ((as.map (am_c ad)).reverse ++ .ref (ad b) :: rest.map (am_c ad))) (n := k) (below := below) (meth := meth) (e := e) (locs := locs) (cells := cells) (slots := slots) ⟨hx, hb, hml, hown, hts⟩ (hc l D ad ca tys H.size hT)
    (⟨⟨rfl, rfl, by show d + 1 ≤ R.frames; exact hR.1, by show 8 + (y'.2.2.1 + 11) + 37 * d ≤ R.locals; omega, hws, List.mem_cons_self, hcode, hts _ w4, of_decide_eq_true w5, fun sig h => by
      have h2 := w6
      unfold am_np at h2
      rw [h] at h2
      exact (Option.some.inj h2).symm, hts _ w1⟩, hts _ w2, hts _ w3⟩ : CallW R s args y.1.cls q0.1 n y'.1 y'.2.1 y'.2.2.1 y'.2.2.2.1 (am_ws y') (am_rm d) 0 0 k)
    ⟨am_Pc_blind, va_recv hK hP hq0 (am_W_at I ho), fun U hU hW => ⟨rfl, by rw [hU], by rw [hU]; exact hP, va_K.moved hW.alike hK, es_N.warm hW hN, hD.weaken (fun _ _ _ _ => trivial)⟩⟩
    rfl (by rw [List.length_map]; exact hlen) hl.1 rfl (lv_room (by rw [am_sz_cat]; exact Nat.le_of_ble_eq_true hrm)) hd ⟨hC.1, hC.2⟩
  have hF := am_frees hA hD hS
  refine am_post run hS (fun q _ h => hF q h) hF hF (fun r I' H1 locs1 hp hP1 hD1 hS1 => ?_)
  rw [am_toL1]
  have e3 : nx = pc + 3 := hn
  subst e3
  exact kk r I' hp H1 locs1 ls hP1 hD1 hS1 hl
theorem am_cU_w {b : Nat} {C owner : String} {x : MethodName} (hB : am_B y (d + 1) p R s m args c D ca tys A H0 cells slots) (hat : am_at y.2.2.2.2.1 pc = some (.invokevirtual n, nx, ax, tg)) (hlk : am_lkU y.1.cls n C owner x y'.1 k) (hy : am_yok y') (hcut : am_cut (k + 1) [] st = some (.inr (.inr b) :: as, rest)) (hrm : Nat.ble (am_sz rest) 8 = true) (hcn : am_cn b = some C) (hc : am_C d y' (.inr (.inr b) :: as) I Po')
    (kk : ∀ r I', Po' r I' → am_w p l e R s m args below meth c D ad ca A H0 cells slots Q y nx lv (r.toList ++ rest) I') : am_w p l e R s m args below meth c D ad ca A H0 cells slots Q y pc lv st I := by
  obtain ⟨⟨hx, hb, hml, hown⟩, hts, hN, hK, hT, hA, hR, hC, hk⟩ := hB
  obtain ⟨hd, hn, -⟩ := am_v1_sp rfl (am_chk_1 hk (am_at_mem hat))
  obtain ⟨o, q0, ho, hq0, rfl⟩ := am_cn_sp hcn
  obtain ⟨hws, hcode, hml'⟩ := am_hws hts hy
  obtain ⟨hst, hlen⟩ := am_stk (ad := ad) hcut
  obtain ⟨w1, w2, w3, w4, w5, w6, w7, w8⟩ := hlk
  intro H locs ls hP hD hS hl
  rw [hst]
  have run := va_runU (As := as.map (am_c ad)) (rest := rest.map (am_c ad)) (b := ad b) (g := F0 m pc ls ((as.map (am_c ad)).reverse ++ .ref (ad b) :: rest.map (am_c ad))) (n := k) (below := below) (meth := meth) (e := e) (locs := locs) (cells := cells) (slots := slots) ⟨hx, hb, hml, hown, hts⟩ (hc l D ad ca tys H.size hT)
    (⟨⟨rfl, rfl, by show d + 1 ≤ R.frames; exact hR.1, by show 8 + (y'.2.2.1 + 11) + 37 * d ≤ R.locals; omega, hws, List.mem_cons_self⟩, hcode, hts _ w6, of_decide_eq_true w7, fun sig h => by
      have h2 := w8
      unfold am_np at h2
      rw [h] at h2
      exact (Option.some.inj h2).symm, hts _ w1, hts _ w2, va_Decl.abs (hN _ w3 rfl), hts _ w4, hts _ w5⟩ : va_CU R s args y.1.cls q0.1 owner n x y'.1 y'.2.1 y'.2.2.1 y'.2.2.2.1 (am_ws y') (am_rm d) 0 0 k)
    ⟨am_Pc_blind, va_recv hK hP hq0 (am_W_at I ho), fun U hU hW => ⟨rfl, by rw [hU], by rw [hU]; exact hP, va_K.moved hW.alike hK, es_N.warm hW hN, hD.weaken (fun _ _ _ _ => trivial)⟩⟩
    rfl (by rw [List.length_map]; exact hlen) hl.1 rfl (lv_room (by rw [am_sz_cat]; exact Nat.le_of_ble_eq_true hrm)) hd ⟨hC.1, hC.2⟩
  have hF := am_frees hA hD hS
  refine am_post run hS (fun q _ h => hF q h) hF hF (fun r I' H1 locs1 hp hP1 hD1 hS1 => ?_)
  rw [am_toL1]
  have e3 : nx = pc + 3 := hn
  subst e3
  exact kk r I' hp H1 locs1 ls hP1 hD1 hS1 hl
theorem am_cS_w (hB : am_B y (d + 1) p R s m args c D ca tys A H0 cells slots) (hat : am_at y.2.2.2.2.1 pc = some (.invokestatic n, nx, ax, tg)) (hlk : am_lkS y.1.cls n y'.1 k) (hy : am_yok y') (hcut : am_cut k [] st = some (as, rest)) (hrm : Nat.ble (am_sz rest) 8 = true) (hc : am_C d y' as I Po')
    (kk : ∀ r I', Po' r I' → am_w p l e R s m args below meth c D ad ca A H0 cells slots Q y nx lv (r.toList ++ rest) I') : am_w p l e R s m args below meth c D ad ca A H0 cells slots Q y pc lv st I := by
  obtain ⟨⟨hx, hb, hml, hown⟩, hts, hN, hK, hT, hA, hR, hC, hk⟩ := hB
  obtain ⟨hd, hn, -⟩ := am_v1_sp rfl (am_chk_1 hk (am_at_mem hat))
  obtain ⟨hws, hcode, hml'⟩ := am_hws hts hy
  obtain ⟨hst, hlen⟩ := am_stkS (ad := ad) hcut
  obtain ⟨w1, w2, w3, w5, w6⟩ := hlk
  intro H locs ls hP hD hS hl
  rw [hst]
  have run := va_runS (As := as.map (am_c ad)) (rest := rest.map (am_c ad)) (g := F0 m pc ls ((as.map (am_c ad)).reverse ++ rest.map (am_c ad))) (n := k) (below := below) (meth := meth) (e := e) (locs := locs) (cells := cells) (slots := slots) ⟨hx, hb, hml, hown, hts⟩ (hc l D ad ca tys H.size hT)
    (⟨⟨rfl, rfl, by show d + 1 ≤ R.frames; exact hR.1, by show 8 + (y'.2.2.1 + 11) + 37 * d ≤ R.locals; omega, hws, List.mem_cons_self, hcode, hts _ w3, of_decide_eq_true w5, fun sig h => by
      have h2 := w6
      unfold am_np at h2
      rw [h] at h2
      exact (Option.some.inj h2).symm, hts _ w1⟩, hts _ w2⟩ : CallB R s args y.1.cls n y'.1 y'.2.1 y'.2.2.1 y'.2.2.2.1 (am_ws y') (am_rm d) 0 0 k ∧ (Jvm.Cond.static y'.1).before args s = true)
    ⟨am_Pc_blind, fun U hU hW => ⟨rfl, by rw [hU], by rw [hU]; exact hP, va_K.moved hW.alike hK, es_N.warm hW hN, hD.weaken (fun _ _ _ _ => trivial)⟩⟩
    rfl (by rw [List.length_map]; exact hlen) hl.1 rfl (lv_room (by rw [am_sz_cat]; exact Nat.le_of_ble_eq_true hrm)) hd ⟨hC.1, hC.2⟩
  have hF := am_frees hA hD hS
  refine am_post run hS (fun q _ h => hF q h) hF hF (fun r I' H1 locs1 hp hP1 hD1 hS1 => ?_)
  rw [am_toL1]
  have e3 : nx = pc + 3 := hn
  subst e3
  exact kk r I' hp H1 locs1 ls hP1 hD1 hS1 hl
theorem am_cN_w {host : String} (hB : am_B y (d + 1) p R s m args c D ca tys A H0 cells slots) (hat : am_at y.2.2.2.2.1 pc = some (.invokestatic n, nx, ax, tg)) (hlk : am_lkN y.1.cls n y'.1 host k) (hy : am_yok y') (hcut : am_cut k [] st = some (as, rest)) (hrm : Nat.ble (am_sz rest) 8 = true) (hc : am_C d y' as I Po')
    (kk : ∀ r I', Po' r I' → am_w p l e R s m args below meth c D ad ca A H0 cells slots Q y nx lv (r.toList ++ rest) I') : am_w p l e R s m args below meth c D ad ca A H0 cells slots Q y pc lv st I := by
  obtain ⟨⟨hx, hb, hml, hown⟩, hts, hN, hK, hT, hA, hR, hC, hk⟩ := hB
  obtain ⟨hd, hn, -⟩ := am_v1_sp rfl (am_chk_1 hk (am_at_mem hat))
  obtain ⟨hws, hcode, hml'⟩ := am_hws hts hy
  obtain ⟨hst, hlen⟩ := am_stkS (ad := ad) hcut
  obtain ⟨w1, w2, w3, w5, w6⟩ := hlk
  intro H locs ls hP hD hS hl
  rw [hst]
  have run := va_runSN (As := as.map (am_c ad)) (rest := rest.map (am_c ad)) (g := F0 m pc ls ((as.map (am_c ad)).reverse ++ rest.map (am_c ad))) (n := k) (below := below) (meth := meth) (e := e) (locs := locs) (cells := cells) (slots := slots) ⟨hx, hb, hml, hown, hts⟩ (hc l D ad ca tys H.size hT)
    (⟨⟨⟨rfl, rfl, by show d + 1 ≤ R.frames; exact hR.1, by show 8 + (y'.2.2.1 + 11) + 37 * d ≤ R.locals; omega, hws, List.mem_cons_self⟩, hcode, hts _ w3, of_decide_eq_true w5, fun sig h => by
      have h2 := w6
      unfold am_np at h2
      rw [h] at h2
      exact (Option.some.inj h2).symm, va_Nw.use rfl (hN _ w1 rfl)⟩, hts _ w2, trivial⟩ : va_CN R s args y.1.cls n y'.1 host y'.2.1 y'.2.2.1 y'.2.2.2.1 (am_ws y') (am_rm d) 0 0 k ∧ (Jvm.Cond.static y'.1).before args s = true ∧ True)
    ⟨am_Pc_blind, fun U hU hW => ⟨rfl, by rw [hU], by rw [hU]; exact hP, va_K.moved hW.alike hK, es_N.warm hW hN, hD.weaken (fun _ _ _ _ => trivial)⟩⟩
    rfl (by rw [List.length_map]; exact hlen) hl.1 rfl (lv_room (by rw [am_sz_cat]; exact Nat.le_of_ble_eq_true hrm)) hd ⟨hC.1, hC.2⟩
  have hF := am_frees hA hD hS
  refine am_post run hS (fun q _ h => hF q h) hF hF (fun r I' H1 locs1 hp hP1 hD1 hS1 => ?_)
  rw [am_toL1]
  have e3 : nx = pc + 3 := hn
  subst e3
  exact kk r I' hp H1 locs1 ls hP1 hD1 hS1 hl
theorem am_sw_w {dflt lo hi : Int} {offs : Array Int} {x : Int} {r : List am_v} {ts : List Nat} {dt : Nat} (hB : am_B y d p R s m args c D ca tys A H0 cells slots) (hat : am_at y.2.2.2.2.1 pc = some (.tableswitch dflt lo hi offs, nx, ax, tg)) (hts : offs.toList = ts.map (fun (t : Nat) => (t : Int) - (pc : Int))) (hdt : dflt = (dt : Int) - (pc : Int)) (hlen : (ts.length : Int) = hi - lo + 1) (hx : -2147483648 ≤ x ∧ x < 2147483648)
    (kk : ∀ (j t : Nat), ts[j]? = some t → x = lo + (j : Int) → am_w p l e R s m args below meth c D ad ca A H0 cells slots Q y t lv r I) (kd : (x < lo ∨ hi < x) → am_w p l e R s m args below meth c D ad ca A H0 cells slots Q y dt lv r I) : am_w p l e R s m args below meth c D ad ca A H0 cells slots Q y pc lv (.inl x :: r) I := by
  obtain ⟨⟨hxx, hb, hml, hown⟩, -, hN, hK, hT, hA, hR, hC, hk⟩ := hB
  have hv := am_chk_1 hk (am_at_mem hat)
  have hd : decode y.2.1 pc = .ok (.tableswitch dflt lo hi offs, nx - pc) := by
    unfold am_v1 at hv
    exact of_decide_eq_true hv
  intro H locs ls hP hD hS hl
  show W p l e R s m args below meth c H locs cells slots Q (F0 m pc ls (.int (Int32.ofInt x) :: r.map (am_c ad)))
  by_cases h : x < lo ∨ hi < x
  · exact lv_tableOut hxx hb hd (by rw [am_toI hx]; exact h) (by rw [hdt]; omega) (kd h H locs ls hP hD hS hl)
  · have h1 : ¬ x < lo := fun q => h (Or.inl q)
    have h2 : ¬ hi < x := fun q => h (Or.inr q)
    have hj : (x - lo).toNat < ts.length := by omega
    have hg : ts[(x - lo).toNat]? = some ts[(x - lo).toNat] := List.getElem?_eq_getElem hj
    refine lv_tableIn (off := (ts[(x - lo).toNat] : Int) - (pc : Int)) (tgt := ts[(x - lo).toNat]) hxx hb hd (by rw [am_toI hx]; exact h1) (by rw [am_toI hx]; exact h2) ?_ (by omega) (kk _ _ hg (by omega) H locs ls hP hD hS hl)
    rw [am_toI hx, ← Array.getElem?_toList, hts, List.getElem?_map, hg]
    rfl
end AMC
section AMD
variable {y y' : am_Y} {d : Nat} {pc nx tg n k : Nat} {ax : Int} {lv : List (Nat × am_v)} {st as rest : List am_v} {I : am_I} {Po Po' : Option am_v → am_I → Prop}
theorem am_cV {b : Nat} {C : String} (hat : am_at y.2.2.2.2.1 pc = some (.invokevirtual n, nx, ax, tg)) (hlk : am_lkV y.1.cls n C y'.1 k) (hy : am_yok y') (hcut : am_cut (k + 1) [] st = some (.inr (.inr b) :: as, rest)) (hrm : Nat.ble (am_sz rest) 8 = true) (hcn : am_cn b = some C) (hc : am_C d y' (.inr (.inr b) :: as) I Po')
    (kk : ∀ r I', Po' r I' → am_V (d + 1) y Po nx lv (r.toList ++ rest) I') : am_V (d + 1) y Po pc lv st I :=
  fun I0 p l e R s m args below meth c D ad ca tys A H0 Q hE => am_cV_w hE.1 hat hlk hy hcut hrm hcn hc (fun r I' h => kk r I' h I0 p l e R s m args below meth c D ad ca tys A H0 Q hE)
theorem am_cU {b : Nat} {C owner : String} {x : MethodName} (hat : am_at y.2.2.2.2.1 pc = some (.invokevirtual n, nx, ax, tg)) (hlk : am_lkU y.1.cls n C owner x y'.1 k) (hy : am_yok y') (hcut : am_cut (k + 1) [] st = some (.inr (.inr b) :: as, rest)) (hrm : Nat.ble (am_sz rest) 8 = true) (hcn : am_cn b = some C) (hc : am_C d y' (.inr (.inr b) :: as) I Po')
    (kk : ∀ r I', Po' r I' → am_V (d + 1) y Po nx lv (r.toList ++ rest) I') : am_V (d + 1) y Po pc lv st I :=
  fun I0 p l e R s m args below meth c D ad ca tys A H0 Q hE => am_cU_w hE.1 hat hlk hy hcut hrm hcn hc (fun r I' h => kk r I' h I0 p l e R s m args below meth c D ad ca tys A H0 Q hE)
theorem am_cS (hat : am_at y.2.2.2.2.1 pc = some (.invokestatic n, nx, ax, tg)) (hlk : am_lkS y.1.cls n y'.1 k) (hy : am_yok y') (hcut : am_cut k [] st = some (as, rest)) (hrm : Nat.ble (am_sz rest) 8 = true) (hc : am_C d y' as I Po')
    (kk : ∀ r I', Po' r I' → am_V (d + 1) y Po nx lv (r.toList ++ rest) I') : am_V (d + 1) y Po pc lv st I :=
  fun I0 p l e R s m args below meth c D ad ca tys A H0 Q hE => am_cS_w hE.1 hat hlk hy hcut hrm hc (fun r I' h => kk r I' h I0 p l e R s m args below meth c D ad ca tys A H0 Q hE)
theorem am_cN {host : String} (hat : am_at y.2.2.2.2.1 pc = some (.invokestatic n, nx, ax, tg)) (hlk : am_lkN y.1.cls n y'.1 host k) (hy : am_yok y') (hcut : am_cut k [] st = some (as, rest)) (hrm : Nat.ble (am_sz rest) 8 = true) (hc : am_C d y' as I Po')
    (kk : ∀ r I', Po' r I' → am_V (d + 1) y Po nx lv (r.toList ++ rest) I') : am_V (d + 1) y Po pc lv st I :=
  fun I0 p l e R s m args below meth c D ad ca tys A H0 Q hE => am_cN_w hE.1 hat hlk hy hcut hrm hc (fun r I' h => kk r I' h I0 p l e R s m args below meth c D ad ca tys A H0 Q hE)
theorem am_sw {dflt lo hi : Int} {offs : Array Int} {x : Int} {r : List am_v} (ts : List Nat) (dt : Nat) (hat : am_at y.2.2.2.2.1 pc = some (.tableswitch dflt lo hi offs, nx, ax, tg)) (hts : offs.toList = ts.map (fun (t : Nat) => (t : Int) - (pc : Int))) (hdt : dflt = (dt : Int) - (pc : Int)) (hlen : (ts.length : Int) = hi - lo + 1) (hx : -2147483648 ≤ x ∧ x < 2147483648)
    (kk : ∀ (j t : Nat), ts[j]? = some t → x = lo + (j : Int) → am_V d y Po t lv r I) (kd : (x < lo ∨ hi < x) → am_V d y Po dt lv r I) : am_V d y Po pc lv (.inl x :: r) I :=
  fun I0 p l e R s m args below meth c D ad ca tys A H0 Q hE => am_sw_w hE.1 hat hts hdt hlen hx (fun j t h1 h2 => kk j t h1 h2 I0 p l e R s m args below meth c D ad ca tys A H0 Q hE) (fun h => kd h I0 p l e R s m args below meth c D ad ca tys A H0 Q hE)
theorem am_C_mono {Po2 : Option am_v → am_I → Prop} (h : am_C d y as I Po) (hm : ∀ r I', Po r I' → Po2 r I') : am_C d y as I Po2 := by
  intro l D ad ca tys sz hT
  have h1 := h l D ad ca tys sz hT
  intro p e ha hc hk s m args below hf hap hpre hkk
  obtain ⟨kk, o, a1, a2, a3, ⟨⟨⟨r, I', q1, q2, q3⟩, q4⟩, q5⟩⟩ := h1 p e ha hc hk s m args below hf hap hpre hkk
  exact ⟨kk, o, a1, a2, a3, ⟨⟨⟨r, I', q1, hm r I' q2, q3⟩, q4⟩, q5⟩⟩
end AMD
end
section
theorem am_min32' {x y : Int} (hx : -2147483648 ≤ x ∧ x < 2147483648) (hy : -2147483648 ≤ y ∧ y < 2147483648) : (if Int32.ofInt y < Int32.ofInt x then Int32.ofInt y else Int32.ofInt x) = Int32.ofInt (min x y) := by
  have h := am_lt32 hy hx
  by_cases c : y < x
  · rw [if_pos (h.mpr c)]; congr 1; omega
  · rw [if_neg (fun q => c (h.mp q))]; congr 1; omega
theorem am_max32' {x y : Int} (hx : -2147483648 ≤ x ∧ x < 2147483648) (hy : -2147483648 ≤ y ∧ y < 2147483648) : (if Int32.ofInt x < Int32.ofInt y then Int32.ofInt y else Int32.ofInt x) = Int32.ofInt (max x y) := by
  have h := am_lt32 hx hy
  by_cases c : x < y
  · rw [if_pos (h.mpr c)]; congr 1; omega
  · rw [if_neg (fun q => c (h.mp q))]; congr 1; omega
theorem am_min64' {x y : Int} (hx : -9223372036854775808 ≤ x ∧ x < 9223372036854775808) (hy : -9223372036854775808 ≤ y ∧ y < 9223372036854775808) : (if Int64.ofInt y < Int64.ofInt x then Int64.ofInt y else Int64.ofInt x) = Int64.ofInt (min x y) := by
  have h := am_lt64 hy hx
  by_cases c : y < x
  · rw [if_pos (h.mpr c)]; congr 1; omega
  · rw [if_neg (fun q => c (h.mp q))]; congr 1; omega
theorem am_max64' {x y : Int} (hx : -9223372036854775808 ≤ x ∧ x < 9223372036854775808) (hy : -9223372036854775808 ≤ y ∧ y < 9223372036854775808) : (if Int64.ofInt y < Int64.ofInt x then Int64.ofInt x else Int64.ofInt y) = Int64.ofInt (max x y) := by
  have h := am_lt64 hy hx
  by_cases c : y < x
  · rw [if_pos (h.mpr c)]; congr 1; omega
  · rw [if_neg (fun q => c (h.mp q))]; congr 1; omega
theorem am_abs32' {x : Int} (hx : -2147483648 ≤ x ∧ x < 2147483648) : (if 0 ≤ Int32.ofInt x then Int32.ofInt x else 0 - Int32.ofInt x) = Int32.ofInt (max x (-x)) := by
  have e0 : (0 : Int32) = Int32.ofInt 0 := by decide +kernel
  have h : (0 ≤ Int32.ofInt x) ↔ 0 ≤ x := by rw [e0]; exact am_le32 (by omega) hx
  by_cases c : 0 ≤ x
  · rw [if_pos (h.mpr c)]; congr 1; omega
  · rw [if_neg (fun q => c (h.mp q)), e0, ← Int32.ofInt_sub]; congr 1; omega
def am_mtk (own : String) (n : Nat) (x : MethodName) (bs : ByteArray) (mL : Nat) (ret : Option FieldType) : Prop := Jvm.Cond.methodLink own n x ∈ es_gt ∧ Jvm.Cond.static x ∈ es_gt ∧ Jvm.Cond.initialized "java/lang/Math" ∈ es_gt ∧ Jvm.Cond.code x bs mL ret ∈ es_gt
section AMM
variable {y : am_Y} {d : Nat} {pc nx tg n : Nat} {ax : Int} {lv : List (Nat × am_v)} {r : List am_v} {I : am_I} {Po : Option am_v → am_I → Prop} {a b : Int}
theorem am_mini (hat : am_at y.2.2.2.2.1 pc = some (.invokestatic n, nx, ax, tg)) (hlk : am_mtk y.1.cls n Lib.Math.min.name Lib.Math.min.code 2 (some .int)) (hrm : Nat.ble (am_sz r) 8 = true) (hp : (-2147483648 ≤ a ∧ a < 2147483648) ∧ (-2147483648 ≤ b ∧ b < 2147483648)) (kk : am_V (d + 1) y Po nx lv (.inl (min a b) :: r) I) : am_V (d + 1) y Po pc lv (.inl (b) :: .inl (a) :: r) I := by
  intro I0 p l e R s m args below meth c D ad ca tys A H0 Q hE H locs ls hP hD hS hl
  obtain ⟨⟨hx, hb, hml, hown⟩, hts, hN, hK, hT, hA, hR, hC, hk⟩ := hE.1
  obtain ⟨hd, hn, -⟩ := am_v1_sp rfl (am_chk_1 hk (am_at_mem hat))
  have hr8 := Nat.le_of_ble_eq_true hrm
  refine va_mmin hx hb (by rw [hml]; exact hl.1.symm) hown (hts _ hlk.1) (hts _ hlk.2.1) (hts _ hlk.2.2.1) (hts _ hlk.2.2.2) (by omega) (by rw [am_sz_cat]; omega) hC.1 hC.2 hd ?_
  rw [am_min32' hp.1 hp.2]
  have e3 : nx = pc + 3 := hn
  subst e3
  exact kk I0 p l e R s m args below meth c D ad ca tys A H0 Q hE H locs ls hP hD hS hl
theorem am_maxi (hat : am_at y.2.2.2.2.1 pc = some (.invokestatic n, nx, ax, tg)) (hlk : am_mtk y.1.cls n Lib.Math.max.name Lib.Math.max.code 2 (some .int)) (hrm : Nat.ble (am_sz r) 8 = true) (hp : (-2147483648 ≤ a ∧ a < 2147483648) ∧ (-2147483648 ≤ b ∧ b < 2147483648)) (kk : am_V (d + 1) y Po nx lv (.inl (max a b) :: r) I) : am_V (d + 1) y Po pc lv (.inl (b) :: .inl (a) :: r) I := by
  intro I0 p l e R s m args below meth c D ad ca tys A H0 Q hE H locs ls hP hD hS hl
  obtain ⟨⟨hx, hb, hml, hown⟩, hts, hN, hK, hT, hA, hR, hC, hk⟩ := hE.1
  obtain ⟨hd, hn, -⟩ := am_v1_sp rfl (am_chk_1 hk (am_at_mem hat))
  have hr8 := Nat.le_of_ble_eq_true hrm
  refine va_mmax hx hb (by rw [hml]; exact hl.1.symm) hown (hts _ hlk.1) (hts _ hlk.2.1) (hts _ hlk.2.2.1) (hts _ hlk.2.2.2) (by omega) (by rw [am_sz_cat]; omega) hC.1 hC.2 hd ?_
  rw [am_max32' hp.1 hp.2]
  have e3 : nx = pc + 3 := hn
  subst e3
  exact kk I0 p l e R s m args below meth c D ad ca tys A H0 Q hE H locs ls hP hD hS hl
theorem am_absi (hat : am_at y.2.2.2.2.1 pc = some (.invokestatic n, nx, ax, tg)) (hlk : am_mtk y.1.cls n Lib.Math.abs.name Lib.Math.abs.code 1 (some .int)) (hrm : Nat.ble (am_sz r) 8 = true) (hp : (-2147483648 ≤ a ∧ a < 2147483648)) (kk : am_V (d + 1) y Po nx lv (.inl (max a (-a)) :: r) I) : am_V (d + 1) y Po pc lv (.inl (a) :: r) I := by
  intro I0 p l e R s m args below meth c D ad ca tys A H0 Q hE H locs ls hP hD hS hl
  obtain ⟨⟨hx, hb, hml, hown⟩, hts, hN, hK, hT, hA, hR, hC, hk⟩ := hE.1
  obtain ⟨hd, hn, -⟩ := am_v1_sp rfl (am_chk_1 hk (am_at_mem hat))
  have hr8 := Nat.le_of_ble_eq_true hrm
  refine va_mabs hx hb (by rw [hml]; exact hl.1.symm) hown (hts _ hlk.1) (hts _ hlk.2.1) (hts _ hlk.2.2.1) (hts _ hlk.2.2.2) (by omega) (by rw [am_sz_cat]; omega) hC.1 hC.2 hd ?_
  rw [am_abs32' hp]
  have e3 : nx = pc + 3 := hn
  subst e3
  exact kk I0 p l e R s m args below meth c D ad ca tys A H0 Q hE H locs ls hP hD hS hl
theorem am_minl (hat : am_at y.2.2.2.2.1 pc = some (.invokestatic n, nx, ax, tg)) (hlk : am_mtk y.1.cls n Lib.MathLoose.min_long.x Lib.MathLoose.min_long.code 4 (some .long)) (hrm : Nat.ble (am_sz r) 8 = true) (hp : (-9223372036854775808 ≤ a ∧ a < 9223372036854775808) ∧ (-9223372036854775808 ≤ b ∧ b < 9223372036854775808)) (kk : am_V (d + 1) y Po nx lv (.inr (.inl (min a b)) :: r) I) : am_V (d + 1) y Po pc lv (.inr (.inl (b)) :: .inr (.inl (a)) :: r) I := by
  intro I0 p l e R s m args below meth c D ad ca tys A H0 Q hE H locs ls hP hD hS hl
  obtain ⟨⟨hx, hb, hml, hown⟩, hts, hN, hK, hT, hA, hR, hC, hk⟩ := hE.1
  obtain ⟨hd, hn, -⟩ := am_v1_sp rfl (am_chk_1 hk (am_at_mem hat))
  have hr8 := Nat.le_of_ble_eq_true hrm
  refine va_mmin_long hx hb (by rw [hml]; exact hl.1.symm) hown (hts _ hlk.1) (hts _ hlk.2.1) (hts _ hlk.2.2.1) (hts _ hlk.2.2.2) (by omega) (by rw [am_sz_cat]; omega) hC.1 hC.2 hd ?_
  rw [am_min64' hp.1 hp.2]
  have e3 : nx = pc + 3 := hn
  subst e3
  exact kk I0 p l e R s m args below meth c D ad ca tys A H0 Q hE H locs ls hP hD hS hl
theorem am_maxl (hat : am_at y.2.2.2.2.1 pc = some (.invokestatic n, nx, ax, tg)) (hlk : am_mtk y.1.cls n Lib.MathLoose.max_long.x Lib.MathLoose.max_long.code 4 (some .long)) (hrm : Nat.ble (am_sz r) 8 = true) (hp : (-9223372036854775808 ≤ a ∧ a < 9223372036854775808) ∧ (-9223372036854775808 ≤ b ∧ b < 9223372036854775808)) (kk : am_V (d + 1) y Po nx lv (.inr (.inl (max a b)) :: r) I) : am_V (d + 1) y Po pc lv (.inr (.inl (b)) :: .inr (.inl (a)) :: r) I := by
  intro I0 p l e R s m args below meth c D ad ca tys A H0 Q hE H locs ls hP hD hS hl
  obtain ⟨⟨hx, hb, hml, hown⟩, hts, hN, hK, hT, hA, hR, hC, hk⟩ := hE.1
  obtain ⟨hd, hn, -⟩ := am_v1_sp rfl (am_chk_1 hk (am_at_mem hat))
  have hr8 := Nat.le_of_ble_eq_true hrm
  refine va_mmax_long hx hb (by rw [hml]; exact hl.1.symm) hown (hts _ hlk.1) (hts _ hlk.2.1) (hts _ hlk.2.2.1) (hts _ hlk.2.2.2) (by omega) (by rw [am_sz_cat]; omega) hC.1 hC.2 hd ?_
  rw [am_max64' hp.1 hp.2]
  have e3 : nx = pc + 3 := hn
  subst e3
  exact kk I0 p l e R s m args below meth c D ad ca tys A H0 Q hE H locs ls hP hD hS hl
end AMM
end
section
def FL_es : List (Nat × Nat × Nat) := [(10, 0, 0), (16, 0, 1), (22, 0, 2), (31, 0, 3), (38, 0, 4), (45, 0, 5), (52, 0, 6), (61, 0, 7), (68, 0, 8), (76, 1, 2), (87, 1, 0), (91, 1, 1), (94, 2, 1), (97, 2, 2), (100, 2, 3), (105, 2, 0), (108, 2, 4), (111, 2, 5), (131, 5, 2), (134, 5, 3), (137, 5, 4), (145, 5, 1), (162, 6, 2), (163, 6, 0), (166, 6, 4), (167, 6, 3), (170, 6, 1), (190, 7, 8), (193, 7, 9), (196, 7, 7), (197, 7, 3), (200, 7, 4), (203, 7, 5), (206, 7, 6), (217, 8, 0), (221, 8, 1), (224, 4, 3)]
def FL_ct : List (Nat × Nat × Nat) := [(13, 3, 0), (19, 2, 1), (25, 1, 2), (30, 2, 3), (37, 2, 2), (48, 1, 0)]
def FL_ha : List (Nat × Nat × Nat) := [(11, 6, 0), (15, 6, 1), (18, 6, 2), (22, 6, 3), (25, 6, 4), (29, 6, 5), (32, 6, 6), (35, 6, 7)]
def FL_ju : List (Nat × Nat × Nat) := [(11, 7, 2), (15, 7, 3), (18, 7, 4), (21, 7, 5), (24, 7, 6), (27, 7, 7), (31, 7, 8), (34, 7, 9), (38, 7, 0), (42, 7, 1), (45, 1, 2), (68, 1, 0), (101, 1, 1)]
def FL_mt : List (Nat × Nat × Nat) := [(13, 3, 1), (13, 4, 1), (17, 3, 2), (17, 4, 2), (21, 3, 0), (21, 4, 0), (25, 2, 3), (29, 2, 1), (32, 2, 2), (62, 2, 5)]
def FL_me : List (Nat × Nat × Nat) := [(11, 5, 0), (15, 5, 1), (19, 5, 2), (22, 5, 3), (25, 5, 4), (29, 5, 5), (53, 1, 2)]
def FL_no : List (Nat × Nat × Nat) := [(9, 1, 0), (15, 1, 1), (18, 1, 2)]
def FL_pu : List (Nat × Nat × Nat) := [(11, 8, 0), (16, 8, 1), (19, 7, 7), (25, 7, 4), (29, 1, 2), (36, 1, 0)]
def FL_ru : List (Nat × Nat × Nat) := [(10, 2, 0), (16, 2, 1), (20, 2, 2), (23, 2, 3), (26, 2, 4), (29, 2, 5)]
def FL_wt : List (Nat × Nat × Nat) := [(9, 4, 3), (34, 4, 0), (38, 2, 1), (44, 1, 2), (49, 2, 3), (52, 2, 2)]
def FL_la : List (Nat × Nat × Nat) := []
def FL_mo : List (Nat × Nat × Nat) := [(7, 9, 1), (13, 9, 2), (16, 9, 4), (19, 9, 5), (22, 9, 7), (26, 9, 8), (29, 9, 9), (32, 9, 10), (35, 9, 11), (38, 9, 12), (42, 9, 13), (45, 9, 14), (48, 9, 15), (51, 9, 16), (54, 9, 17), (57, 9, 18), (61, 9, 21), (64, 9, 22), (67, 9, 23), (70, 9, 24), (73, 9, 25), (76, 9, 26), (80, 9, 27), (83, 9, 28), (86, 9, 29), (89, 9, 30), (92, 9, 31), (95, 9, 33), (98, 9, 34), (101, 9, 35), (104, 9, 36), (107, 9, 37), (120, 9, 0), (123, 9, 6), (185, 9, 19), (197, 9, 20), (220, 9, 3), (238, 9, 32)]
def FL_ig : List (Nat × Nat × Nat) := []
def FL_ma : List (Nat × Nat × Nat) := []
def Y_es_note : am_Y := (⟨"EarSchool", "note", "(II)I"⟩, prog_1_method_2_code, 3, (some .int), [(0, .iload_n 1, 1, 0, 1), (1, .iconst (0), 2, 0, 0), (2, .bipush (127), 4, 127, 0), (4, .invokestatic 72, 7, 0, 0), (7, .ifCond .ne (13), 10, 0, 20), (10, .iload_n 2, 11, 0, 2), (11, .iconst (1), 12, 1, 0), (12, .bipush (96), 14, 96, 0), (14, .invokestatic 72, 17, 0, 0), (17, .ifCond .eq (6), 20, 0, 23), (20, .bipush (-2), 22, -2, 0), (22, .ireturn, 23, 0, 0), (23, .aload_n 0, 24, 0, 0), (24, .getfield 10, 27, 0, 0), (27, .getfield 76, 30, 0, 0), (30, .bipush (24), 32, 24, 0), (32, .if_icmp .lt (6), 35, 0, 38), (35, .bipush (-4), 37, -4, 0), (37, .ireturn, 38, 0, 0), (38, .aload_n 0, 39, 0, 0), (39, .getfield 10, 42, 0, 0), (42, .iload_n 1, 43, 0, 1), (43, .iload_n 2, 44, 0, 2), (44, .invokevirtual 80, 47, 0, 0), (47, .aload_n 0, 48, 0, 0), (48, .getfield 61, 51, 0, 0), (51, .invokevirtual 84, 54, 0, 0), (54, .aload_n 0, 55, 0, 0), (55, .getfield 10, 58, 0, 0), (58, .getfield 76, 61, 0, 0), (61, .ireturn, 62, 0, 0)], FL_es)
def Y_es_drop : am_Y := (⟨"EarSchool", "drop", "()I"⟩, prog_1_method_3_code, 2, (some .int), [(0, .aload_n 0, 1, 0, 0), (1, .getfield 10, 4, 0, 0), (4, .getfield 76, 7, 0, 0), (7, .istore_n 1, 8, 0, 1), (8, .aload_n 0, 9, 0, 0), (9, .getfield 10, 12, 0, 0), (12, .iconst (0), 13, 0, 0), (13, .putfield 76, 16, 0, 0), (16, .aload_n 0, 17, 0, 0), (17, .getfield 61, 20, 0, 0), (20, .invokevirtual 84, 23, 0, 0), (23, .iload_n 1, 24, 0, 1), (24, .ireturn, 25, 0, 0)], FL_es)
def Y_es_at : am_Y := (⟨"EarSchool", "at", "(II)I"⟩, prog_1_method_4_code, 3, (some .int), [(0, .iload_n 1, 1, 0, 1), (1, .iconst (0), 2, 0, 0), (2, .aload_n 0, 3, 0, 0), (3, .getfield 10, 6, 0, 0), (6, .getfield 76, 9, 0, 0), (9, .iconst (1), 10, 1, 0), (10, .isub, 11, 0, 0), (11, .invokestatic 72, 14, 0, 0), (14, .ifCond .ne (12), 17, 0, 26), (17, .iload_n 2, 18, 0, 2), (18, .iconst (0), 19, 0, 0), (19, .iconst (1), 20, 1, 0), (20, .invokestatic 72, 23, 0, 0), (23, .ifCond .eq (6), 26, 0, 29), (26, .bipush (-2), 28, -2, 0), (28, .ireturn, 29, 0, 0), (29, .iload_n 2, 30, 0, 2), (30, .ifCond .ne (15), 33, 0, 45), (33, .aload_n 0, 34, 0, 0), (34, .getfield 10, 37, 0, 0), (37, .getfield 87, 40, 0, 0), (40, .iload_n 1, 41, 0, 1), (41, .iaload, 42, 0, 0), (42, .goto (12), 45, 0, 54), (45, .aload_n 0, 46, 0, 0), (46, .getfield 10, 49, 0, 0), (49, .getfield 91, 52, 0, 0), (52, .iload_n 1, 53, 0, 1), (53, .iaload, 54, 0, 0), (54, .ireturn, 55, 0, 0)], FL_es)
def Y_es_range : am_Y := (⟨"EarSchool", "range", "(III)I"⟩, prog_1_method_5_code, 4, (some .int), [(0, .iload_n 1, 1, 0, 1), (1, .iconst (0), 2, 0, 0), (2, .bipush (127), 4, 127, 0), (4, .invokestatic 72, 7, 0, 0), (7, .ifCond .ne (31), 10, 0, 38), (10, .iload_n 2, 11, 0, 2), (11, .iload_n 1, 12, 0, 1), (12, .bipush (127), 14, 127, 0), (14, .invokestatic 72, 17, 0, 0), (17, .ifCond .ne (21), 20, 0, 38), (20, .iload_n 2, 21, 0, 2), (21, .iload_n 1, 22, 0, 1), (22, .isub, 23, 0, 0), (23, .bipush (36), 25, 36, 0), (25, .if_icmp .gt (13), 28, 0, 38), (28, .iload_n 3, 29, 0, 3), (29, .iconst (1), 30, 1, 0), (30, .bipush (16), 32, 16, 0), (32, .invokestatic 72, 35, 0, 0), (35, .ifCond .eq (6), 38, 0, 41), (38, .bipush (-2), 40, -2, 0), (40, .ireturn, 41, 0, 0), (41, .aload_n 0, 42, 0, 0), (42, .getfield 22, 45, 0, 0), (45, .iload_n 1, 46, 0, 1), (46, .putfield 94, 49, 0, 0), (49, .aload_n 0, 50, 0, 0), (50, .getfield 22, 53, 0, 0), (53, .iload_n 2, 54, 0, 2), (54, .putfield 97, 57, 0, 0), (57, .aload_n 0, 58, 0, 0), (58, .getfield 22, 61, 0, 0), (61, .iload_n 3, 62, 0, 3), (62, .putfield 100, 65, 0, 0), (65, .aload_n 0, 66, 0, 0), (66, .getfield 31, 69, 0, 0), (69, .invokevirtual 103, 72, 0, 0), (72, .iconst (1), 73, 1, 0), (73, .ireturn, 74, 0, 0)], FL_es)
def Y_es_bits : am_Y := (⟨"EarSchool", "bits", "(II)I"⟩, prog_1_method_6_code, 4, (some .int), [(0, .iload_n 1, 1, 0, 1), (1, .iconst (0), 2, 0, 0), (2, .iconst (3), 3, 3, 0), (3, .invokestatic 72, 6, 0, 0), (6, .ifCond .ne (24), 9, 0, 30), (9, .iload_n 2, 10, 0, 2), (10, .iconst (0), 11, 0, 0), (11, .iload_n 1, 12, 0, 1), (12, .iconst (3), 13, 3, 0), (13, .if_icmp .ne (8), 16, 0, 21), (16, .ldc 104, 18, 33554431, 376), (18, .goto (6), 21, 0, 24), (21, .sipush (4095), 24, 4095, 0), (24, .invokestatic 72, 27, 0, 0), (27, .ifCond .eq (6), 30, 0, 33), (30, .bipush (-2), 32, -2, 0), (32, .ireturn, 33, 0, 0), (33, .aload_n 0, 34, 0, 0), (34, .getfield 22, 37, 0, 0), (37, .getfield 105, 40, 0, 0), (40, .iload_n 1, 41, 0, 1), (41, .iaload, 42, 0, 0), (42, .istore_n 3, 43, 0, 3), (43, .aload_n 0, 44, 0, 0), (44, .getfield 22, 47, 0, 0), (47, .getfield 105, 50, 0, 0), (50, .iload_n 1, 51, 0, 1), (51, .iload_n 2, 52, 0, 2), (52, .iastore, 53, 0, 0), (53, .aload_n 0, 54, 0, 0), (54, .getfield 31, 57, 0, 0), (57, .invokevirtual 103, 60, 0, 0), (60, .iload_n 3, 61, 0, 3), (61, .ireturn, 62, 0, 0)], FL_es)
def Y_es_bound : am_Y := (⟨"EarSchool", "bound", "(II)I"⟩, prog_1_method_7_code, 4, (some .int), [(0, .iload_n 1, 1, 0, 1), (1, .ifCond .ne (38), 4, 0, 39), (4, .iload_n 2, 5, 0, 2), (5, .iconst (1), 6, 1, 0), (6, .bipush (13), 8, 13, 0), (8, .invokestatic 72, 11, 0, 0), (11, .ifCond .ne (28), 14, 0, 39), (14, .aload_n 0, 15, 0, 0), (15, .getfield 22, 18, 0, 0), (18, .getfield 108, 21, 0, 0), (21, .istore_n 3, 22, 0, 3), (22, .aload_n 0, 23, 0, 0), (23, .getfield 22, 26, 0, 0), (26, .iload_n 2, 27, 0, 2), (27, .putfield 108, 30, 0, 0), (30, .aload_n 0, 31, 0, 0), (31, .getfield 31, 34, 0, 0), (34, .invokevirtual 103, 37, 0, 0), (37, .iload_n 3, 38, 0, 3), (38, .ireturn, 39, 0, 0), (39, .iload_n 1, 40, 0, 1), (40, .iconst (1), 41, 1, 0), (41, .if_icmp .ne (38), 44, 0, 79), (44, .iload_n 2, 45, 0, 2), (45, .iconst (0), 46, 0, 0), (46, .bipush (15), 48, 15, 0), (48, .invokestatic 72, 51, 0, 0), (51, .ifCond .ne (28), 54, 0, 79), (54, .aload_n 0, 55, 0, 0), (55, .getfield 22, 58, 0, 0), (58, .getfield 111, 61, 0, 0), (61, .istore_n 3, 62, 0, 3), (62, .aload_n 0, 63, 0, 0), (63, .getfield 22, 66, 0, 0), (66, .iload_n 2, 67, 0, 2), (67, .putfield 111, 70, 0, 0), (70, .aload_n 0, 71, 0, 0), (71, .getfield 31, 74, 0, 0), (74, .invokevirtual 103, 77, 0, 0), (77, .iload_n 3, 78, 0, 3), (78, .ireturn, 79, 0, 0), (79, .bipush (-2), 81, -2, 0), (81, .ireturn, 82, 0, 0)], FL_es)
def Y_es_melodies : am_Y := (⟨"EarSchool", "melodies", "()J"⟩, prog_1_method_8_code, 1, (some .long), [(0, .aload_n 0, 1, 0, 0), (1, .getfield 31, 4, 0, 0), (4, .invokevirtual 114, 7, 0, 0), (7, .aload_n 0, 8, 0, 0), (8, .getfield 31, 11, 0, 0), (11, .invokevirtual 117, 14, 0, 0), (14, .lreturn, 15, 0, 0)], FL_es)
def Y_es_melody : am_Y := (⟨"EarSchool", "melody", "(J)I"⟩, prog_1_method_9_code, 3, (some .int), [(0, .lload_n 1, 1, 0, 1), (1, .lconst 0, 2, 0, 0), (2, .lcmp, 3, 0, 0), (3, .ifCond .ge (6), 6, 0, 9), (6, .bipush (-2), 8, -2, 0), (8, .ireturn, 9, 0, 0), (9, .aload_n 0, 10, 0, 0), (10, .getfield 31, 13, 0, 0), (13, .invokevirtual 114, 16, 0, 0), (16, .lload_n 1, 17, 0, 1), (17, .aload_n 0, 18, 0, 0), (18, .getfield 31, 21, 0, 0), (21, .invokevirtual 117, 24, 0, 0), (24, .lcmp, 25, 0, 0), (25, .ifCond .lt (5), 28, 0, 30), (28, .iconst (-1), 29, -1, 0), (29, .ireturn, 30, 0, 0), (30, .aload_n 0, 31, 0, 0), (31, .getfield 31, 34, 0, 0), (34, .lload_n 1, 35, 0, 1), (35, .aload_n 0, 36, 0, 0), (36, .getfield 10, 39, 0, 0), (39, .invokevirtual 121, 42, 0, 0), (42, .aload_n 0, 43, 0, 0), (43, .getfield 61, 46, 0, 0), (46, .invokevirtual 84, 49, 0, 0), (49, .iconst (1), 50, 1, 0), (50, .ireturn, 51, 0, 0)], FL_es)
def Y_es_place : am_Y := (⟨"EarSchool", "place", "()J"⟩, prog_1_method_10_code, 1, (some .long), [(0, .aload_n 0, 1, 0, 0), (1, .getfield 10, 4, 0, 0), (4, .getfield 76, 7, 0, 0), (7, .aload_n 0, 8, 0, 0), (8, .getfield 22, 11, 0, 0), (11, .getfield 100, 14, 0, 0), (14, .if_icmp .eq (7), 17, 0, 21), (17, .ldc2_w 125, 20, -1, 520), (20, .lreturn, 21, 0, 0), (21, .aload_n 0, 22, 0, 0), (22, .getfield 31, 25, 0, 0), (25, .invokevirtual 114, 28, 0, 0), (28, .aload_n 0, 29, 0, 0), (29, .getfield 31, 32, 0, 0), (32, .aload_n 0, 33, 0, 0), (33, .getfield 10, 36, 0, 0), (36, .invokevirtual 127, 39, 0, 0), (39, .lreturn, 40, 0, 0)], FL_es)
def Y_es_bars : am_Y := (⟨"EarSchool", "bars", "(II)I"⟩, prog_1_method_11_code, 3, (some .int), [(0, .iload_n 1, 1, 0, 1), (1, .iconst (1), 2, 1, 0), (2, .bipush (6), 4, 6, 0), (4, .invokestatic 72, 7, 0, 0), (7, .ifCond .ne (13), 10, 0, 20), (10, .iload_n 2, 11, 0, 2), (11, .iconst (1), 12, 1, 0), (12, .bipush (96), 14, 96, 0), (14, .invokestatic 72, 17, 0, 0), (17, .ifCond .eq (6), 20, 0, 23), (20, .bipush (-2), 22, -2, 0), (22, .ireturn, 23, 0, 0), (23, .aload_n 0, 24, 0, 0), (24, .getfield 45, 27, 0, 0), (27, .iload_n 1, 28, 0, 1), (28, .putfield 131, 31, 0, 0), (31, .aload_n 0, 32, 0, 0), (32, .getfield 45, 35, 0, 0), (35, .iload_n 2, 36, 0, 2), (36, .putfield 134, 39, 0, 0), (39, .aload_n 0, 40, 0, 0), (40, .getfield 45, 43, 0, 0), (43, .iconst (0), 44, 0, 0), (44, .putfield 137, 47, 0, 0), (47, .iconst (1), 48, 1, 0), (48, .ireturn, 49, 0, 0)], FL_es)
def Y_es_some : am_Y := (⟨"EarSchool", "some", "(IZ)I"⟩, prog_1_method_12_code, 4, (some .int), [(0, .iload_n 1, 1, 0, 1), (1, .iconst (1), 2, 1, 0), (2, .bipush (96), 4, 96, 0), (4, .invokestatic 72, 7, 0, 0), (7, .ifCond .eq (6), 10, 0, 13), (10, .bipush (-2), 12, -2, 0), (12, .ireturn, 13, 0, 0), (13, .aload_n 0, 14, 0, 0), (14, .getfield 45, 17, 0, 0), (17, .iload_n 1, 18, 0, 1), (18, .invokevirtual 141, 21, 0, 0), (21, .istore_n 3, 22, 0, 3), (22, .iload_n 2, 23, 0, 2), (23, .ifCond .eq (30), 26, 0, 53), (26, .iload_n 3, 27, 0, 3), (27, .ifCond .ne (26), 30, 0, 53), (30, .aload_n 0, 31, 0, 0), (31, .getfield 45, 34, 0, 0), (34, .getfield 145, 37, 0, 0), (37, .bipush (6), 39, 6, 0), (39, .if_icmp .lt (6), 42, 0, 45), (42, .bipush (-4), 44, -4, 0), (44, .ireturn, 45, 0, 0), (45, .aload_n 0, 46, 0, 0), (46, .getfield 45, 49, 0, 0), (49, .iload_n 1, 50, 0, 1), (50, .invokevirtual 146, 53, 0, 0), (53, .iload_n 2, 54, 0, 2), (54, .ifCond .ne (15), 57, 0, 69), (57, .iload_n 3, 58, 0, 3), (58, .ifCond .eq (11), 61, 0, 69), (61, .aload_n 0, 62, 0, 0), (62, .getfield 45, 65, 0, 0), (65, .iload_n 1, 66, 0, 1), (66, .invokevirtual 150, 69, 0, 0), (69, .iload_n 3, 70, 0, 3), (70, .ifCond .eq (7), 73, 0, 77), (73, .iconst (1), 74, 1, 0), (74, .goto (4), 77, 0, 78), (77, .iconst (0), 78, 0, 0), (78, .ireturn, 79, 0, 0)], FL_es)
def Y_es_rhythms : am_Y := (⟨"EarSchool", "rhythms", "()J"⟩, prog_1_method_13_code, 1, (some .long), [(0, .aload_n 0, 1, 0, 0), (1, .getfield 45, 4, 0, 0), (4, .invokevirtual 153, 7, 0, 0), (7, .aload_n 0, 8, 0, 0), (8, .getfield 45, 11, 0, 0), (11, .invokevirtual 154, 14, 0, 0), (14, .lreturn, 15, 0, 0)], FL_es)
def Y_es_rhythm : am_Y := (⟨"EarSchool", "rhythm", "(J)I"⟩, prog_1_method_14_code, 3, (some .int), [(0, .lload_n 1, 1, 0, 1), (1, .lconst 0, 2, 0, 0), (2, .lcmp, 3, 0, 0), (3, .ifCond .ge (6), 6, 0, 9), (6, .bipush (-2), 8, -2, 0), (8, .ireturn, 9, 0, 0), (9, .aload_n 0, 10, 0, 0), (10, .getfield 45, 13, 0, 0), (13, .invokevirtual 153, 16, 0, 0), (16, .lload_n 1, 17, 0, 1), (17, .aload_n 0, 18, 0, 0), (18, .getfield 45, 21, 0, 0), (21, .invokevirtual 154, 24, 0, 0), (24, .lcmp, 25, 0, 0), (25, .ifCond .lt (5), 28, 0, 30), (28, .iconst (-1), 29, -1, 0), (29, .ireturn, 30, 0, 0), (30, .aload_n 0, 31, 0, 0), (31, .getfield 45, 34, 0, 0), (34, .lload_n 1, 35, 0, 1), (35, .aload_n 0, 36, 0, 0), (36, .getfield 10, 39, 0, 0), (39, .invokevirtual 155, 42, 0, 0), (42, .aload_n 0, 43, 0, 0), (43, .getfield 61, 46, 0, 0), (46, .invokevirtual 84, 49, 0, 0), (49, .aload_n 0, 50, 0, 0), (50, .getfield 10, 53, 0, 0), (53, .getfield 76, 56, 0, 0), (56, .ireturn, 57, 0, 0)], FL_es)
def Y_es_mask : am_Y := (⟨"EarSchool", "mask", "(I)I"⟩, prog_1_method_15_code, 2, (some .int), [(0, .iload_n 1, 1, 0, 1), (1, .iconst (0), 2, 0, 0), (2, .sipush (4095), 5, 4095, 0), (5, .invokestatic 72, 8, 0, 0), (8, .ifCond .ne (15), 11, 0, 23), (11, .iload_n 1, 12, 0, 1), (12, .invokestatic 156, 15, 0, 0), (15, .iconst (1), 16, 1, 0), (16, .iconst (3), 17, 3, 0), (17, .invokestatic 72, 20, 0, 0), (20, .ifCond .eq (6), 23, 0, 26), (23, .bipush (-2), 25, -2, 0), (25, .ireturn, 26, 0, 0), (26, .aload_n 0, 27, 0, 0), (27, .getfield 52, 30, 0, 0), (30, .getfield 162, 33, 0, 0), (33, .bipush (6), 35, 6, 0), (35, .if_icmp .lt (6), 38, 0, 41), (38, .bipush (-4), 40, -4, 0), (40, .ireturn, 41, 0, 0), (41, .aload_n 0, 42, 0, 0), (42, .getfield 52, 45, 0, 0), (45, .getfield 163, 48, 0, 0), (48, .aload_n 0, 49, 0, 0), (49, .getfield 52, 52, 0, 0), (52, .getfield 162, 55, 0, 0), (55, .iload_n 1, 56, 0, 1), (56, .iastore, 57, 0, 0), (57, .aload_n 0, 58, 0, 0), (58, .getfield 52, 61, 0, 0), (61, .dup, 62, 0, 0), (62, .getfield 162, 65, 0, 0), (65, .iconst (1), 66, 1, 0), (66, .iadd, 67, 0, 0), (67, .putfield 162, 70, 0, 0), (70, .aload_n 0, 71, 0, 0), (71, .getfield 52, 74, 0, 0), (74, .iconst (0), 75, 0, 0), (75, .putfield 166, 78, 0, 0), (78, .aload_n 0, 79, 0, 0), (79, .getfield 52, 82, 0, 0), (82, .getfield 162, 85, 0, 0), (85, .ireturn, 86, 0, 0)], FL_es)
def Y_es_clear : am_Y := (⟨"EarSchool", "clear", "()I"⟩, prog_1_method_16_code, 2, (some .int), [(0, .aload_n 0, 1, 0, 0), (1, .getfield 52, 4, 0, 0), (4, .getfield 162, 7, 0, 0), (7, .istore_n 1, 8, 0, 1), (8, .aload_n 0, 9, 0, 0), (9, .getfield 52, 12, 0, 0), (12, .iconst (0), 13, 0, 0), (13, .putfield 162, 16, 0, 0), (16, .aload_n 0, 17, 0, 0), (17, .getfield 52, 20, 0, 0), (20, .iconst (0), 21, 0, 0), (21, .putfield 166, 24, 0, 0), (24, .iload_n 1, 25, 0, 1), (25, .ireturn, 26, 0, 0)], FL_es)
def Y_es_voice : am_Y := (⟨"EarSchool", "voice", "(II)I"⟩, prog_1_method_17_code, 4, (some .int), [(0, .iload_n 1, 1, 0, 1), (1, .iconst (3), 2, 3, 0), (2, .if_icmp .ne (39), 5, 0, 41), (5, .iload_n 2, 6, 0, 2), (6, .iconst (0), 7, 0, 0), (7, .bipush (12), 9, 12, 0), (9, .invokestatic 72, 12, 0, 0), (12, .ifCond .ne (29), 15, 0, 41), (15, .aload_n 0, 16, 0, 0), (16, .getfield 52, 19, 0, 0), (19, .getfield 167, 22, 0, 0), (22, .istore_n 3, 23, 0, 3), (23, .aload_n 0, 24, 0, 0), (24, .getfield 52, 27, 0, 0), (27, .iload_n 2, 28, 0, 2), (28, .putfield 167, 31, 0, 0), (31, .aload_n 0, 32, 0, 0), (32, .getfield 52, 35, 0, 0), (35, .iconst (0), 36, 0, 0), (36, .putfield 166, 39, 0, 0), (39, .iload_n 3, 40, 0, 3), (40, .ireturn, 41, 0, 0), (41, .iload_n 1, 42, 0, 1), (42, .iconst (0), 43, 0, 0), (43, .iconst (2), 44, 2, 0), (44, .invokestatic 72, 47, 0, 0), (47, .ifCond .ne (43), 50, 0, 90), (50, .iload_n 2, 51, 0, 2), (51, .iconst (0), 52, 0, 0), (52, .bipush (116), 54, 116, 0), (54, .invokestatic 72, 57, 0, 0), (57, .ifCond .ne (33), 60, 0, 90), (60, .aload_n 0, 61, 0, 0), (61, .getfield 52, 64, 0, 0), (64, .getfield 170, 67, 0, 0), (67, .iload_n 1, 68, 0, 1), (68, .iaload, 69, 0, 0), (69, .istore_n 3, 70, 0, 3), (70, .aload_n 0, 71, 0, 0), (71, .getfield 52, 74, 0, 0), (74, .getfield 170, 77, 0, 0), (77, .iload_n 1, 78, 0, 1), (78, .iload_n 2, 79, 0, 2), (79, .iastore, 80, 0, 0), (80, .aload_n 0, 81, 0, 0), (81, .getfield 52, 84, 0, 0), (84, .iconst (0), 85, 0, 0), (85, .putfield 166, 88, 0, 0), (88, .iload_n 3, 89, 0, 3), (89, .ireturn, 90, 0, 0), (90, .bipush (-2), 92, -2, 0), (92, .ireturn, 93, 0, 0)], FL_es)
def Y_es_chords : am_Y := (⟨"EarSchool", "chords", "()J"⟩, prog_1_method_18_code, 1, (some .long), [(0, .aload_n 0, 1, 0, 0), (1, .getfield 52, 4, 0, 0), (4, .invokevirtual 173, 7, 0, 0), (7, .aload_n 0, 8, 0, 0), (8, .getfield 52, 11, 0, 0), (11, .invokevirtual 174, 14, 0, 0), (14, .lreturn, 15, 0, 0)], FL_es)
def Y_es_chord : am_Y := (⟨"EarSchool", "chord", "(JII)I"⟩, prog_1_method_19_code, 5, (some .int), [(0, .lload_n 1, 1, 0, 1), (1, .lconst 0, 2, 0, 0), (2, .lcmp, 3, 0, 0), (3, .ifCond .lt (30), 6, 0, 33), (6, .iload_n 3, 7, 0, 3), (7, .iconst (0), 8, 0, 0), (8, .aload_n 0, 9, 0, 0), (9, .getfield 52, 12, 0, 0), (12, .getfield 162, 15, 0, 0), (15, .iconst (1), 16, 1, 0), (16, .isub, 17, 0, 0), (17, .invokestatic 72, 20, 0, 0), (20, .ifCond .ne (13), 23, 0, 33), (23, .iload 4, 25, 0, 4), (25, .iconst (0), 26, 0, 0), (26, .iconst (2), 27, 2, 0), (27, .invokestatic 72, 30, 0, 0), (30, .ifCond .eq (6), 33, 0, 36), (33, .bipush (-2), 35, -2, 0), (35, .ireturn, 36, 0, 0), (36, .aload_n 0, 37, 0, 0), (37, .getfield 52, 40, 0, 0), (40, .invokevirtual 173, 43, 0, 0), (43, .lload_n 1, 44, 0, 1), (44, .aload_n 0, 45, 0, 0), (45, .getfield 52, 48, 0, 0), (48, .invokevirtual 174, 51, 0, 0), (51, .lcmp, 52, 0, 0), (52, .ifCond .lt (5), 55, 0, 57), (55, .iconst (-1), 56, -1, 0), (56, .ireturn, 57, 0, 0), (57, .aload_n 0, 58, 0, 0), (58, .getfield 52, 61, 0, 0), (61, .iload_n 3, 62, 0, 3), (62, .aload_n 0, 63, 0, 0), (63, .getfield 52, 66, 0, 0), (66, .lload_n 1, 67, 0, 1), (67, .iload_n 3, 68, 0, 3), (68, .invokevirtual 175, 71, 0, 0), (71, .iload 4, 73, 0, 4), (73, .invokevirtual 179, 76, 0, 0), (76, .ireturn, 77, 0, 0)], FL_es)
def Y_es_meant : am_Y := (⟨"EarSchool", "meant", "()I"⟩, prog_1_method_20_code, 1, (some .int), [(0, .aload_n 0, 1, 0, 0), (1, .getfield 16, 4, 0, 0), (4, .aload_n 0, 5, 0, 0), (5, .getfield 10, 8, 0, 0), (8, .invokevirtual 183, 11, 0, 0), (11, .aload_n 0, 12, 0, 0), (12, .getfield 61, 15, 0, 0), (15, .invokevirtual 84, 18, 0, 0), (18, .aload_n 0, 19, 0, 0), (19, .getfield 16, 22, 0, 0), (22, .getfield 76, 25, 0, 0), (25, .ireturn, 26, 0, 0)], FL_es)
def Y_es_judge : am_Y := (⟨"EarSchool", "judge", "()I"⟩, prog_1_method_21_code, 1, (some .int), [(0, .aload_n 0, 1, 0, 0), (1, .getfield 61, 4, 0, 0), (4, .invokevirtual 187, 7, 0, 0), (7, .aload_n 0, 8, 0, 0), (8, .getfield 61, 11, 0, 0), (11, .getfield 190, 14, 0, 0), (14, .ireturn, 15, 0, 0)], FL_es)
def Y_es_act : am_Y := (⟨"EarSchool", "act", "(II)I"⟩, prog_1_method_22_code, 3, (some .int), [(0, .iload_n 2, 1, 0, 2), (1, .iconst (0), 2, 0, 0), (2, .iconst (3), 3, 3, 0), (3, .invokestatic 72, 6, 0, 0), (6, .ifCond .eq (6), 9, 0, 12), (9, .bipush (-2), 11, -2, 0), (11, .ireturn, 12, 0, 0), (12, .aload_n 0, 13, 0, 0), (13, .getfield 61, 16, 0, 0), (16, .getfield 193, 19, 0, 0), (19, .ifCond .ne (6), 22, 0, 25), (22, .bipush (-3), 24, -3, 0), (24, .ireturn, 25, 0, 0), (25, .iload_n 1, 26, 0, 1), (26, .iconst (0), 27, 0, 0), (27, .aload_n 0, 28, 0, 0), (28, .getfield 61, 31, 0, 0), (31, .getfield 196, 34, 0, 0), (34, .iconst (1), 35, 1, 0), (35, .isub, 36, 0, 0), (36, .invokestatic 72, 39, 0, 0), (39, .ifCond .eq (6), 42, 0, 45), (42, .bipush (-2), 44, -2, 0), (44, .ireturn, 45, 0, 0), (45, .iload_n 2, 46, 0, 2), (46, .tableswitch (56) (0) 2 #[(26), (36), (46)], 72, 0, 0), (72, .aload_n 0, 73, 0, 0), (73, .getfield 61, 76, 0, 0), (76, .getfield 197, 79, 0, 0), (79, .iload_n 1, 80, 0, 1), (80, .iaload, 81, 0, 0), (81, .ireturn, 82, 0, 0), (82, .aload_n 0, 83, 0, 0), (83, .getfield 61, 86, 0, 0), (86, .getfield 200, 89, 0, 0), (89, .iload_n 1, 90, 0, 1), (90, .iaload, 91, 0, 0), (91, .ireturn, 92, 0, 0), (92, .aload_n 0, 93, 0, 0), (93, .getfield 61, 96, 0, 0), (96, .getfield 203, 99, 0, 0), (99, .iload_n 1, 100, 0, 1), (100, .iaload, 101, 0, 0), (101, .ireturn, 102, 0, 0), (102, .aload_n 0, 103, 0, 0), (103, .getfield 61, 106, 0, 0), (106, .getfield 206, 109, 0, 0), (109, .iload_n 1, 110, 0, 1), (110, .iaload, 111, 0, 0), (111, .ireturn, 112, 0, 0)], FL_es)
def Y_es_learn : am_Y := (⟨"EarSchool", "learn", "(I)I"⟩, prog_1_method_23_code, 2, (some .int), [(0, .iload_n 1, 1, 0, 1), (1, .iconst (0), 2, 0, 0), (2, .iconst (5), 3, 5, 0), (3, .invokestatic 72, 6, 0, 0), (6, .ifCond .eq (6), 9, 0, 12), (9, .bipush (-2), 11, -2, 0), (11, .ireturn, 12, 0, 0), (12, .aload_n 0, 13, 0, 0), (13, .getfield 61, 16, 0, 0), (16, .getfield 193, 19, 0, 0), (19, .ifCond .ne (6), 22, 0, 25), (22, .bipush (-3), 24, -3, 0), (24, .ireturn, 25, 0, 0), (25, .aload_n 0, 26, 0, 0), (26, .getfield 68, 29, 0, 0), (29, .iload_n 1, 30, 0, 1), (30, .aload_n 0, 31, 0, 0), (31, .getfield 61, 34, 0, 0), (34, .aload_n 0, 35, 0, 0), (35, .getfield 16, 38, 0, 0), (38, .invokevirtual 209, 41, 0, 0), (41, .ireturn, 42, 0, 0)], FL_es)
def Y_es_table : am_Y := (⟨"EarSchool", "table", "(III)I"⟩, prog_1_method_24_code, 4, (some .int), [(0, .iload_n 1, 1, 0, 1), (1, .iconst (0), 2, 0, 0), (2, .iconst (5), 3, 5, 0), (3, .invokestatic 72, 6, 0, 0), (6, .ifCond .ne (22), 9, 0, 28), (9, .iload_n 2, 10, 0, 2), (10, .iconst (0), 11, 0, 0), (11, .bipush (12), 13, 12, 0), (13, .invokestatic 72, 16, 0, 0), (16, .ifCond .ne (12), 19, 0, 28), (19, .iload_n 3, 20, 0, 3), (20, .iconst (0), 21, 0, 0), (21, .iconst (2), 22, 2, 0), (22, .invokestatic 72, 25, 0, 0), (25, .ifCond .eq (6), 28, 0, 31), (28, .bipush (-2), 30, -2, 0), (30, .ireturn, 31, 0, 0), (31, .iload_n 3, 32, 0, 3), (32, .iconst (2), 33, 2, 0), (33, .if_icmp .ne (13), 36, 0, 46), (36, .aload_n 0, 37, 0, 0), (37, .getfield 68, 40, 0, 0), (40, .iload_n 1, 41, 0, 1), (41, .iload_n 2, 42, 0, 2), (42, .invokevirtual 213, 45, 0, 0), (45, .ireturn, 46, 0, 0), (46, .iload_n 3, 47, 0, 3), (47, .ifCond .ne (17), 50, 0, 64), (50, .aload_n 0, 51, 0, 0), (51, .getfield 68, 54, 0, 0), (54, .getfield 217, 57, 0, 0), (57, .iload_n 1, 58, 0, 1), (58, .aaload, 59, 0, 0), (59, .iload_n 2, 60, 0, 2), (60, .iaload, 61, 0, 0), (61, .goto (14), 64, 0, 75), (64, .aload_n 0, 65, 0, 0), (65, .getfield 68, 68, 0, 0), (68, .getfield 221, 71, 0, 0), (71, .iload_n 1, 72, 0, 1), (72, .aaload, 73, 0, 0), (73, .iload_n 2, 74, 0, 2), (74, .iaload, 75, 0, 0), (75, .ireturn, 76, 0, 0)], FL_es)
def Y_es_drill : am_Y := (⟨"EarSchool", "drill", "(I)I"⟩, prog_1_method_25_code, 4, (some .int), [(0, .iload_n 1, 1, 0, 1), (1, .iconst (0), 2, 0, 0), (2, .iconst (5), 3, 5, 0), (3, .invokestatic 72, 6, 0, 0), (6, .ifCond .eq (6), 9, 0, 12), (9, .bipush (-2), 11, -2, 0), (11, .ireturn, 12, 0, 0), (12, .iconst (0), 13, 0, 0), (13, .istore_n 2, 14, 0, 2), (14, .iload_n 2, 15, 0, 2), (15, .bipush (13), 17, 13, 0), (17, .if_icmp .ge (27), 20, 0, 44), (20, .aload_n 0, 21, 0, 0), (21, .getfield 38, 24, 0, 0), (24, .getfield 224, 27, 0, 0), (27, .iload_n 2, 28, 0, 2), (28, .aload_n 0, 29, 0, 0), (29, .getfield 68, 32, 0, 0), (32, .iload_n 1, 33, 0, 1), (33, .iload_n 2, 34, 0, 2), (34, .invokevirtual 213, 37, 0, 0), (37, .iastore, 38, 0, 0), (38, .iinc 2 (1), 41, 1, 2), (41, .goto (-27), 44, 0, 14), (44, .aload_n 0, 45, 0, 0), (45, .getfield 38, 48, 0, 0), (48, .invokevirtual 227, 51, 0, 0), (51, .aload_n 0, 52, 0, 0), (52, .getfield 38, 55, 0, 0), (55, .invokevirtual 228, 58, 0, 0), (58, .aload_n 0, 59, 0, 0), (59, .getfield 38, 62, 0, 0), (62, .invokevirtual 229, 65, 0, 0), (65, .lstore_n 2, 66, 0, 2), (66, .lload_n 2, 67, 0, 2), (67, .lconst 0, 68, 0, 0), (68, .lcmp, 69, 0, 0), (69, .ifCond .ge (5), 72, 0, 74), (72, .iconst (-1), 73, -1, 0), (73, .ireturn, 74, 0, 0), (74, .aload_n 0, 75, 0, 0), (75, .getfield 38, 78, 0, 0), (78, .aload_n 0, 79, 0, 0), (79, .getfield 10, 82, 0, 0), (82, .invokevirtual 230, 85, 0, 0), (85, .aload_n 0, 86, 0, 0), (86, .getfield 61, 89, 0, 0), (89, .invokevirtual 84, 92, 0, 0), (92, .lload_n 2, 93, 0, 2), (93, .l2i, 94, 0, 0), (94, .ireturn, 95, 0, 0)], FL_es)
def Y_es_count : am_Y := (⟨"EarSchool", "count", "(I)I"⟩, prog_1_method_26_code, 2, (some .int), [(0, .iload_n 1, 1, 0, 1), (1, .tableswitch (101) (0) 5 #[(39), (47), (55), (77), (85), (93)], 40, 0, 0), (40, .aload_n 0, 41, 0, 0), (41, .getfield 10, 44, 0, 0), (44, .getfield 76, 47, 0, 0), (47, .ireturn, 48, 0, 0), (48, .aload_n 0, 49, 0, 0), (49, .getfield 16, 52, 0, 0), (52, .getfield 76, 55, 0, 0), (55, .ireturn, 56, 0, 0), (56, .aload_n 0, 57, 0, 0), (57, .getfield 61, 60, 0, 0), (60, .getfield 193, 63, 0, 0), (63, .ifCond .eq (13), 66, 0, 76), (66, .aload_n 0, 67, 0, 0), (67, .getfield 61, 70, 0, 0), (70, .getfield 196, 73, 0, 0), (73, .goto (4), 76, 0, 77), (76, .iconst (-1), 77, -1, 0), (77, .ireturn, 78, 0, 0), (78, .aload_n 0, 79, 0, 0), (79, .getfield 52, 82, 0, 0), (82, .getfield 162, 85, 0, 0), (85, .ireturn, 86, 0, 0), (86, .aload_n 0, 87, 0, 0), (87, .getfield 45, 90, 0, 0), (90, .getfield 145, 93, 0, 0), (93, .ireturn, 94, 0, 0), (94, .aload_n 0, 95, 0, 0), (95, .getfield 22, 98, 0, 0), (98, .getfield 100, 101, 0, 0), (101, .ireturn, 102, 0, 0), (102, .bipush (-2), 104, -2, 0), (104, .ireturn, 105, 0, 0)], FL_es)
def Y_es_outside : am_Y := (⟨"EarSchool", "outside", "(III)Z"⟩, prog_1_method_27_code, 3, (some .boolean), [(0, .iload_n 0, 1, 0, 0), (1, .iload_n 1, 2, 0, 1), (2, .if_icmp .lt (8), 5, 0, 10), (5, .iload_n 0, 6, 0, 0), (6, .iload_n 2, 7, 0, 2), (7, .if_icmp .le (7), 10, 0, 14), (10, .iconst (1), 11, 1, 0), (11, .goto (4), 14, 0, 15), (14, .iconst (0), 15, 0, 0), (15, .ireturn, 16, 0, 0)], FL_es)
def Y_es_cappedSum : am_Y := (⟨"EarSchool", "cappedSum", "(JJ)J"⟩, prog_1_method_28_code, 4, (some .long), [(0, .ldc2_w 232, 3, 1000000000000000000, 478), (3, .lload_n 0, 4, 0, 0), (4, .lload_n 2, 5, 0, 2), (5, .ladd, 6, 0, 0), (6, .invokestatic 234, 9, 0, 0), (9, .lreturn, 10, 0, 0)], FL_es)
def Y_es_hasClass : am_Y := (⟨"EarSchool", "hasClass", "(II)Z"⟩, prog_1_method_29_code, 2, (some .boolean), [(0, .iload_n 0, 1, 0, 0), (1, .iload_n 1, 2, 0, 1), (2, .bipush (12), 4, 12, 0), (4, .irem, 5, 0, 0), (5, .ishr, 6, 0, 0), (6, .iconst (1), 7, 1, 0), (7, .iand, 8, 0, 0), (8, .ifCond .eq (7), 11, 0, 15), (11, .iconst (1), 12, 1, 0), (12, .goto (4), 15, 0, 16), (15, .iconst (0), 16, 0, 0), (16, .ireturn, 17, 0, 0)], FL_es)
def Y_mo_in : am_Y := (⟨"EarSchoolModel", "in", "(JJJ)Z"⟩, prog_12_method_2_code, 6, (some .boolean), [(0, .lload_n 0, 1, 0, 0), (1, .lload_n 2, 2, 0, 2), (2, .lcmp, 3, 0, 0), (3, .ifCond .lt (14), 6, 0, 17), (6, .lload_n 0, 7, 0, 0), (7, .lload 4, 9, 0, 4), (9, .lcmp, 10, 0, 0), (10, .ifCond .gt (7), 13, 0, 17), (13, .iconst (1), 14, 1, 0), (14, .goto (4), 17, 0, 18), (17, .iconst (0), 18, 0, 0), (18, .ireturn, 19, 0, 0)], FL_mo)
def Y_mo_plus : am_Y := (⟨"EarSchoolModel", "plus", "(JJ)J"⟩, prog_12_method_3_code, 4, (some .long), [(0, .lload_n 0, 1, 0, 0), (1, .lload_n 2, 2, 0, 2), (2, .ladd, 3, 0, 0), (3, .ldc2_w 110, 6, 1000000000000000000, 975), (6, .lcmp, 7, 0, 0), (7, .ifCond .le (9), 10, 0, 16), (10, .ldc2_w 110, 13, 1000000000000000000, 975), (13, .goto (6), 16, 0, 19), (16, .lload_n 0, 17, 0, 0), (17, .lload_n 2, 18, 0, 2), (18, .ladd, 19, 0, 0), (19, .lreturn, 20, 0, 0)], FL_mo)
def Y_mo_note : am_Y := (⟨"EarSchoolModel", "note", "(II)I"⟩, prog_12_method_4_code, 3, (some .int), [(0, .iload_n 1, 1, 0, 1), (1, .i2l, 2, 0, 0), (2, .lconst 0, 3, 0, 0), (3, .ldc2_w 112, 6, 127, 913), (6, .invokestatic 114, 9, 0, 0), (9, .ifCond .eq (15), 12, 0, 24), (12, .iload_n 2, 13, 0, 2), (13, .i2l, 14, 0, 0), (14, .lconst 1, 15, 1, 0), (15, .ldc2_w 118, 18, 96, 917), (18, .invokestatic 114, 21, 0, 0), (21, .ifCond .ne (6), 24, 0, 27), (24, .bipush (-2), 26, -2, 0), (26, .ireturn, 27, 0, 0), (27, .aload_n 0, 28, 0, 0), (28, .getfield 120, 31, 0, 0), (31, .bipush (24), 33, 24, 0), (33, .if_icmp .ne (6), 36, 0, 39), (36, .bipush (-4), 38, -4, 0), (38, .ireturn, 39, 0, 0), (39, .aload_n 0, 40, 0, 0), (40, .getfield 7, 43, 0, 0), (43, .aload_n 0, 44, 0, 0), (44, .getfield 120, 47, 0, 0), (47, .iload_n 1, 48, 0, 1), (48, .iastore, 49, 0, 0), (49, .aload_n 0, 50, 0, 0), (50, .getfield 13, 53, 0, 0), (53, .aload_n 0, 54, 0, 0), (54, .getfield 120, 57, 0, 0), (57, .iload_n 2, 58, 0, 2), (58, .iastore, 59, 0, 0), (59, .aload_n 0, 60, 0, 0), (60, .dup, 61, 0, 0), (61, .getfield 120, 64, 0, 0), (64, .iconst (1), 65, 1, 0), (65, .iadd, 66, 0, 0), (66, .putfield 120, 69, 0, 0), (69, .aload_n 0, 70, 0, 0), (70, .iconst (0), 71, 0, 0), (71, .putfield 123, 74, 0, 0), (74, .aload_n 0, 75, 0, 0), (75, .getfield 120, 78, 0, 0), (78, .ireturn, 79, 0, 0)], FL_mo)
def Y_mo_drop : am_Y := (⟨"EarSchoolModel", "drop", "()I"⟩, prog_12_method_5_code, 2, (some .int), [(0, .aload_n 0, 1, 0, 0), (1, .getfield 120, 4, 0, 0), (4, .istore_n 1, 5, 0, 1), (5, .aload_n 0, 6, 0, 0), (6, .iconst (0), 7, 0, 0), (7, .putfield 120, 10, 0, 0), (10, .aload_n 0, 11, 0, 0), (11, .iconst (0), 12, 0, 0), (12, .putfield 123, 15, 0, 0), (15, .iload_n 1, 16, 0, 1), (16, .ireturn, 17, 0, 0)], FL_mo)
def Y_mo_at : am_Y := (⟨"EarSchoolModel", "at", "(II)I"⟩, prog_12_method_6_code, 3, (some .int), [(0, .iload_n 1, 1, 0, 1), (1, .i2l, 2, 0, 0), (2, .lconst 0, 3, 0, 0), (3, .aload_n 0, 4, 0, 0), (4, .getfield 120, 7, 0, 0), (7, .iconst (1), 8, 1, 0), (8, .isub, 9, 0, 0), (9, .i2l, 10, 0, 0), (10, .invokestatic 114, 13, 0, 0), (13, .ifCond .eq (13), 16, 0, 26), (16, .iload_n 2, 17, 0, 2), (17, .i2l, 18, 0, 0), (18, .lconst 0, 19, 0, 0), (19, .lconst 1, 20, 1, 0), (20, .invokestatic 114, 23, 0, 0), (23, .ifCond .ne (8), 26, 0, 31), (26, .bipush (-2), 28, -2, 0), (28, .goto (22), 31, 0, 50), (31, .iload_n 2, 32, 0, 2), (32, .ifCond .ne (12), 35, 0, 44), (35, .aload_n 0, 36, 0, 0), (36, .getfield 7, 39, 0, 0), (39, .iload_n 1, 40, 0, 1), (40, .iaload, 41, 0, 0), (41, .goto (9), 44, 0, 50), (44, .aload_n 0, 45, 0, 0), (45, .getfield 13, 48, 0, 0), (48, .iload_n 1, 49, 0, 1), (49, .iaload, 50, 0, 0), (50, .ireturn, 51, 0, 0)], FL_mo)
def Y_mo_range : am_Y := (⟨"EarSchoolModel", "range", "(III)I"⟩, prog_12_method_7_code, 4, (some .int), [(0, .iload_n 1, 1, 0, 1), (1, .i2l, 2, 0, 0), (2, .lconst 0, 3, 0, 0), (3, .ldc2_w 112, 6, 127, 913), (6, .invokestatic 114, 9, 0, 0), (9, .ifCond .eq (45), 12, 0, 54), (12, .iload_n 2, 13, 0, 2), (13, .i2l, 14, 0, 0), (14, .iload_n 1, 15, 0, 1), (15, .i2l, 16, 0, 0), (16, .iload_n 1, 17, 0, 1), (17, .bipush (36), 19, 36, 0), (19, .iadd, 20, 0, 0), (20, .bipush (127), 22, 127, 0), (22, .if_icmp .ge (11), 25, 0, 33), (25, .iload_n 1, 26, 0, 1), (26, .bipush (36), 28, 36, 0), (28, .iadd, 29, 0, 0), (29, .i2l, 30, 0, 0), (30, .goto (6), 33, 0, 36), (33, .ldc2_w 112, 36, 127, 913), (36, .invokestatic 114, 39, 0, 0), (39, .ifCond .eq (15), 42, 0, 54), (42, .iload_n 3, 43, 0, 3), (43, .i2l, 44, 0, 0), (44, .lconst 1, 45, 1, 0), (45, .ldc2_w 127, 48, 16, 930), (48, .invokestatic 114, 51, 0, 0), (51, .ifCond .ne (6), 54, 0, 57), (54, .bipush (-2), 56, -2, 0), (56, .ireturn, 57, 0, 0), (57, .aload_n 0, 58, 0, 0), (58, .iload_n 1, 59, 0, 1), (59, .putfield 22, 62, 0, 0), (62, .aload_n 0, 63, 0, 0), (63, .iload_n 2, 64, 0, 2), (64, .putfield 26, 67, 0, 0), (67, .aload_n 0, 68, 0, 0), (68, .iload_n 3, 69, 0, 3), (69, .putfield 29, 72, 0, 0), (72, .iconst (1), 73, 1, 0), (73, .ireturn, 74, 0, 0)], FL_mo)
def Y_mo_bits : am_Y := (⟨"EarSchoolModel", "bits", "(II)I"⟩, prog_12_method_8_code, 4, (some .int), [(0, .iload_n 1, 1, 0, 1), (1, .i2l, 2, 0, 0), (2, .lconst 0, 3, 0, 0), (3, .ldc2_w 129, 6, 3, 935), (6, .invokestatic 114, 9, 0, 0), (9, .ifCond .eq (26), 12, 0, 35), (12, .iload_n 2, 13, 0, 2), (13, .i2l, 14, 0, 0), (14, .lconst 0, 15, 0, 0), (15, .iload_n 1, 16, 0, 1), (16, .iconst (3), 17, 3, 0), (17, .if_icmp .ge (9), 20, 0, 26), (20, .ldc2_w 131, 23, 4095, 936), (23, .goto (6), 26, 0, 29), (26, .ldc2_w 133, 29, 33554431, 937), (29, .invokestatic 114, 32, 0, 0), (32, .ifCond .ne (6), 35, 0, 38), (35, .bipush (-2), 37, -2, 0), (37, .ireturn, 38, 0, 0), (38, .iload_n 1, 39, 0, 1), (39, .ifCond .ne (10), 42, 0, 49), (42, .aload_n 0, 43, 0, 0), (43, .getfield 32, 46, 0, 0), (46, .goto (31), 49, 0, 77), (49, .iload_n 1, 50, 0, 1), (50, .iconst (1), 51, 1, 0), (51, .if_icmp .ne (10), 54, 0, 61), (54, .aload_n 0, 55, 0, 0), (55, .getfield 35, 58, 0, 0), (58, .goto (19), 61, 0, 77), (61, .iload_n 1, 62, 0, 1), (62, .iconst (2), 63, 2, 0), (63, .if_icmp .ne (10), 66, 0, 73), (66, .aload_n 0, 67, 0, 0), (67, .getfield 38, 70, 0, 0), (70, .goto (7), 73, 0, 77), (73, .aload_n 0, 74, 0, 0), (74, .getfield 42, 77, 0, 0), (77, .istore_n 3, 78, 0, 3), (78, .iload_n 1, 79, 0, 1), (79, .ifCond .ne (11), 82, 0, 90), (82, .aload_n 0, 83, 0, 0), (83, .iload_n 2, 84, 0, 2), (84, .putfield 32, 87, 0, 0), (87, .goto (34), 90, 0, 121), (90, .iload_n 1, 91, 0, 1), (91, .iconst (1), 92, 1, 0), (92, .if_icmp .ne (11), 95, 0, 103), (95, .aload_n 0, 96, 0, 0), (96, .iload_n 2, 97, 0, 2), (97, .putfield 35, 100, 0, 0), (100, .goto (21), 103, 0, 121), (103, .iload_n 1, 104, 0, 1), (104, .iconst (2), 105, 2, 0), (105, .if_icmp .ne (11), 108, 0, 116), (108, .aload_n 0, 109, 0, 0), (109, .iload_n 2, 110, 0, 2), (110, .putfield 38, 113, 0, 0), (113, .goto (8), 116, 0, 121), (116, .aload_n 0, 117, 0, 0), (117, .iload_n 2, 118, 0, 2), (118, .putfield 42, 121, 0, 0), (121, .iload_n 3, 122, 0, 3), (122, .ireturn, 123, 0, 0)], FL_mo)
def Y_mo_bound : am_Y := (⟨"EarSchoolModel", "bound", "(II)I"⟩, prog_12_method_9_code, 4, (some .int), [(0, .iload_n 1, 1, 0, 1), (1, .i2l, 2, 0, 0), (2, .lconst 0, 3, 0, 0), (3, .lconst 1, 4, 1, 0), (4, .invokestatic 114, 7, 0, 0), (7, .ifCond .eq (34), 10, 0, 41), (10, .iload_n 1, 11, 0, 1), (11, .ifCond .ne (18), 14, 0, 29), (14, .iload_n 2, 15, 0, 2), (15, .i2l, 16, 0, 0), (16, .lconst 1, 17, 1, 0), (17, .ldc2_w 135, 20, 13, 942), (20, .invokestatic 114, 23, 0, 0), (23, .ifCond .ne (21), 26, 0, 44), (26, .goto (15), 29, 0, 41), (29, .iload_n 2, 30, 0, 2), (30, .i2l, 31, 0, 0), (31, .lconst 0, 32, 0, 0), (32, .ldc2_w 137, 35, 15, 943), (35, .invokestatic 114, 38, 0, 0), (38, .ifCond .ne (6), 41, 0, 44), (41, .bipush (-2), 43, -2, 0), (43, .ireturn, 44, 0, 0), (44, .iload_n 1, 45, 0, 1), (45, .ifCond .ne (10), 48, 0, 55), (48, .aload_n 0, 49, 0, 0), (49, .getfield 45, 52, 0, 0), (52, .goto (7), 55, 0, 59), (55, .aload_n 0, 56, 0, 0), (56, .getfield 48, 59, 0, 0), (59, .istore_n 3, 60, 0, 3), (60, .iload_n 1, 61, 0, 1), (61, .ifCond .ne (11), 64, 0, 72), (64, .aload_n 0, 65, 0, 0), (65, .iload_n 2, 66, 0, 2), (66, .putfield 45, 69, 0, 0), (69, .goto (8), 72, 0, 77), (72, .aload_n 0, 73, 0, 0), (73, .iload_n 2, 74, 0, 2), (74, .putfield 48, 77, 0, 0), (77, .iload_n 3, 78, 0, 3), (78, .ireturn, 79, 0, 0)], FL_mo)
def Y_mo_hasClass : am_Y := (⟨"EarSchoolModel", "hasClass", "(II)Z"⟩, prog_12_method_10_code, 2, (some .boolean), [(0, .iload_n 0, 1, 0, 0), (1, .iload_n 1, 2, 0, 1), (2, .bipush (12), 4, 12, 0), (4, .irem, 5, 0, 0), (5, .ishr, 6, 0, 0), (6, .iconst (1), 7, 1, 0), (7, .iand, 8, 0, 0), (8, .iconst (1), 9, 1, 0), (9, .if_icmp .ne (7), 12, 0, 16), (12, .iconst (1), 13, 1, 0), (13, .goto (4), 16, 0, 17), (16, .iconst (0), 17, 0, 0), (17, .ireturn, 18, 0, 0)], FL_mo)
def Y_mo_fits : am_Y := (⟨"EarSchoolModel", "fits", "(II)Z"⟩, prog_12_method_11_code, 3, (some .boolean), [(0, .iload_n 2, 1, 0, 2), (1, .i2l, 2, 0, 0), (2, .aload_n 0, 3, 0, 0), (3, .getfield 22, 6, 0, 0), (6, .i2l, 7, 0, 0), (7, .aload_n 0, 8, 0, 0), (8, .getfield 26, 11, 0, 0), (11, .i2l, 12, 0, 0), (12, .invokestatic 114, 15, 0, 0), (15, .ifCond .eq (54), 18, 0, 69), (18, .aload_n 0, 19, 0, 0), (19, .getfield 32, 22, 0, 0), (22, .iload_n 2, 23, 0, 2), (23, .invokestatic 139, 26, 0, 0), (26, .ifCond .eq (43), 29, 0, 69), (29, .iload_n 1, 30, 0, 1), (30, .ifCond .gt (14), 33, 0, 44), (33, .aload_n 0, 34, 0, 0), (34, .getfield 35, 37, 0, 0), (37, .iload_n 2, 38, 0, 2), (38, .invokestatic 139, 41, 0, 0), (41, .ifCond .eq (28), 44, 0, 69), (44, .iload_n 1, 45, 0, 1), (45, .aload_n 0, 46, 0, 0), (46, .getfield 29, 49, 0, 0), (49, .iconst (1), 50, 1, 0), (50, .isub, 51, 0, 0), (51, .if_icmp .lt (14), 54, 0, 65), (54, .aload_n 0, 55, 0, 0), (55, .getfield 38, 58, 0, 0), (58, .iload_n 2, 59, 0, 2), (59, .invokestatic 139, 62, 0, 0), (62, .ifCond .eq (7), 65, 0, 69), (65, .iconst (1), 66, 1, 0), (66, .goto (4), 69, 0, 70), (69, .iconst (0), 70, 0, 0), (70, .ireturn, 71, 0, 0)], FL_mo)
def Y_mo_behind : am_Y := (⟨"EarSchoolModel", "behind", "(II)I"⟩, prog_12_method_12_code, 4, (some .int), [(0, .iload_n 2, 1, 0, 2), (1, .i2l, 2, 0, 0), (2, .ldc2_w 143, 5, -12, 970), (5, .ldc2_w 145, 8, 12, 971), (8, .invokestatic 114, 11, 0, 0), (11, .ifCond .eq (17), 14, 0, 28), (14, .aload_n 0, 15, 0, 0), (15, .getfield 42, 18, 0, 0), (18, .bipush (12), 20, 12, 0), (20, .iload_n 2, 21, 0, 2), (21, .iadd, 22, 0, 0), (22, .ishr, 23, 0, 0), (23, .iconst (1), 24, 1, 0), (24, .iand, 25, 0, 0), (25, .ifCond .ne (5), 28, 0, 30), (28, .iconst (-1), 29, -1, 0), (29, .ireturn, 30, 0, 0), (30, .iload_n 1, 31, 0, 1), (31, .iconst (1), 32, 1, 0), (32, .if_icmp .ne (14), 35, 0, 46), (35, .iload_n 2, 36, 0, 2), (36, .iconst (-1), 37, -1, 0), (37, .if_icmp .eq (9), 40, 0, 46), (40, .iload_n 2, 41, 0, 2), (41, .bipush (-2), 43, -2, 0), (43, .if_icmp .ne (18), 46, 0, 61), (46, .iload_n 1, 47, 0, 1), (47, .iconst (2), 48, 2, 0), (48, .if_icmp .ne (15), 51, 0, 63), (51, .iload_n 2, 52, 0, 2), (52, .iconst (1), 53, 1, 0), (53, .if_icmp .eq (10), 56, 0, 63), (56, .iload_n 2, 57, 0, 2), (57, .iconst (2), 58, 2, 0), (58, .if_icmp .eq (5), 61, 0, 63), (61, .iconst (-1), 62, -1, 0), (62, .ireturn, 63, 0, 0), (63, .iload_n 2, 64, 0, 2), (64, .ifCond .ne (32), 67, 0, 96), (67, .iload_n 1, 68, 0, 1), (68, .iconst (2), 69, 2, 0), (69, .if_icmp .le (9), 72, 0, 78), (72, .iload_n 1, 73, 0, 1), (73, .iconst (1), 74, 1, 0), (74, .isub, 75, 0, 0), (75, .goto (4), 78, 0, 79), (78, .iconst (1), 79, 1, 0), (79, .istore_n 3, 80, 0, 3), (80, .iload_n 3, 81, 0, 3), (81, .aload_n 0, 82, 0, 0), (82, .getfield 48, 85, 0, 0), (85, .if_icmp .le (7), 88, 0, 92), (88, .iconst (-1), 89, -1, 0), (89, .goto (6), 92, 0, 95), (92, .iconst (2), 93, 2, 0), (93, .iload_n 3, 94, 0, 3), (94, .iadd, 95, 0, 0), (95, .ireturn, 96, 0, 0), (96, .iload_n 2, 97, 0, 2), (97, .ifCond .ge (8), 100, 0, 105), (100, .iload_n 2, 101, 0, 2), (101, .ineg, 102, 0, 0), (102, .goto (4), 105, 0, 106), (105, .iload_n 2, 106, 0, 2), (106, .istore_n 3, 107, 0, 3), (107, .iload_n 3, 108, 0, 3), (108, .aload_n 0, 109, 0, 0), (109, .getfield 45, 112, 0, 0), (112, .if_icmp .ge (7), 115, 0, 119), (115, .iconst (0), 116, 0, 0), (116, .goto (12), 119, 0, 128), (119, .iload_n 2, 120, 0, 2), (120, .ifCond .le (7), 123, 0, 127), (123, .iconst (1), 124, 1, 0), (124, .goto (4), 127, 0, 128), (127, .iconst (2), 128, 2, 0), (128, .ireturn, 129, 0, 0)], FL_mo)
def Y_mo_cellAt : am_Y := (⟨"EarSchoolModel", "cellAt", "(III)I"⟩, prog_12_method_13_code, 3, (some .int), [(0, .bipush (37), 2, 37, 0), (2, .iload_n 0, 3, 0, 0), (3, .imul, 4, 0, 0), (4, .iload_n 1, 5, 0, 1), (5, .iadd, 6, 0, 0), (6, .bipush (18), 8, 18, 0), (8, .imul, 9, 0, 0), (9, .iload_n 2, 10, 0, 2), (10, .iadd, 11, 0, 0), (11, .ireturn, 12, 0, 0)], FL_mo)
def Y_mo_countWays : am_Y := (⟨"EarSchoolModel", "countWays", "()V"⟩, prog_12_method_14_code, 4, none, [(0, .aload_n 0, 1, 0, 0), (1, .getfield 29, 4, 0, 0), (4, .iconst (1), 5, 1, 0), (5, .isub, 6, 0, 0), (6, .istore_n 1, 7, 0, 1), (7, .iload_n 1, 8, 0, 1), (8, .ifCond .lt (92), 11, 0, 100), (11, .aload_n 0, 12, 0, 0), (12, .getfield 22, 15, 0, 0), (15, .istore_n 2, 16, 0, 2), (16, .iload_n 2, 17, 0, 2), (17, .aload_n 0, 18, 0, 0), (18, .getfield 26, 21, 0, 0), (21, .if_icmp .gt (73), 24, 0, 94), (24, .iconst (0), 25, 0, 0), (25, .istore_n 3, 26, 0, 3), (26, .iload_n 3, 27, 0, 3), (27, .bipush (18), 29, 18, 0), (29, .if_icmp .ge (59), 32, 0, 88), (32, .aload_n 0, 33, 0, 0), (33, .getfield 76, 36, 0, 0), (36, .iload_n 1, 37, 0, 1), (37, .iload_n 2, 38, 0, 2), (38, .aload_n 0, 39, 0, 0), (39, .getfield 22, 42, 0, 0), (42, .isub, 43, 0, 0), (43, .iload_n 3, 44, 0, 3), (44, .invokestatic 147, 47, 0, 0), (47, .aload_n 0, 48, 0, 0), (48, .iload_n 1, 49, 0, 1), (49, .iload_n 2, 50, 0, 2), (50, .invokevirtual 151, 53, 0, 0), (53, .ifCond .ne (7), 56, 0, 60), (56, .lconst 0, 57, 0, 0), (57, .goto (24), 60, 0, 81), (60, .iload_n 1, 61, 0, 1), (61, .aload_n 0, 62, 0, 0), (62, .getfield 29, 65, 0, 0), (65, .iconst (1), 66, 1, 0), (66, .isub, 67, 0, 0), (67, .if_icmp .ne (7), 70, 0, 74), (70, .lconst 1, 71, 1, 0), (71, .goto (10), 74, 0, 81), (74, .aload_n 0, 75, 0, 0), (75, .iload_n 1, 76, 0, 1), (76, .iload_n 2, 77, 0, 2), (77, .iload_n 3, 78, 0, 3), (78, .invokevirtual 154, 81, 0, 0), (81, .lastore, 82, 0, 0), (82, .iinc 3 (1), 85, 1, 3), (85, .goto (-59), 88, 0, 26), (88, .iinc 2 (1), 91, 1, 2), (91, .goto (-75), 94, 0, 16), (94, .iinc 1 (-1), 97, -1, 1), (97, .goto (-90), 100, 0, 7), (100, .return_, 101, 0, 0)], FL_mo)
def Y_mo_waysOn : am_Y := (⟨"EarSchoolModel", "waysOn", "(III)J"⟩, prog_12_method_15_code, 8, (some .long), [(0, .lconst 0, 1, 0, 0), (1, .lstore 4, 3, 0, 4), (3, .aload_n 0, 4, 0, 0), (4, .getfield 22, 7, 0, 0), (7, .istore 6, 9, 0, 6), (9, .iload 6, 11, 0, 6), (11, .aload_n 0, 12, 0, 0), (12, .getfield 26, 15, 0, 0), (15, .if_icmp .gt (58), 18, 0, 73), (18, .aload_n 0, 19, 0, 0), (19, .iload_n 3, 20, 0, 3), (20, .iload 6, 22, 0, 6), (22, .iload_n 2, 23, 0, 2), (23, .isub, 24, 0, 0), (24, .invokevirtual 158, 27, 0, 0), (27, .istore 7, 29, 0, 7), (29, .iload 7, 31, 0, 7), (31, .iconst (-1), 32, -1, 0), (32, .if_icmp .ne (8), 35, 0, 40), (35, .lload 4, 37, 0, 4), (37, .goto (28), 40, 0, 65), (40, .lload 4, 42, 0, 4), (42, .aload_n 0, 43, 0, 0), (43, .getfield 76, 46, 0, 0), (46, .iload_n 1, 47, 0, 1), (47, .iconst (1), 48, 1, 0), (48, .iadd, 49, 0, 0), (49, .iload 6, 51, 0, 6), (51, .aload_n 0, 52, 0, 0), (52, .getfield 22, 55, 0, 0), (55, .isub, 56, 0, 0), (56, .iload 7, 58, 0, 7), (58, .invokestatic 147, 61, 0, 0), (61, .laload, 62, 0, 0), (62, .invokestatic 162, 65, 0, 0), (65, .lstore 4, 67, 0, 4), (67, .iinc 6 (1), 70, 1, 6), (70, .goto (-61), 73, 0, 9), (73, .lload 4, 75, 0, 4), (75, .lreturn, 76, 0, 0)], FL_mo)
def Y_mo_melodies : am_Y := (⟨"EarSchoolModel", "melodies", "()J"⟩, prog_12_method_16_code, 4, (some .long), [(0, .aload_n 0, 1, 0, 0), (1, .invokevirtual 166, 4, 0, 0), (4, .lconst 0, 5, 0, 0), (5, .lstore_n 1, 6, 0, 1), (6, .aload_n 0, 7, 0, 0), (7, .getfield 22, 10, 0, 0), (10, .istore_n 3, 11, 0, 3), (11, .iload_n 3, 12, 0, 3), (12, .aload_n 0, 13, 0, 0), (13, .getfield 26, 16, 0, 0), (16, .if_icmp .gt (30), 19, 0, 46), (19, .lload_n 1, 20, 0, 1), (20, .aload_n 0, 21, 0, 0), (21, .getfield 76, 24, 0, 0), (24, .iconst (0), 25, 0, 0), (25, .iload_n 3, 26, 0, 3), (26, .aload_n 0, 27, 0, 0), (27, .getfield 22, 30, 0, 0), (30, .isub, 31, 0, 0), (31, .iconst (0), 32, 0, 0), (32, .invokestatic 147, 35, 0, 0), (35, .laload, 36, 0, 0), (36, .invokestatic 162, 39, 0, 0), (39, .lstore_n 1, 40, 0, 1), (40, .iinc 3 (1), 43, 1, 3), (43, .goto (-32), 46, 0, 11), (46, .lload_n 1, 47, 0, 1), (47, .lreturn, 48, 0, 0)], FL_mo)
def Y_mo_lay : am_Y := (⟨"EarSchoolModel", "lay", "(III)V"⟩, prog_12_method_17_code, 4, none, [(0, .aload_n 0, 1, 0, 0), (1, .getfield 7, 4, 0, 0), (4, .iload_n 1, 5, 0, 1), (5, .iload_n 2, 6, 0, 2), (6, .iastore, 7, 0, 0), (7, .aload_n 0, 8, 0, 0), (8, .getfield 13, 11, 0, 0), (11, .iload_n 1, 12, 0, 1), (12, .iload_n 3, 13, 0, 3), (13, .iastore, 14, 0, 0), (14, .return_, 15, 0, 0)], FL_mo)
def Y_mo_laid : am_Y := (⟨"EarSchoolModel", "laid", "(I)V"⟩, prog_12_method_18_code, 2, none, [(0, .aload_n 0, 1, 0, 0), (1, .iload_n 1, 2, 0, 1), (2, .putfield 120, 5, 0, 0), (5, .aload_n 0, 6, 0, 0), (6, .iconst (0), 7, 0, 0), (7, .putfield 123, 10, 0, 0), (10, .return_, 11, 0, 0)], FL_mo)
def Y_mo_melody : am_Y := (⟨"EarSchoolModel", "melody", "(J)I"⟩, prog_12_method_19_code, 12, (some .int), [(0, .lload_n 1, 1, 0, 1), (1, .lconst 0, 2, 0, 0), (2, .lcmp, 3, 0, 0), (3, .ifCond .ge (6), 6, 0, 9), (6, .bipush (-2), 8, -2, 0), (8, .ireturn, 9, 0, 0), (9, .lload_n 1, 10, 0, 1), (10, .aload_n 0, 11, 0, 0), (11, .invokevirtual 169, 14, 0, 0), (14, .lcmp, 15, 0, 0), (15, .ifCond .ge (11), 18, 0, 26), (18, .lload_n 1, 19, 0, 1), (19, .ldc2_w 110, 22, 1000000000000000000, 975), (22, .lcmp, 23, 0, 0), (23, .ifCond .lt (5), 26, 0, 28), (26, .iconst (-1), 27, -1, 0), (27, .ireturn, 28, 0, 0), (28, .lload_n 1, 29, 0, 1), (29, .lstore_n 3, 30, 0, 3), (30, .iconst (0), 31, 0, 0), (31, .istore 5, 33, 0, 5), (33, .iconst (0), 34, 0, 0), (34, .istore 6, 36, 0, 6), (36, .iload 6, 38, 0, 6), (38, .aload_n 0, 39, 0, 0), (39, .getfield 29, 42, 0, 0), (42, .if_icmp .ge (130), 45, 0, 172), (45, .iconst (0), 46, 0, 0), (46, .istore 7, 48, 0, 7), (48, .aload_n 0, 49, 0, 0), (49, .getfield 22, 52, 0, 0), (52, .istore 8, 54, 0, 8), (54, .iload 8, 56, 0, 8), (56, .aload_n 0, 57, 0, 0), (57, .getfield 26, 60, 0, 0), (60, .if_icmp .gt (106), 63, 0, 166), (63, .iload 7, 65, 0, 7), (65, .ifCond .ne (101), 68, 0, 166), (68, .iload 6, 70, 0, 6), (70, .ifCond .ne (7), 73, 0, 77), (73, .iconst (0), 74, 0, 0), (74, .goto (21), 77, 0, 95), (77, .aload_n 0, 78, 0, 0), (78, .iload 5, 80, 0, 5), (80, .iload 8, 82, 0, 8), (82, .aload_n 0, 83, 0, 0), (83, .getfield 7, 86, 0, 0), (86, .iload 6, 88, 0, 6), (88, .iconst (1), 89, 1, 0), (89, .isub, 90, 0, 0), (90, .iaload, 91, 0, 0), (91, .isub, 92, 0, 0), (92, .invokevirtual 158, 95, 0, 0), (95, .istore 9, 97, 0, 9), (97, .iload 9, 99, 0, 9), (99, .iconst (-1), 100, -1, 0), (100, .if_icmp .ne (7), 103, 0, 107), (103, .lconst 0, 104, 0, 0), (104, .goto (22), 107, 0, 126), (107, .aload_n 0, 108, 0, 0), (108, .getfield 76, 111, 0, 0), (111, .iload 6, 113, 0, 6), (113, .iload 8, 115, 0, 8), (115, .aload_n 0, 116, 0, 0), (116, .getfield 22, 119, 0, 0), (119, .isub, 120, 0, 0), (120, .iload 9, 122, 0, 9), (122, .invokestatic 147, 125, 0, 0), (125, .laload, 126, 0, 0), (126, .lstore 10, 128, 0, 10), (128, .lload_n 3, 129, 0, 3), (129, .lload 10, 131, 0, 10), (131, .lcmp, 132, 0, 0), (132, .ifCond .ge (23), 135, 0, 155), (135, .aload_n 0, 136, 0, 0), (136, .iload 6, 138, 0, 6), (138, .iload 8, 140, 0, 8), (140, .bipush (24), 142, 24, 0), (142, .invokevirtual 173, 145, 0, 0), (145, .iload 9, 147, 0, 9), (147, .istore 5, 149, 0, 5), (149, .iconst (1), 150, 1, 0), (150, .istore 7, 152, 0, 7), (152, .goto (8), 155, 0, 160), (155, .lload_n 3, 156, 0, 3), (156, .lload 10, 158, 0, 10), (158, .lsub, 159, 0, 0), (159, .lstore_n 3, 160, 0, 3), (160, .iinc 8 (1), 163, 1, 8), (163, .goto (-109), 166, 0, 54), (166, .iinc 6 (1), 169, 1, 6), (169, .goto (-133), 172, 0, 36), (172, .aload_n 0, 173, 0, 0), (173, .aload_n 0, 174, 0, 0), (174, .getfield 29, 177, 0, 0), (177, .invokevirtual 177, 180, 0, 0), (180, .iconst (1), 181, 1, 0), (181, .ireturn, 182, 0, 0)], FL_mo)
def Y_mo_place : am_Y := (⟨"EarSchoolModel", "place", "()J"⟩, prog_12_method_20_code, 7, (some .long), [(0, .aload_n 0, 1, 0, 0), (1, .getfield 120, 4, 0, 0), (4, .aload_n 0, 5, 0, 0), (5, .getfield 29, 8, 0, 0), (8, .if_icmp .eq (7), 11, 0, 15), (11, .ldc2_w 181, 14, -1, 993), (14, .lreturn, 15, 0, 0), (15, .aload_n 0, 16, 0, 0), (16, .invokevirtual 166, 19, 0, 0), (19, .lconst 0, 20, 0, 0), (20, .lstore_n 1, 21, 0, 1), (21, .iconst (0), 22, 0, 0), (22, .istore_n 3, 23, 0, 3), (23, .iconst (0), 24, 0, 0), (24, .istore 4, 26, 0, 4), (26, .iload 4, 28, 0, 4), (28, .aload_n 0, 29, 0, 0), (29, .getfield 29, 32, 0, 0), (32, .if_icmp .ge (164), 35, 0, 196), (35, .aload_n 0, 36, 0, 0), (36, .getfield 22, 39, 0, 0), (39, .istore 5, 41, 0, 5), (41, .iload 5, 43, 0, 5), (43, .aload_n 0, 44, 0, 0), (44, .getfield 26, 47, 0, 0), (47, .if_icmp .gt (83), 50, 0, 130), (50, .iload 5, 52, 0, 5), (52, .aload_n 0, 53, 0, 0), (53, .getfield 7, 56, 0, 0), (56, .iload 4, 58, 0, 4), (58, .iaload, 59, 0, 0), (59, .if_icmp .ge (71), 62, 0, 130), (62, .iload 4, 64, 0, 4), (64, .ifCond .ne (7), 67, 0, 71), (67, .iconst (0), 68, 0, 0), (68, .goto (20), 71, 0, 88), (71, .aload_n 0, 72, 0, 0), (72, .iload_n 3, 73, 0, 3), (73, .iload 5, 75, 0, 5), (75, .aload_n 0, 76, 0, 0), (76, .getfield 7, 79, 0, 0), (79, .iload 4, 81, 0, 4), (81, .iconst (1), 82, 1, 0), (82, .isub, 83, 0, 0), (83, .iaload, 84, 0, 0), (84, .isub, 85, 0, 0), (85, .invokevirtual 158, 88, 0, 0), (88, .istore 6, 90, 0, 6), (90, .iload 6, 92, 0, 6), (92, .iconst (-1), 93, -1, 0), (93, .if_icmp .ne (7), 96, 0, 100), (96, .lload_n 1, 97, 0, 1), (97, .goto (26), 100, 0, 123), (100, .lload_n 1, 101, 0, 1), (101, .aload_n 0, 102, 0, 0), (102, .getfield 76, 105, 0, 0), (105, .iload 4, 107, 0, 4), (107, .iload 5, 109, 0, 5), (109, .aload_n 0, 110, 0, 0), (110, .getfield 22, 113, 0, 0), (113, .isub, 114, 0, 0), (114, .iload 6, 116, 0, 6), (116, .invokestatic 147, 119, 0, 0), (119, .laload, 120, 0, 0), (120, .invokestatic 162, 123, 0, 0), (123, .lstore_n 1, 124, 0, 1), (124, .iinc 5 (1), 127, 1, 5), (127, .goto (-86), 130, 0, 41), (130, .iload 4, 132, 0, 4), (132, .ifCond .ne (7), 135, 0, 139), (135, .iconst (0), 136, 0, 0), (136, .goto (25), 139, 0, 161), (139, .aload_n 0, 140, 0, 0), (140, .iload_n 3, 141, 0, 3), (141, .aload_n 0, 142, 0, 0), (142, .getfield 7, 145, 0, 0), (145, .iload 4, 147, 0, 4), (147, .iaload, 148, 0, 0), (148, .aload_n 0, 149, 0, 0), (149, .getfield 7, 152, 0, 0), (152, .iload 4, 154, 0, 4), (154, .iconst (1), 155, 1, 0), (155, .isub, 156, 0, 0), (156, .iaload, 157, 0, 0), (157, .isub, 158, 0, 0), (158, .invokevirtual 158, 161, 0, 0), (161, .istore 5, 163, 0, 5), (163, .iload 5, 165, 0, 5), (165, .iconst (-1), 166, -1, 0), (166, .if_icmp .eq (19), 169, 0, 185), (169, .aload_n 0, 170, 0, 0), (170, .iload 4, 172, 0, 4), (172, .aload_n 0, 173, 0, 0), (173, .getfield 7, 176, 0, 0), (176, .iload 4, 178, 0, 4), (178, .iaload, 179, 0, 0), (179, .invokevirtual 151, 182, 0, 0), (182, .ifCond .ne (5), 185, 0, 187), (185, .lload_n 1, 186, 0, 1), (186, .lreturn, 187, 0, 0), (187, .iload 5, 189, 0, 5), (189, .istore_n 3, 190, 0, 3), (190, .iinc 4 (1), 193, 1, 4), (193, .goto (-167), 196, 0, 26), (196, .lload_n 1, 197, 0, 1), (197, .lreturn, 198, 0, 0)], FL_mo)
def Y_mo_bars : am_Y := (⟨"EarSchoolModel", "bars", "(II)I"⟩, prog_12_method_21_code, 3, (some .int), [(0, .iload_n 1, 1, 0, 1), (1, .i2l, 2, 0, 0), (2, .lconst 1, 3, 1, 0), (3, .ldc2_w 183, 6, 6, 998), (6, .invokestatic 114, 9, 0, 0), (9, .ifCond .eq (15), 12, 0, 24), (12, .iload_n 2, 13, 0, 2), (13, .i2l, 14, 0, 0), (14, .lconst 1, 15, 1, 0), (15, .ldc2_w 118, 18, 96, 917), (18, .invokestatic 114, 21, 0, 0), (21, .ifCond .ne (6), 24, 0, 27), (24, .bipush (-2), 26, -2, 0), (26, .ireturn, 27, 0, 0), (27, .aload_n 0, 28, 0, 0), (28, .iload_n 1, 29, 0, 1), (29, .putfield 51, 32, 0, 0), (32, .aload_n 0, 33, 0, 0), (33, .iload_n 2, 34, 0, 2), (34, .putfield 54, 37, 0, 0), (37, .iconst (1), 38, 1, 0), (38, .ireturn, 39, 0, 0)], FL_mo)
def Y_mo_some : am_Y := (⟨"EarSchoolModel", "some", "(IZ)I"⟩, prog_12_method_22_code, 4, (some .int), [(0, .iload_n 1, 1, 0, 1), (1, .i2l, 2, 0, 0), (2, .lconst 1, 3, 1, 0), (3, .ldc2_w 118, 6, 96, 917), (6, .invokestatic 114, 9, 0, 0), (9, .ifCond .ne (6), 12, 0, 15), (12, .bipush (-2), 14, -2, 0), (14, .ireturn, 15, 0, 0), (15, .aload_n 0, 16, 0, 0), (16, .getfield 57, 19, 0, 0), (19, .iload_n 1, 20, 0, 1), (20, .baload, 21, 0, 0), (21, .ifCond .eq (7), 24, 0, 28), (24, .iconst (1), 25, 1, 0), (25, .goto (4), 28, 0, 29), (28, .iconst (0), 29, 0, 0), (29, .istore_n 3, 30, 0, 3), (30, .iload_n 2, 31, 0, 2), (31, .ifCond .eq (19), 34, 0, 50), (34, .iload_n 3, 35, 0, 3), (35, .ifCond .ne (15), 38, 0, 50), (38, .aload_n 0, 39, 0, 0), (39, .getfield 185, 42, 0, 0), (42, .bipush (6), 44, 6, 0), (44, .if_icmp .ne (6), 47, 0, 50), (47, .bipush (-4), 49, -4, 0), (49, .ireturn, 50, 0, 0), (50, .aload_n 0, 51, 0, 0), (51, .dup, 52, 0, 0), (52, .getfield 185, 55, 0, 0), (55, .iload_n 2, 56, 0, 2), (56, .ifCond .eq (7), 59, 0, 63), (59, .iconst (1), 60, 1, 0), (60, .goto (4), 63, 0, 64), (63, .iconst (0), 64, 0, 0), (64, .iload_n 3, 65, 0, 3), (65, .isub, 66, 0, 0), (66, .iadd, 67, 0, 0), (67, .putfield 185, 70, 0, 0), (70, .aload_n 0, 71, 0, 0), (71, .getfield 57, 74, 0, 0), (74, .iload_n 1, 75, 0, 1), (75, .iload_n 2, 76, 0, 2), (76, .bastore, 77, 0, 0), (77, .iload_n 3, 78, 0, 3), (78, .ireturn, 79, 0, 0)], FL_mo)
def Y_mo_goes : am_Y := (⟨"EarSchoolModel", "goes", "(II)Z"⟩, prog_12_method_23_code, 3, (some .boolean), [(0, .aload_n 0, 1, 0, 0), (1, .getfield 57, 4, 0, 0), (4, .iload_n 2, 5, 0, 2), (5, .baload, 6, 0, 0), (6, .ifCond .eq (22), 9, 0, 28), (9, .iload_n 1, 10, 0, 1), (10, .aload_n 0, 11, 0, 0), (11, .getfield 54, 14, 0, 0), (14, .irem, 15, 0, 0), (15, .iload_n 2, 16, 0, 2), (16, .iadd, 17, 0, 0), (17, .aload_n 0, 18, 0, 0), (18, .getfield 54, 21, 0, 0), (21, .if_icmp .gt (7), 24, 0, 28), (24, .iconst (1), 25, 1, 0), (25, .goto (4), 28, 0, 29), (28, .iconst (0), 29, 0, 0), (29, .ireturn, 30, 0, 0)], FL_mo)
def Y_mo_countFills : am_Y := (⟨"EarSchoolModel", "countFills", "()V"⟩, prog_12_method_24_code, 7, none, [(0, .aload_n 0, 1, 0, 0), (1, .getfield 51, 4, 0, 0), (4, .aload_n 0, 5, 0, 0), (5, .getfield 54, 8, 0, 0), (8, .imul, 9, 0, 0), (9, .istore_n 1, 10, 0, 1), (10, .iload_n 1, 11, 0, 1), (11, .istore_n 2, 12, 0, 2), (12, .iload_n 2, 13, 0, 2), (13, .ifCond .lt (111), 16, 0, 124), (16, .iconst (0), 17, 0, 0), (17, .istore_n 3, 18, 0, 3), (18, .iload_n 3, 19, 0, 3), (19, .bipush (24), 21, 24, 0), (21, .if_icmp .gt (97), 24, 0, 118), (24, .iload_n 2, 25, 0, 2), (25, .iload_n 1, 26, 0, 1), (26, .if_icmp .ne (7), 29, 0, 33), (29, .lconst 1, 30, 1, 0), (30, .goto (4), 33, 0, 34), (33, .lconst 0, 34, 0, 0), (34, .lstore 4, 36, 0, 4), (36, .iconst (1), 37, 1, 0), (37, .istore 6, 39, 0, 6), (39, .iload 6, 41, 0, 6), (41, .bipush (96), 43, 96, 0), (43, .if_icmp .gt (56), 46, 0, 99), (46, .iload_n 2, 47, 0, 2), (47, .iload_n 1, 48, 0, 1), (48, .if_icmp .ge (51), 51, 0, 99), (51, .iload_n 3, 52, 0, 3), (52, .ifCond .le (47), 55, 0, 99), (55, .aload_n 0, 56, 0, 0), (56, .iload_n 2, 57, 0, 2), (57, .iload 6, 59, 0, 6), (59, .invokevirtual 188, 62, 0, 0), (62, .ifCond .eq (27), 65, 0, 89), (65, .lload 4, 67, 0, 4), (67, .aload_n 0, 68, 0, 0), (68, .getfield 80, 71, 0, 0), (71, .bipush (25), 73, 25, 0), (73, .iload_n 2, 74, 0, 2), (74, .iload 6, 76, 0, 6), (76, .iadd, 77, 0, 0), (77, .imul, 78, 0, 0), (78, .iload_n 3, 79, 0, 3), (79, .iadd, 80, 0, 0), (80, .iconst (1), 81, 1, 0), (81, .isub, 82, 0, 0), (82, .laload, 83, 0, 0), (83, .invokestatic 162, 86, 0, 0), (86, .goto (5), 89, 0, 91), (89, .lload 4, 91, 0, 4), (91, .lstore 4, 93, 0, 4), (93, .iinc 6 (1), 96, 1, 6), (96, .goto (-57), 99, 0, 39), (99, .aload_n 0, 100, 0, 0), (100, .getfield 80, 103, 0, 0), (103, .bipush (25), 105, 25, 0), (105, .iload_n 2, 106, 0, 2), (106, .imul, 107, 0, 0), (107, .iload_n 3, 108, 0, 3), (108, .iadd, 109, 0, 0), (109, .lload 4, 111, 0, 4), (111, .lastore, 112, 0, 0), (112, .iinc 3 (1), 115, 1, 3), (115, .goto (-97), 118, 0, 18), (118, .iinc 2 (-1), 121, -1, 2), (121, .goto (-109), 124, 0, 12), (124, .return_, 125, 0, 0)], FL_mo)
def Y_mo_rhythms : am_Y := (⟨"EarSchoolModel", "rhythms", "()J"⟩, prog_12_method_25_code, 1, (some .long), [(0, .aload_n 0, 1, 0, 0), (1, .invokevirtual 191, 4, 0, 0), (4, .aload_n 0, 5, 0, 0), (5, .getfield 80, 8, 0, 0), (8, .bipush (24), 10, 24, 0), (10, .laload, 11, 0, 0), (11, .lreturn, 12, 0, 0)], FL_mo)
def Y_mo_rhythm : am_Y := (⟨"EarSchoolModel", "rhythm", "(J)I"⟩, prog_12_method_26_code, 11, (some .int), [(0, .lload_n 1, 1, 0, 1), (1, .lconst 0, 2, 0, 0), (2, .lcmp, 3, 0, 0), (3, .ifCond .ge (6), 6, 0, 9), (6, .bipush (-2), 8, -2, 0), (8, .ireturn, 9, 0, 0), (9, .lload_n 1, 10, 0, 1), (10, .aload_n 0, 11, 0, 0), (11, .invokevirtual 194, 14, 0, 0), (14, .lcmp, 15, 0, 0), (15, .ifCond .ge (11), 18, 0, 26), (18, .lload_n 1, 19, 0, 1), (19, .ldc2_w 110, 22, 1000000000000000000, 975), (22, .lcmp, 23, 0, 0), (23, .ifCond .lt (5), 26, 0, 28), (26, .iconst (-1), 27, -1, 0), (27, .ireturn, 28, 0, 0), (28, .lload_n 1, 29, 0, 1), (29, .lstore_n 3, 30, 0, 3), (30, .iconst (0), 31, 0, 0), (31, .istore 5, 33, 0, 5), (33, .iconst (0), 34, 0, 0), (34, .istore 6, 36, 0, 6), (36, .iload 5, 38, 0, 5), (38, .aload_n 0, 39, 0, 0), (39, .getfield 51, 42, 0, 0), (42, .aload_n 0, 43, 0, 0), (43, .getfield 54, 46, 0, 0), (46, .imul, 47, 0, 0), (47, .if_icmp .ge (107), 50, 0, 154), (50, .iconst (0), 51, 0, 0), (51, .istore 7, 53, 0, 7), (53, .iconst (1), 54, 1, 0), (54, .istore 8, 56, 0, 8), (56, .iload 8, 58, 0, 8), (58, .bipush (96), 60, 96, 0), (60, .if_icmp .gt (71), 63, 0, 131), (63, .iload 7, 65, 0, 7), (65, .ifCond .ne (66), 68, 0, 131), (68, .aload_n 0, 69, 0, 0), (69, .iload 5, 71, 0, 5), (71, .iload 8, 73, 0, 8), (73, .invokevirtual 188, 76, 0, 0), (76, .ifCond .eq (27), 79, 0, 103), (79, .aload_n 0, 80, 0, 0), (80, .getfield 80, 83, 0, 0), (83, .bipush (25), 85, 25, 0), (85, .iload 5, 87, 0, 5), (87, .iload 8, 89, 0, 8), (89, .iadd, 90, 0, 0), (90, .imul, 91, 0, 0), (91, .bipush (24), 93, 24, 0), (93, .iadd, 94, 0, 0), (94, .iload 6, 96, 0, 6), (96, .isub, 97, 0, 0), (97, .iconst (1), 98, 1, 0), (98, .isub, 99, 0, 0), (99, .laload, 100, 0, 0), (100, .goto (4), 103, 0, 104), (103, .lconst 0, 104, 0, 0), (104, .lstore 9, 106, 0, 9), (106, .lload_n 3, 107, 0, 3), (107, .lload 9, 109, 0, 9), (109, .lcmp, 110, 0, 0), (110, .ifCond .ge (10), 113, 0, 120), (113, .iload 8, 115, 0, 8), (115, .istore 7, 117, 0, 7), (117, .goto (8), 120, 0, 125), (120, .lload_n 3, 121, 0, 3), (121, .lload 9, 123, 0, 9), (123, .lsub, 124, 0, 0), (124, .lstore_n 3, 125, 0, 3), (125, .iinc 8 (1), 128, 1, 8), (128, .goto (-72), 131, 0, 56), (131, .aload_n 0, 132, 0, 0), (132, .iload 6, 134, 0, 6), (134, .bipush (60), 136, 60, 0), (136, .iload 7, 138, 0, 7), (138, .invokevirtual 173, 141, 0, 0), (141, .iinc 6 (1), 144, 1, 6), (144, .iload 5, 146, 0, 5), (146, .iload 7, 148, 0, 7), (148, .iadd, 149, 0, 0), (149, .istore 5, 151, 0, 5), (151, .goto (-115), 154, 0, 36), (154, .aload_n 0, 155, 0, 0), (155, .iload 6, 157, 0, 6), (157, .invokevirtual 177, 160, 0, 0), (160, .iload 6, 162, 0, 6), (162, .ireturn, 163, 0, 0)], FL_mo)
def Y_mo_mask : am_Y := (⟨"EarSchoolModel", "mask", "(I)I"⟩, prog_12_method_27_code, 4, (some .int), [(0, .iconst (0), 1, 0, 0), (1, .istore_n 2, 2, 0, 2), (2, .iconst (0), 3, 0, 0), (3, .istore_n 3, 4, 0, 3), (4, .iload_n 3, 5, 0, 3), (5, .bipush (12), 7, 12, 0), (7, .if_icmp .ge (17), 10, 0, 24), (10, .iload_n 2, 11, 0, 2), (11, .iload_n 1, 12, 0, 1), (12, .iload_n 3, 13, 0, 3), (13, .ishr, 14, 0, 0), (14, .iconst (1), 15, 1, 0), (15, .iand, 16, 0, 0), (16, .iadd, 17, 0, 0), (17, .istore_n 2, 18, 0, 2), (18, .iinc 3 (1), 21, 1, 3), (21, .goto (-17), 24, 0, 4), (24, .iload_n 1, 25, 0, 1), (25, .i2l, 26, 0, 0), (26, .lconst 1, 27, 1, 0), (27, .ldc2_w 131, 30, 4095, 936), (30, .invokestatic 114, 33, 0, 0), (33, .ifCond .eq (8), 36, 0, 41), (36, .iload_n 2, 37, 0, 2), (37, .iconst (3), 38, 3, 0), (38, .if_icmp .le (6), 41, 0, 44), (41, .bipush (-2), 43, -2, 0), (43, .ireturn, 44, 0, 0), (44, .aload_n 0, 45, 0, 0), (45, .getfield 197, 48, 0, 0), (48, .bipush (6), 50, 6, 0), (50, .if_icmp .ne (6), 53, 0, 56), (53, .bipush (-4), 55, -4, 0), (55, .ireturn, 56, 0, 0), (56, .aload_n 0, 57, 0, 0), (57, .getfield 61, 60, 0, 0), (60, .aload_n 0, 61, 0, 0), (61, .getfield 197, 64, 0, 0), (64, .iload_n 1, 65, 0, 1), (65, .iastore, 66, 0, 0), (66, .aload_n 0, 67, 0, 0), (67, .dup, 68, 0, 0), (68, .getfield 197, 71, 0, 0), (71, .iconst (1), 72, 1, 0), (72, .iadd, 73, 0, 0), (73, .putfield 197, 76, 0, 0), (76, .aload_n 0, 77, 0, 0), (77, .getfield 197, 80, 0, 0), (80, .ireturn, 81, 0, 0)], FL_mo)
def Y_mo_clear : am_Y := (⟨"EarSchoolModel", "clear", "()I"⟩, prog_12_method_28_code, 2, (some .int), [(0, .aload_n 0, 1, 0, 0), (1, .getfield 197, 4, 0, 0), (4, .istore_n 1, 5, 0, 1), (5, .aload_n 0, 6, 0, 0), (6, .iconst (0), 7, 0, 0), (7, .putfield 197, 10, 0, 0), (10, .iload_n 1, 11, 0, 1), (11, .ireturn, 12, 0, 0)], FL_mo)
def Y_mo_voice : am_Y := (⟨"EarSchoolModel", "voice", "(II)I"⟩, prog_12_method_29_code, 4, (some .int), [(0, .iload_n 1, 1, 0, 1), (1, .i2l, 2, 0, 0), (2, .lconst 0, 3, 0, 0), (3, .ldc2_w 129, 6, 3, 935), (6, .invokestatic 114, 9, 0, 0), (9, .ifCond .eq (26), 12, 0, 35), (12, .iload_n 2, 13, 0, 2), (13, .i2l, 14, 0, 0), (14, .lconst 0, 15, 0, 0), (15, .iload_n 1, 16, 0, 1), (16, .iconst (3), 17, 3, 0), (17, .if_icmp .ge (9), 20, 0, 26), (20, .ldc2_w 200, 23, 116, 1032), (23, .goto (6), 26, 0, 29), (26, .ldc2_w 145, 29, 12, 971), (29, .invokestatic 114, 32, 0, 0), (32, .ifCond .ne (6), 35, 0, 38), (35, .bipush (-2), 37, -2, 0), (37, .ireturn, 38, 0, 0), (38, .iload_n 1, 39, 0, 1), (39, .iconst (3), 40, 3, 0), (40, .if_icmp .ge (12), 43, 0, 52), (43, .aload_n 0, 44, 0, 0), (44, .getfield 64, 47, 0, 0), (47, .iload_n 1, 48, 0, 1), (48, .iaload, 49, 0, 0), (49, .goto (7), 52, 0, 56), (52, .aload_n 0, 53, 0, 0), (53, .getfield 67, 56, 0, 0), (56, .istore_n 3, 57, 0, 3), (57, .iload_n 1, 58, 0, 1), (58, .iconst (3), 59, 3, 0), (59, .if_icmp .ge (13), 62, 0, 72), (62, .aload_n 0, 63, 0, 0), (63, .getfield 64, 66, 0, 0), (66, .iload_n 1, 67, 0, 1), (67, .iload_n 2, 68, 0, 2), (68, .iastore, 69, 0, 0), (69, .goto (8), 72, 0, 77), (72, .aload_n 0, 73, 0, 0), (73, .iload_n 2, 74, 0, 2), (74, .putfield 67, 77, 0, 0), (77, .iload_n 3, 78, 0, 3), (78, .ireturn, 79, 0, 0)], FL_mo)
def Y_mo_pitchOf : am_Y := (⟨"EarSchoolModel", "pitchOf", "(III)I"⟩, prog_12_method_30_code, 4, (some .int), [(0, .aload_n 0, 1, 0, 0), (1, .getfield 83, 4, 0, 0), (4, .bipush (90), 6, 90, 0), (6, .iload_n 1, 7, 0, 1), (7, .imul, 8, 0, 0), (8, .iconst (3), 9, 3, 0), (9, .iload_n 2, 10, 0, 2), (10, .imul, 11, 0, 0), (11, .iadd, 12, 0, 0), (12, .iload_n 3, 13, 0, 3), (13, .iadd, 14, 0, 0), (14, .iaload, 15, 0, 0), (15, .ireturn, 16, 0, 0)], FL_mo)
def Y_mo_findThrees : am_Y := (⟨"EarSchoolModel", "findThrees", "(I)V"⟩, prog_12_method_31_code, 7, none, [(0, .aload_n 0, 1, 0, 0), (1, .getfield 86, 4, 0, 0), (4, .iload_n 1, 5, 0, 1), (5, .iconst (0), 6, 0, 0), (6, .iastore, 7, 0, 0), (7, .aload_n 0, 8, 0, 0), (8, .getfield 64, 11, 0, 0), (11, .iconst (0), 12, 0, 0), (12, .iaload, 13, 0, 0), (13, .istore_n 2, 14, 0, 2), (14, .iload_n 2, 15, 0, 2), (15, .aload_n 0, 16, 0, 0), (16, .getfield 64, 19, 0, 0), (19, .iconst (0), 20, 0, 0), (20, .iaload, 21, 0, 0), (21, .bipush (12), 23, 12, 0), (23, .iadd, 24, 0, 0), (24, .if_icmp .ge (162), 27, 0, 186), (27, .aload_n 0, 28, 0, 0), (28, .getfield 64, 31, 0, 0), (31, .iconst (1), 32, 1, 0), (32, .iaload, 33, 0, 0), (33, .istore_n 3, 34, 0, 3), (34, .iload_n 3, 35, 0, 3), (35, .aload_n 0, 36, 0, 0), (36, .getfield 64, 39, 0, 0), (39, .iconst (1), 40, 1, 0), (40, .iaload, 41, 0, 0), (41, .bipush (12), 43, 12, 0), (43, .iadd, 44, 0, 0), (44, .if_icmp .ge (136), 47, 0, 180), (47, .aload_n 0, 48, 0, 0), (48, .getfield 64, 51, 0, 0), (51, .iconst (2), 52, 2, 0), (52, .iaload, 53, 0, 0), (53, .istore 4, 55, 0, 4), (55, .iload 4, 57, 0, 4), (57, .aload_n 0, 58, 0, 0), (58, .getfield 64, 61, 0, 0), (61, .iconst (2), 62, 2, 0), (62, .iaload, 63, 0, 0), (63, .bipush (12), 65, 12, 0), (65, .iadd, 66, 0, 0), (66, .if_icmp .ge (108), 69, 0, 174), (69, .iconst (1), 70, 1, 0), (70, .iload_n 2, 71, 0, 2), (71, .bipush (12), 73, 12, 0), (73, .irem, 74, 0, 0), (74, .ishl, 75, 0, 0), (75, .iconst (1), 76, 1, 0), (76, .iload_n 3, 77, 0, 3), (77, .bipush (12), 79, 12, 0), (79, .irem, 80, 0, 0), (80, .ishl, 81, 0, 0), (81, .ior, 82, 0, 0), (82, .iconst (1), 83, 1, 0), (83, .iload 4, 85, 0, 4), (85, .bipush (12), 87, 12, 0), (87, .irem, 88, 0, 0), (88, .ishl, 89, 0, 0), (89, .ior, 90, 0, 0), (90, .istore 5, 92, 0, 5), (92, .iload_n 2, 93, 0, 2), (93, .iload_n 3, 94, 0, 3), (94, .if_icmp .ge (74), 97, 0, 168), (97, .iload_n 3, 98, 0, 3), (98, .iload 4, 100, 0, 4), (100, .if_icmp .ge (68), 103, 0, 168), (103, .iload 5, 105, 0, 5), (105, .aload_n 0, 106, 0, 0), (106, .getfield 61, 109, 0, 0), (109, .iload_n 1, 110, 0, 1), (110, .iaload, 111, 0, 0), (111, .if_icmp .ne (57), 114, 0, 168), (114, .bipush (90), 116, 90, 0), (116, .iload_n 1, 117, 0, 1), (117, .imul, 118, 0, 0), (118, .iconst (3), 119, 3, 0), (119, .aload_n 0, 120, 0, 0), (120, .getfield 86, 123, 0, 0), (123, .iload_n 1, 124, 0, 1), (124, .iaload, 125, 0, 0), (125, .imul, 126, 0, 0), (126, .iadd, 127, 0, 0), (127, .istore 6, 129, 0, 6), (129, .aload_n 0, 130, 0, 0), (130, .getfield 83, 133, 0, 0), (133, .iload 6, 135, 0, 6), (135, .iload_n 2, 136, 0, 2), (136, .iastore, 137, 0, 0), (137, .aload_n 0, 138, 0, 0), (138, .getfield 83, 141, 0, 0), (141, .iload 6, 143, 0, 6), (143, .iconst (1), 144, 1, 0), (144, .iadd, 145, 0, 0), (145, .iload_n 3, 146, 0, 3), (146, .iastore, 147, 0, 0), (147, .aload_n 0, 148, 0, 0), (148, .getfield 83, 151, 0, 0), (151, .iload 6, 153, 0, 6), (153, .iconst (2), 154, 2, 0), (154, .iadd, 155, 0, 0), (155, .iload 4, 157, 0, 4), (157, .iastore, 158, 0, 0), (158, .aload_n 0, 159, 0, 0), (159, .getfield 86, 162, 0, 0), (162, .iload_n 1, 163, 0, 1), (163, .dup2, 164, 0, 0), (164, .iaload, 165, 0, 0), (165, .iconst (1), 166, 1, 0), (166, .iadd, 167, 0, 0), (167, .iastore, 168, 0, 0), (168, .iinc 4 (1), 171, 1, 4), (171, .goto (-116), 174, 0, 55), (174, .iinc 3 (1), 177, 1, 3), (177, .goto (-143), 180, 0, 34), (180, .iinc 2 (1), 183, 1, 2), (183, .goto (-169), 186, 0, 14), (186, .return_, 187, 0, 0)], FL_mo)
def Y_mo_follows : am_Y := (⟨"EarSchoolModel", "follows", "(III)Z"⟩, prog_12_method_32_code, 12, (some .boolean), [(0, .iconst (1), 1, 1, 0), (1, .istore 4, 3, 0, 4), (3, .iconst (0), 4, 0, 0), (4, .istore 5, 6, 0, 5), (6, .iload 5, 8, 0, 5), (8, .iconst (3), 9, 3, 0), (9, .if_icmp .ge (209), 12, 0, 218), (12, .aload_n 0, 13, 0, 0), (13, .iload_n 1, 14, 0, 1), (14, .iconst (1), 15, 1, 0), (15, .iadd, 16, 0, 0), (16, .iload_n 3, 17, 0, 3), (17, .iload 5, 19, 0, 5), (19, .invokevirtual 202, 22, 0, 0), (22, .aload_n 0, 23, 0, 0), (23, .iload_n 1, 24, 0, 1), (24, .iload_n 2, 25, 0, 2), (25, .iload 5, 27, 0, 5), (27, .invokevirtual 202, 30, 0, 0), (30, .isub, 31, 0, 0), (31, .istore 6, 33, 0, 6), (33, .iload 4, 35, 0, 4), (35, .ifCond .eq (26), 38, 0, 61), (38, .iload 6, 40, 0, 6), (40, .aload_n 0, 41, 0, 0), (41, .getfield 67, 44, 0, 0), (44, .if_icmp .gt (17), 47, 0, 61), (47, .iload 6, 49, 0, 6), (49, .ineg, 50, 0, 0), (50, .aload_n 0, 51, 0, 0), (51, .getfield 67, 54, 0, 0), (54, .if_icmp .gt (7), 57, 0, 61), (57, .iconst (1), 58, 1, 0), (58, .goto (4), 61, 0, 62), (61, .iconst (0), 62, 0, 0), (62, .istore 4, 64, 0, 4), (64, .iconst (0), 65, 0, 0), (65, .istore 7, 67, 0, 7), (67, .iload 7, 69, 0, 7), (69, .iload 5, 71, 0, 5), (71, .if_icmp .ge (141), 74, 0, 212), (74, .aload_n 0, 75, 0, 0), (75, .iload_n 1, 76, 0, 1), (76, .iconst (1), 77, 1, 0), (77, .iadd, 78, 0, 0), (78, .iload_n 3, 79, 0, 3), (79, .iload 7, 81, 0, 7), (81, .invokevirtual 202, 84, 0, 0), (84, .aload_n 0, 85, 0, 0), (85, .iload_n 1, 86, 0, 1), (86, .iload_n 2, 87, 0, 2), (87, .iload 7, 89, 0, 7), (89, .invokevirtual 202, 92, 0, 0), (92, .isub, 93, 0, 0), (93, .istore 8, 95, 0, 8), (95, .aload_n 0, 96, 0, 0), (96, .iload_n 1, 97, 0, 1), (97, .iload_n 2, 98, 0, 2), (98, .iload 5, 100, 0, 5), (100, .invokevirtual 202, 103, 0, 0), (103, .aload_n 0, 104, 0, 0), (104, .iload_n 1, 105, 0, 1), (105, .iload_n 2, 106, 0, 2), (106, .iload 7, 108, 0, 7), (108, .invokevirtual 202, 111, 0, 0), (111, .isub, 112, 0, 0), (112, .bipush (12), 114, 12, 0), (114, .irem, 115, 0, 0), (115, .istore 9, 117, 0, 9), (117, .aload_n 0, 118, 0, 0), (118, .iload_n 1, 119, 0, 1), (119, .iconst (1), 120, 1, 0), (120, .iadd, 121, 0, 0), (121, .iload_n 3, 122, 0, 3), (122, .iload 5, 124, 0, 5), (124, .invokevirtual 202, 127, 0, 0), (127, .aload_n 0, 128, 0, 0), (128, .iload_n 1, 129, 0, 1), (129, .iconst (1), 130, 1, 0), (130, .iadd, 131, 0, 0), (131, .iload_n 3, 132, 0, 3), (132, .iload 7, 134, 0, 7), (134, .invokevirtual 202, 137, 0, 0), (137, .isub, 138, 0, 0), (138, .bipush (12), 140, 12, 0), (140, .irem, 141, 0, 0), (141, .istore 10, 143, 0, 10), (143, .iload 6, 145, 0, 6), (145, .ifCond .le (8), 148, 0, 153), (148, .iload 8, 150, 0, 8), (150, .ifCond .gt (13), 153, 0, 163), (153, .iload 6, 155, 0, 6), (155, .ifCond .ge (12), 158, 0, 167), (158, .iload 8, 160, 0, 8), (160, .ifCond .ge (7), 163, 0, 167), (163, .iconst (1), 164, 1, 0), (164, .goto (4), 167, 0, 168), (167, .iconst (0), 168, 0, 0), (168, .istore 11, 170, 0, 11), (170, .iload 4, 172, 0, 4), (172, .ifCond .eq (31), 175, 0, 203), (175, .iload 11, 177, 0, 11), (177, .ifCond .eq (22), 180, 0, 199), (180, .iload 9, 182, 0, 9), (182, .iload 10, 184, 0, 10), (184, .if_icmp .ne (15), 187, 0, 199), (187, .iload 10, 189, 0, 10), (189, .ifCond .eq (14), 192, 0, 203), (192, .iload 10, 194, 0, 10), (194, .bipush (7), 196, 7, 0), (196, .if_icmp .eq (7), 199, 0, 203), (199, .iconst (1), 200, 1, 0), (200, .goto (4), 203, 0, 204), (203, .iconst (0), 204, 0, 0), (204, .istore 4, 206, 0, 4), (206, .iinc 7 (1), 209, 1, 7), (209, .goto (-142), 212, 0, 67), (212, .iinc 5 (1), 215, 1, 5), (215, .goto (-209), 218, 0, 6), (218, .iload 4, 220, 0, 4), (220, .ireturn, 221, 0, 0)], FL_mo)
def Y_mo_countChords : am_Y := (⟨"EarSchoolModel", "countChords", "()V"⟩, prog_12_method_33_code, 6, none, [(0, .aload_n 0, 1, 0, 0), (1, .getfield 197, 4, 0, 0), (4, .iconst (1), 5, 1, 0), (5, .isub, 6, 0, 0), (6, .istore_n 1, 7, 0, 1), (7, .iload_n 1, 8, 0, 1), (8, .ifCond .lt (126), 11, 0, 134), (11, .aload_n 0, 12, 0, 0), (12, .iload_n 1, 13, 0, 1), (13, .invokevirtual 205, 16, 0, 0), (16, .iconst (0), 17, 0, 0), (17, .istore_n 2, 18, 0, 2), (18, .iload_n 2, 19, 0, 2), (19, .aload_n 0, 20, 0, 0), (20, .getfield 86, 23, 0, 0), (23, .iload_n 1, 24, 0, 1), (24, .iaload, 25, 0, 0), (25, .if_icmp .ge (103), 28, 0, 128), (28, .iload_n 1, 29, 0, 1), (29, .aload_n 0, 30, 0, 0), (30, .getfield 197, 33, 0, 0), (33, .iconst (1), 34, 1, 0), (34, .isub, 35, 0, 0), (35, .if_icmp .ne (7), 38, 0, 42), (38, .lconst 1, 39, 1, 0), (39, .goto (4), 42, 0, 43), (42, .lconst 0, 43, 0, 0), (43, .lstore_n 3, 44, 0, 3), (44, .iconst (0), 45, 0, 0), (45, .istore 5, 47, 0, 5), (47, .iload_n 1, 48, 0, 1), (48, .aload_n 0, 49, 0, 0), (49, .getfield 197, 52, 0, 0), (52, .iconst (1), 53, 1, 0), (53, .isub, 54, 0, 0), (54, .if_icmp .ge (56), 57, 0, 110), (57, .iload 5, 59, 0, 5), (59, .aload_n 0, 60, 0, 0), (60, .getfield 86, 63, 0, 0), (63, .iload_n 1, 64, 0, 1), (64, .iconst (1), 65, 1, 0), (65, .iadd, 66, 0, 0), (66, .iaload, 67, 0, 0), (67, .if_icmp .ge (43), 70, 0, 110), (70, .aload_n 0, 71, 0, 0), (71, .iload_n 1, 72, 0, 1), (72, .iload_n 2, 73, 0, 2), (73, .iload 5, 75, 0, 5), (75, .invokevirtual 208, 78, 0, 0), (78, .ifCond .eq (24), 81, 0, 102), (81, .lload_n 3, 82, 0, 3), (82, .aload_n 0, 83, 0, 0), (83, .getfield 89, 86, 0, 0), (86, .bipush (30), 88, 30, 0), (88, .iload_n 1, 89, 0, 1), (89, .iconst (1), 90, 1, 0), (90, .iadd, 91, 0, 0), (91, .imul, 92, 0, 0), (92, .iload 5, 94, 0, 5), (94, .iadd, 95, 0, 0), (95, .laload, 96, 0, 0), (96, .invokestatic 162, 99, 0, 0), (99, .goto (4), 102, 0, 103), (102, .lload_n 3, 103, 0, 3), (103, .lstore_n 3, 104, 0, 3), (104, .iinc 5 (1), 107, 1, 5), (107, .goto (-60), 110, 0, 47), (110, .aload_n 0, 111, 0, 0), (111, .getfield 89, 114, 0, 0), (114, .bipush (30), 116, 30, 0), (116, .iload_n 1, 117, 0, 1), (117, .imul, 118, 0, 0), (118, .iload_n 2, 119, 0, 2), (119, .iadd, 120, 0, 0), (120, .lload_n 3, 121, 0, 3), (121, .lastore, 122, 0, 0), (122, .iinc 2 (1), 125, 1, 2), (125, .goto (-107), 128, 0, 18), (128, .iinc 1 (-1), 131, -1, 1), (131, .goto (-124), 134, 0, 7), (134, .return_, 135, 0, 0)], FL_mo)
def Y_mo_chords : am_Y := (⟨"EarSchoolModel", "chords", "()J"⟩, prog_12_method_34_code, 4, (some .long), [(0, .aload_n 0, 1, 0, 0), (1, .invokevirtual 212, 4, 0, 0), (4, .lconst 0, 5, 0, 0), (5, .lstore_n 1, 6, 0, 1), (6, .iconst (0), 7, 0, 0), (7, .istore_n 3, 8, 0, 3), (8, .aload_n 0, 9, 0, 0), (9, .getfield 197, 12, 0, 0), (12, .ifCond .le (30), 15, 0, 42), (15, .iload_n 3, 16, 0, 3), (16, .aload_n 0, 17, 0, 0), (17, .getfield 86, 20, 0, 0), (20, .iconst (0), 21, 0, 0), (21, .iaload, 22, 0, 0), (22, .if_icmp .ge (20), 25, 0, 42), (25, .lload_n 1, 26, 0, 1), (26, .aload_n 0, 27, 0, 0), (27, .getfield 89, 30, 0, 0), (30, .iload_n 3, 31, 0, 3), (31, .laload, 32, 0, 0), (32, .invokestatic 162, 35, 0, 0), (35, .lstore_n 1, 36, 0, 1), (36, .iinc 3 (1), 39, 1, 3), (39, .goto (-31), 42, 0, 8), (42, .lload_n 1, 43, 0, 1), (43, .lreturn, 44, 0, 0)], FL_mo)
def Y_mo_chord : am_Y := (⟨"EarSchoolModel", "chord", "(JII)I"⟩, prog_12_method_35_code, 13, (some .int), [(0, .lload_n 1, 1, 0, 1), (1, .lconst 0, 2, 0, 0), (2, .lcmp, 3, 0, 0), (3, .ifCond .lt (32), 6, 0, 35), (6, .iload_n 3, 7, 0, 3), (7, .i2l, 8, 0, 0), (8, .lconst 0, 9, 0, 0), (9, .aload_n 0, 10, 0, 0), (10, .getfield 197, 13, 0, 0), (13, .iconst (1), 14, 1, 0), (14, .isub, 15, 0, 0), (15, .i2l, 16, 0, 0), (16, .invokestatic 114, 19, 0, 0), (19, .ifCond .eq (16), 22, 0, 35), (22, .iload 4, 24, 0, 4), (24, .i2l, 25, 0, 0), (25, .lconst 0, 26, 0, 0), (26, .ldc2_w 215, 29, 2, 1057), (29, .invokestatic 114, 32, 0, 0), (32, .ifCond .ne (6), 35, 0, 38), (35, .bipush (-2), 37, -2, 0), (37, .ireturn, 38, 0, 0), (38, .lload_n 1, 39, 0, 1), (39, .aload_n 0, 40, 0, 0), (40, .invokevirtual 217, 43, 0, 0), (43, .lcmp, 44, 0, 0), (44, .ifCond .ge (11), 47, 0, 55), (47, .lload_n 1, 48, 0, 1), (48, .ldc2_w 110, 51, 1000000000000000000, 975), (51, .lcmp, 52, 0, 0), (52, .ifCond .lt (5), 55, 0, 57), (55, .iconst (-1), 56, -1, 0), (56, .ireturn, 57, 0, 0), (57, .lload_n 1, 58, 0, 1), (58, .lstore 5, 60, 0, 5), (60, .iconst (-1), 61, -1, 0), (61, .istore 7, 63, 0, 7), (63, .iconst (0), 64, 0, 0), (64, .istore 8, 66, 0, 8), (66, .iload 8, 68, 0, 8), (68, .iload_n 3, 69, 0, 3), (69, .if_icmp .gt (104), 72, 0, 173), (72, .iconst (-1), 73, -1, 0), (73, .istore 9, 75, 0, 9), (75, .iconst (0), 76, 0, 0), (76, .istore 10, 78, 0, 10), (78, .iload 10, 80, 0, 10), (80, .aload_n 0, 81, 0, 0), (81, .getfield 86, 84, 0, 0), (84, .iload 8, 86, 0, 8), (86, .iaload, 87, 0, 0), (87, .if_icmp .ge (76), 90, 0, 163), (90, .iload 9, 92, 0, 9), (92, .iconst (-1), 93, -1, 0), (93, .if_icmp .ne (70), 96, 0, 163), (96, .iload 8, 98, 0, 8), (98, .ifCond .eq (18), 101, 0, 116), (101, .aload_n 0, 102, 0, 0), (102, .iload 8, 104, 0, 8), (104, .iconst (1), 105, 1, 0), (105, .isub, 106, 0, 0), (106, .iload 7, 108, 0, 7), (108, .iload 10, 110, 0, 10), (110, .invokevirtual 208, 113, 0, 0), (113, .ifCond .eq (19), 116, 0, 132), (116, .aload_n 0, 117, 0, 0), (117, .getfield 89, 120, 0, 0), (120, .bipush (30), 122, 30, 0), (122, .iload 8, 124, 0, 8), (124, .imul, 125, 0, 0), (125, .iload 10, 127, 0, 10), (127, .iadd, 128, 0, 0), (128, .laload, 129, 0, 0), (129, .goto (4), 132, 0, 133), (132, .lconst 0, 133, 0, 0), (133, .lstore 11, 135, 0, 11), (135, .lload 5, 137, 0, 5), (137, .lload 11, 139, 0, 11), (139, .lcmp, 140, 0, 0), (140, .ifCond .ge (10), 143, 0, 150), (143, .iload 10, 145, 0, 10), (145, .istore 9, 147, 0, 9), (147, .goto (10), 150, 0, 157), (150, .lload 5, 152, 0, 5), (152, .lload 11, 154, 0, 11), (154, .lsub, 155, 0, 0), (155, .lstore 5, 157, 0, 5), (157, .iinc 10 (1), 160, 1, 10), (160, .goto (-82), 163, 0, 78), (163, .iload 9, 165, 0, 9), (165, .istore 7, 167, 0, 7), (167, .iinc 8 (1), 170, 1, 8), (170, .goto (-104), 173, 0, 66), (173, .aload_n 0, 174, 0, 0), (174, .iload_n 3, 175, 0, 3), (175, .iload 7, 177, 0, 7), (177, .iload 4, 179, 0, 4), (179, .invokevirtual 202, 182, 0, 0), (182, .ireturn, 183, 0, 0)], FL_mo)
def Y_mo_meant : am_Y := (⟨"EarSchoolModel", "meant", "()I"⟩, prog_12_method_36_code, 2, (some .int), [(0, .aload_n 0, 1, 0, 0), (1, .aload_n 0, 2, 0, 0), (2, .getfield 120, 5, 0, 0), (5, .putfield 220, 8, 0, 0), (8, .iconst (0), 9, 0, 0), (9, .istore_n 1, 10, 0, 1), (10, .iload_n 1, 11, 0, 1), (11, .aload_n 0, 12, 0, 0), (12, .getfield 120, 15, 0, 0), (15, .if_icmp .ge (33), 18, 0, 48), (18, .aload_n 0, 19, 0, 0), (19, .getfield 16, 22, 0, 0), (22, .iload_n 1, 23, 0, 1), (23, .aload_n 0, 24, 0, 0), (24, .getfield 7, 27, 0, 0), (27, .iload_n 1, 28, 0, 1), (28, .iaload, 29, 0, 0), (29, .iastore, 30, 0, 0), (30, .aload_n 0, 31, 0, 0), (31, .getfield 19, 34, 0, 0), (34, .iload_n 1, 35, 0, 1), (35, .aload_n 0, 36, 0, 0), (36, .getfield 13, 39, 0, 0), (39, .iload_n 1, 40, 0, 1), (40, .iaload, 41, 0, 0), (41, .iastore, 42, 0, 0), (42, .iinc 1 (1), 45, 1, 1), (45, .goto (-35), 48, 0, 10), (48, .aload_n 0, 49, 0, 0), (49, .iconst (0), 50, 0, 0), (50, .putfield 123, 53, 0, 0), (53, .aload_n 0, 54, 0, 0), (54, .getfield 120, 57, 0, 0), (57, .ireturn, 58, 0, 0)], FL_mo)
def Y_mo_costAt : am_Y := (⟨"EarSchoolModel", "costAt", "(IIII)I"⟩, prog_12_method_37_code, 4, (some .int), [(0, .bipush (25), 2, 25, 0), (2, .iload_n 0, 3, 0, 0), (3, .imul, 4, 0, 0), (4, .iload_n 1, 5, 0, 1), (5, .iadd, 6, 0, 0), (6, .bipush (25), 8, 25, 0), (8, .imul, 9, 0, 0), (9, .iload_n 2, 10, 0, 2), (10, .iadd, 11, 0, 0), (11, .bipush (12), 13, 12, 0), (13, .iadd, 14, 0, 0), (14, .iconst (2), 15, 2, 0), (15, .imul, 16, 0, 0), (16, .iload_n 3, 17, 0, 3), (17, .iadd, 18, 0, 0), (18, .ireturn, 19, 0, 0)], FL_mo)
def Y_mo_hitCost : am_Y := (⟨"EarSchoolModel", "hitCost", "(III)I"⟩, prog_12_method_38_code, 4, (some .int), [(0, .aload_n 0, 1, 0, 0), (1, .getfield 7, 4, 0, 0), (4, .iload_n 2, 5, 0, 2), (5, .iaload, 6, 0, 0), (6, .aload_n 0, 7, 0, 0), (7, .getfield 16, 10, 0, 0), (10, .iload_n 1, 11, 0, 1), (11, .iaload, 12, 0, 0), (12, .iload_n 3, 13, 0, 3), (13, .iadd, 14, 0, 0), (14, .if_icmp .eq (7), 17, 0, 21), (17, .iconst (2), 18, 2, 0), (18, .goto (4), 21, 0, 22), (21, .iconst (0), 22, 0, 0), (22, .aload_n 0, 23, 0, 0), (23, .getfield 13, 26, 0, 0), (26, .iload_n 2, 27, 0, 2), (27, .iaload, 28, 0, 0), (28, .aload_n 0, 29, 0, 0), (29, .getfield 19, 32, 0, 0), (32, .iload_n 1, 33, 0, 1), (33, .iaload, 34, 0, 0), (34, .if_icmp .eq (7), 37, 0, 41), (37, .iconst (1), 38, 1, 0), (38, .goto (4), 41, 0, 42), (41, .iconst (0), 42, 0, 0), (42, .iadd, 43, 0, 0), (43, .ireturn, 44, 0, 0)], FL_mo)
def Y_mo_moreCost : am_Y := (⟨"EarSchoolModel", "moreCost", "(I)I"⟩, prog_12_method_39_code, 2, (some .int), [(0, .iload_n 1, 1, 0, 1), (1, .ifCond .le (41), 4, 0, 42), (4, .aload_n 0, 5, 0, 0), (5, .getfield 7, 8, 0, 0), (8, .iload_n 1, 9, 0, 1), (9, .iaload, 10, 0, 0), (10, .aload_n 0, 11, 0, 0), (11, .getfield 7, 14, 0, 0), (14, .iload_n 1, 15, 0, 1), (15, .iconst (1), 16, 1, 0), (16, .isub, 17, 0, 0), (17, .iaload, 18, 0, 0), (18, .if_icmp .ne (24), 21, 0, 42), (21, .aload_n 0, 22, 0, 0), (22, .getfield 13, 25, 0, 0), (25, .iload_n 1, 26, 0, 1), (26, .iaload, 27, 0, 0), (27, .aload_n 0, 28, 0, 0), (28, .getfield 13, 31, 0, 0), (31, .iload_n 1, 32, 0, 1), (32, .iconst (1), 33, 1, 0), (33, .isub, 34, 0, 0), (34, .iaload, 35, 0, 0), (35, .if_icmp .ne (7), 38, 0, 42), (38, .iconst (1), 39, 1, 0), (39, .goto (4), 42, 0, 43), (42, .iconst (3), 43, 3, 0), (43, .ireturn, 44, 0, 0)], FL_mo)
def Y_mo_by : am_Y := (⟨"EarSchoolModel", "by", "(IIIII)I"⟩, prog_12_method_40_code, 7, (some .int), [(0, .iload_n 1, 1, 0, 1), (1, .ifCond .ne (52), 4, 0, 53), (4, .iload_n 2, 5, 0, 2), (5, .aload_n 0, 6, 0, 0), (6, .getfield 220, 9, 0, 0), (9, .if_icmp .ge (40), 12, 0, 49), (12, .iload_n 3, 13, 0, 3), (13, .aload_n 0, 14, 0, 0), (14, .getfield 120, 17, 0, 0), (17, .if_icmp .ge (32), 20, 0, 49), (20, .aload_n 0, 21, 0, 0), (21, .iload_n 2, 22, 0, 2), (22, .iload_n 3, 23, 0, 3), (23, .iload 4, 25, 0, 4), (25, .invokevirtual 223, 28, 0, 0), (28, .aload_n 0, 29, 0, 0), (29, .getfield 92, 32, 0, 0), (32, .iload_n 2, 33, 0, 2), (33, .iconst (1), 34, 1, 0), (34, .iadd, 35, 0, 0), (35, .iload_n 3, 36, 0, 3), (36, .iconst (1), 37, 1, 0), (37, .iadd, 38, 0, 0), (38, .iload 4, 40, 0, 4), (40, .iconst (0), 41, 0, 0), (41, .invokestatic 226, 44, 0, 0), (44, .iaload, 45, 0, 0), (45, .iadd, 46, 0, 0), (46, .goto (6), 49, 0, 52), (49, .sipush (10000), 52, 10000, 0), (52, .ireturn, 53, 0, 0), (53, .iload_n 1, 54, 0, 1), (54, .iconst (1), 55, 1, 0), (55, .if_icmp .ne (35), 58, 0, 90), (58, .iload_n 2, 59, 0, 2), (59, .aload_n 0, 60, 0, 0), (60, .getfield 220, 63, 0, 0), (63, .if_icmp .ge (23), 66, 0, 86), (66, .iconst (3), 67, 3, 0), (67, .aload_n 0, 68, 0, 0), (68, .getfield 92, 71, 0, 0), (71, .iload_n 2, 72, 0, 2), (72, .iconst (1), 73, 1, 0), (73, .iadd, 74, 0, 0), (74, .iload_n 3, 75, 0, 3), (75, .iload 4, 77, 0, 4), (77, .iconst (0), 78, 0, 0), (78, .invokestatic 226, 81, 0, 0), (81, .iaload, 82, 0, 0), (82, .iadd, 83, 0, 0), (83, .goto (6), 86, 0, 89), (86, .sipush (10000), 89, 10000, 0), (89, .ireturn, 90, 0, 0), (90, .iload_n 1, 91, 0, 1), (91, .iconst (2), 92, 2, 0), (92, .if_icmp .ne (39), 95, 0, 131), (95, .iload_n 3, 96, 0, 3), (96, .aload_n 0, 97, 0, 0), (97, .getfield 120, 100, 0, 0), (100, .if_icmp .ge (27), 103, 0, 127), (103, .aload_n 0, 104, 0, 0), (104, .iload_n 3, 105, 0, 3), (105, .invokevirtual 230, 108, 0, 0), (108, .aload_n 0, 109, 0, 0), (109, .getfield 92, 112, 0, 0), (112, .iload_n 2, 113, 0, 2), (113, .iload_n 3, 114, 0, 3), (114, .iconst (1), 115, 1, 0), (115, .iadd, 116, 0, 0), (116, .iload 4, 118, 0, 4), (118, .iconst (0), 119, 0, 0), (119, .invokestatic 226, 122, 0, 0), (122, .iaload, 123, 0, 0), (123, .iadd, 124, 0, 0), (124, .goto (6), 127, 0, 130), (127, .sipush (10000), 130, 10000, 0), (130, .ireturn, 131, 0, 0), (131, .iload 5, 133, 0, 5), (133, .ifCond .ne (24), 136, 0, 157), (136, .iload_n 2, 137, 0, 2), (137, .aload_n 0, 138, 0, 0), (138, .getfield 220, 141, 0, 0), (141, .if_icmp .ge (16), 144, 0, 157), (144, .iload_n 1, 145, 0, 1), (145, .bipush (15), 147, 15, 0), (147, .isub, 148, 0, 0), (148, .iload 4, 150, 0, 4), (150, .if_icmp .eq (7), 153, 0, 157), (153, .iconst (1), 154, 1, 0), (154, .goto (4), 157, 0, 158), (157, .iconst (0), 158, 0, 0), (158, .istore 6, 160, 0, 6), (160, .iload 6, 162, 0, 6), (162, .ifCond .eq (23), 165, 0, 185), (165, .iconst (3), 166, 3, 0), (166, .aload_n 0, 167, 0, 0), (167, .getfield 92, 170, 0, 0), (170, .iload_n 2, 171, 0, 2), (171, .iload_n 3, 172, 0, 3), (172, .iload_n 1, 173, 0, 1), (173, .bipush (15), 175, 15, 0), (175, .isub, 176, 0, 0), (176, .iconst (1), 177, 1, 0), (177, .invokestatic 226, 180, 0, 0), (180, .iaload, 181, 0, 0), (181, .iadd, 182, 0, 0), (182, .goto (6), 185, 0, 188), (185, .sipush (10000), 188, 10000, 0), (188, .ireturn, 189, 0, 0)], FL_mo)
def Y_mo_leastAt : am_Y := (⟨"EarSchoolModel", "leastAt", "(IIII)I"⟩, prog_12_method_41_code, 8, (some .int), [(0, .iload_n 1, 1, 0, 1), (1, .aload_n 0, 2, 0, 0), (2, .getfield 220, 5, 0, 0), (5, .if_icmp .ne (13), 8, 0, 18), (8, .iload_n 2, 9, 0, 2), (9, .aload_n 0, 10, 0, 0), (10, .getfield 120, 13, 0, 0), (13, .if_icmp .ne (5), 16, 0, 18), (16, .iconst (0), 17, 0, 0), (17, .ireturn, 18, 0, 0), (18, .sipush (10000), 21, 10000, 0), (21, .istore 5, 23, 0, 5), (23, .iconst (0), 24, 0, 0), (24, .istore 6, 26, 0, 6), (26, .iload 6, 28, 0, 6), (28, .bipush (28), 30, 28, 0), (30, .if_icmp .ge (38), 33, 0, 68), (33, .aload_n 0, 34, 0, 0), (34, .iload 6, 36, 0, 6), (36, .iload_n 1, 37, 0, 1), (37, .iload_n 2, 38, 0, 2), (38, .iload_n 3, 39, 0, 3), (39, .iload 4, 41, 0, 4), (41, .invokevirtual 234, 44, 0, 0), (44, .istore 7, 46, 0, 7), (46, .iload 7, 48, 0, 7), (48, .iload 5, 50, 0, 5), (50, .if_icmp .ge (8), 53, 0, 58), (53, .iload 7, 55, 0, 7), (55, .goto (5), 58, 0, 60), (58, .iload 5, 60, 0, 5), (60, .istore 5, 62, 0, 5), (62, .iinc 6 (1), 65, 1, 6), (65, .goto (-39), 68, 0, 26), (68, .iload 5, 70, 0, 5), (70, .ireturn, 71, 0, 0)], FL_mo)
def Y_mo_layAct : am_Y := (⟨"EarSchoolModel", "layAct", "(IIIII)V"⟩, prog_12_method_42_code, 6, none, [(0, .aload_n 0, 1, 0, 0), (1, .getfield 95, 4, 0, 0), (4, .aload_n 0, 5, 0, 0), (5, .getfield 238, 8, 0, 0), (8, .iload_n 1, 9, 0, 1), (9, .iastore, 10, 0, 0), (10, .aload_n 0, 11, 0, 0), (11, .getfield 98, 14, 0, 0), (14, .aload_n 0, 15, 0, 0), (15, .getfield 238, 18, 0, 0), (18, .iload_n 1, 19, 0, 1), (19, .iconst (2), 20, 2, 0), (20, .if_icmp .ge (7), 23, 0, 27), (23, .iload_n 2, 24, 0, 2), (24, .goto (4), 27, 0, 28), (27, .iconst (-1), 28, -1, 0), (28, .iastore, 29, 0, 0), (29, .aload_n 0, 30, 0, 0), (30, .getfield 101, 33, 0, 0), (33, .aload_n 0, 34, 0, 0), (34, .getfield 238, 37, 0, 0), (37, .iload_n 1, 38, 0, 1), (38, .ifCond .eq (8), 41, 0, 46), (41, .iload_n 1, 42, 0, 1), (42, .iconst (2), 43, 2, 0), (43, .if_icmp .ne (7), 46, 0, 50), (46, .iload_n 3, 47, 0, 3), (47, .goto (4), 50, 0, 51), (50, .iconst (-1), 51, -1, 0), (51, .iastore, 52, 0, 0), (52, .aload_n 0, 53, 0, 0), (53, .getfield 104, 56, 0, 0), (56, .aload_n 0, 57, 0, 0), (57, .getfield 238, 60, 0, 0), (60, .iload 5, 62, 0, 5), (62, .iastore, 63, 0, 0), (63, .aload_n 0, 64, 0, 0), (64, .getfield 107, 67, 0, 0), (67, .aload_n 0, 68, 0, 0), (68, .getfield 238, 71, 0, 0), (71, .iload 4, 73, 0, 4), (73, .iastore, 74, 0, 0), (74, .aload_n 0, 75, 0, 0), (75, .dup, 76, 0, 0), (76, .getfield 238, 79, 0, 0), (79, .iconst (1), 80, 1, 0), (80, .iadd, 81, 0, 0), (81, .putfield 238, 84, 0, 0), (84, .return_, 85, 0, 0)], FL_mo)
def Y_mo_judge : am_Y := (⟨"EarSchoolModel", "judge", "()I"⟩, prog_12_method_43_code, 6, (some .int), [(0, .aload_n 0, 1, 0, 0), (1, .getfield 220, 4, 0, 0), (4, .istore_n 1, 5, 0, 1), (5, .iload_n 1, 6, 0, 1), (6, .ifCond .lt (75), 9, 0, 81), (9, .aload_n 0, 10, 0, 0), (10, .getfield 120, 13, 0, 0), (13, .istore_n 2, 14, 0, 2), (14, .iload_n 2, 15, 0, 2), (15, .ifCond .lt (60), 18, 0, 75), (18, .iconst (1), 19, 1, 0), (19, .istore_n 3, 20, 0, 3), (20, .iload_n 3, 21, 0, 3), (21, .ifCond .lt (48), 24, 0, 69), (24, .bipush (-12), 26, -12, 0), (26, .istore 4, 28, 0, 4), (28, .iload 4, 30, 0, 4), (30, .bipush (12), 32, 12, 0), (32, .if_icmp .gt (31), 35, 0, 63), (35, .aload_n 0, 36, 0, 0), (36, .getfield 92, 39, 0, 0), (39, .iload_n 1, 40, 0, 1), (40, .iload_n 2, 41, 0, 2), (41, .iload 4, 43, 0, 4), (43, .iload_n 3, 44, 0, 3), (44, .invokestatic 226, 47, 0, 0), (47, .aload_n 0, 48, 0, 0), (48, .iload_n 1, 49, 0, 1), (49, .iload_n 2, 50, 0, 2), (50, .iload 4, 52, 0, 4), (52, .iload_n 3, 53, 0, 3), (53, .invokevirtual 241, 56, 0, 0), (56, .iastore, 57, 0, 0), (57, .iinc 4 (1), 60, 1, 4), (60, .goto (-32), 63, 0, 28), (63, .iinc 3 (-1), 66, -1, 3), (66, .goto (-46), 69, 0, 20), (69, .iinc 2 (-1), 72, -1, 2), (72, .goto (-58), 75, 0, 14), (75, .iinc 1 (-1), 78, -1, 1), (78, .goto (-73), 81, 0, 5), (81, .aload_n 0, 82, 0, 0), (82, .iconst (0), 83, 0, 0), (83, .putfield 238, 86, 0, 0), (86, .iconst (0), 87, 0, 0), (87, .istore_n 1, 88, 0, 1), (88, .iconst (0), 89, 0, 0), (89, .istore_n 2, 90, 0, 2), (90, .iconst (0), 91, 0, 0), (91, .istore_n 3, 92, 0, 3), (92, .iconst (0), 93, 0, 0), (93, .istore 4, 95, 0, 4), (95, .iload_n 1, 96, 0, 1), (96, .aload_n 0, 97, 0, 0), (97, .getfield 220, 100, 0, 0), (100, .if_icmp .lt (11), 103, 0, 111), (103, .iload_n 2, 104, 0, 2), (104, .aload_n 0, 105, 0, 0), (105, .getfield 120, 108, 0, 0), (108, .if_icmp .ge (143), 111, 0, 251), (111, .iconst (0), 112, 0, 0), (112, .istore 5, 114, 0, 5), (114, .aload_n 0, 115, 0, 0), (115, .iload 5, 117, 0, 5), (117, .iload_n 1, 118, 0, 1), (118, .iload_n 2, 119, 0, 2), (119, .iload_n 3, 120, 0, 3), (120, .iload 4, 122, 0, 4), (122, .invokevirtual 234, 125, 0, 0), (125, .aload_n 0, 126, 0, 0), (126, .getfield 92, 129, 0, 0), (129, .iload_n 1, 130, 0, 1), (130, .iload_n 2, 131, 0, 2), (131, .iload_n 3, 132, 0, 3), (132, .iload 4, 134, 0, 4), (134, .invokestatic 226, 137, 0, 0), (137, .iaload, 138, 0, 0), (138, .if_icmp .eq (9), 141, 0, 147), (141, .iinc 5 (1), 144, 1, 5), (144, .goto (-30), 147, 0, 114), (147, .aload_n 0, 148, 0, 0), (148, .iload 5, 150, 0, 5), (150, .iload_n 1, 151, 0, 1), (151, .iload_n 2, 152, 0, 2), (152, .iload_n 3, 153, 0, 3), (153, .iload 5, 155, 0, 5), (155, .ifCond .ne (13), 158, 0, 168), (158, .aload_n 0, 159, 0, 0), (159, .iload_n 1, 160, 0, 1), (160, .iload_n 2, 161, 0, 2), (161, .iload_n 3, 162, 0, 3), (162, .invokevirtual 223, 165, 0, 0), (165, .goto (18), 168, 0, 183), (168, .iload 5, 170, 0, 5), (170, .iconst (2), 171, 2, 0), (171, .if_icmp .ne (11), 174, 0, 182), (174, .aload_n 0, 175, 0, 0), (175, .iload_n 2, 176, 0, 2), (176, .invokevirtual 230, 179, 0, 0), (179, .goto (4), 182, 0, 183), (182, .iconst (3), 183, 3, 0), (183, .invokevirtual 244, 186, 0, 0), (186, .iload 5, 188, 0, 5), (188, .iconst (2), 189, 2, 0), (189, .if_icmp .le (7), 192, 0, 196), (192, .iconst (1), 193, 1, 0), (193, .goto (4), 196, 0, 197), (196, .iconst (0), 197, 0, 0), (197, .istore 4, 199, 0, 4), (199, .iload 5, 201, 0, 5), (201, .iconst (2), 202, 2, 0), (202, .if_icmp .le (11), 205, 0, 213), (205, .iload 5, 207, 0, 5), (207, .bipush (15), 209, 15, 0), (209, .isub, 210, 0, 0), (210, .goto (4), 213, 0, 214), (213, .iload_n 3, 214, 0, 3), (214, .istore_n 3, 215, 0, 3), (215, .iload_n 1, 216, 0, 1), (216, .iload 5, 218, 0, 5), (218, .iconst (2), 219, 2, 0), (219, .if_icmp .ge (7), 222, 0, 226), (222, .iconst (1), 223, 1, 0), (223, .goto (4), 226, 0, 227), (226, .iconst (0), 227, 0, 0), (227, .iadd, 228, 0, 0), (228, .istore_n 1, 229, 0, 1), (229, .iload_n 2, 230, 0, 2), (230, .iload 5, 232, 0, 5), (232, .ifCond .eq (9), 235, 0, 241), (235, .iload 5, 237, 0, 5), (237, .iconst (2), 238, 2, 0), (238, .if_icmp .ne (7), 241, 0, 245), (241, .iconst (1), 242, 1, 0), (242, .goto (4), 245, 0, 246), (245, .iconst (0), 246, 0, 0), (246, .iadd, 247, 0, 0), (247, .istore_n 2, 248, 0, 2), (248, .goto (-153), 251, 0, 95), (251, .aload_n 0, 252, 0, 0), (252, .iconst (1), 253, 1, 0), (253, .putfield 123, 256, 0, 0), (256, .aload_n 0, 257, 0, 0), (257, .getfield 92, 260, 0, 0), (260, .iconst (0), 261, 0, 0), (261, .iconst (0), 262, 0, 0), (262, .iconst (0), 263, 0, 0), (263, .iconst (0), 264, 0, 0), (264, .invokestatic 226, 267, 0, 0), (267, .iaload, 268, 0, 0), (268, .ireturn, 269, 0, 0)], FL_mo)
def Y_mo_act : am_Y := (⟨"EarSchoolModel", "act", "(II)I"⟩, prog_12_method_44_code, 3, (some .int), [(0, .iload_n 2, 1, 0, 2), (1, .i2l, 2, 0, 0), (2, .lconst 0, 3, 0, 0), (3, .ldc2_w 129, 6, 3, 935), (6, .invokestatic 114, 9, 0, 0), (9, .ifCond .ne (6), 12, 0, 15), (12, .bipush (-2), 14, -2, 0), (14, .ireturn, 15, 0, 0), (15, .aload_n 0, 16, 0, 0), (16, .getfield 123, 19, 0, 0), (19, .ifCond .ne (6), 22, 0, 25), (22, .bipush (-3), 24, -3, 0), (24, .ireturn, 25, 0, 0), (25, .iload_n 1, 26, 0, 1), (26, .i2l, 27, 0, 0), (27, .lconst 0, 28, 0, 0), (28, .aload_n 0, 29, 0, 0), (29, .getfield 238, 32, 0, 0), (32, .iconst (1), 33, 1, 0), (33, .isub, 34, 0, 0), (34, .i2l, 35, 0, 0), (35, .invokestatic 114, 38, 0, 0), (38, .ifCond .ne (6), 41, 0, 44), (41, .bipush (-2), 43, -2, 0), (43, .ireturn, 44, 0, 0), (44, .iload_n 2, 45, 0, 2), (45, .ifCond .ne (12), 48, 0, 57), (48, .aload_n 0, 49, 0, 0), (49, .getfield 95, 52, 0, 0), (52, .iload_n 1, 53, 0, 1), (53, .iaload, 54, 0, 0), (54, .goto (37), 57, 0, 91), (57, .iload_n 2, 58, 0, 2), (58, .iconst (1), 59, 1, 0), (59, .if_icmp .ne (12), 62, 0, 71), (62, .aload_n 0, 63, 0, 0), (63, .getfield 98, 66, 0, 0), (66, .iload_n 1, 67, 0, 1), (67, .iaload, 68, 0, 0), (68, .goto (23), 71, 0, 91), (71, .iload_n 2, 72, 0, 2), (72, .iconst (2), 73, 2, 0), (73, .if_icmp .ne (12), 76, 0, 85), (76, .aload_n 0, 77, 0, 0), (77, .getfield 101, 80, 0, 0), (80, .iload_n 1, 81, 0, 1), (81, .iaload, 82, 0, 0), (82, .goto (9), 85, 0, 91), (85, .aload_n 0, 86, 0, 0), (86, .getfield 104, 89, 0, 0), (89, .iload_n 1, 90, 0, 1), (90, .iaload, 91, 0, 0), (91, .ireturn, 92, 0, 0)], FL_mo)
def Y_mo_learn : am_Y := (⟨"EarSchoolModel", "learn", "(I)I"⟩, prog_12_method_45_code, 9, (some .int), [(0, .iload_n 1, 1, 0, 1), (1, .i2l, 2, 0, 0), (2, .lconst 0, 3, 0, 0), (3, .ldc2_w 248, 6, 5, 1098), (6, .invokestatic 114, 9, 0, 0), (9, .ifCond .ne (6), 12, 0, 15), (12, .bipush (-2), 14, -2, 0), (14, .ireturn, 15, 0, 0), (15, .aload_n 0, 16, 0, 0), (16, .getfield 123, 19, 0, 0), (19, .ifCond .ne (6), 22, 0, 25), (22, .bipush (-3), 24, -3, 0), (24, .ireturn, 25, 0, 0), (25, .iconst (0), 26, 0, 0), (26, .istore_n 2, 27, 0, 2), (27, .iconst (0), 28, 0, 0), (28, .istore_n 3, 29, 0, 3), (29, .iload_n 3, 30, 0, 3), (30, .aload_n 0, 31, 0, 0), (31, .getfield 238, 34, 0, 0), (34, .if_icmp .ge (166), 37, 0, 200), (37, .aload_n 0, 38, 0, 0), (38, .getfield 98, 41, 0, 0), (41, .iload_n 3, 42, 0, 3), (42, .iaload, 43, 0, 0), (43, .istore 4, 45, 0, 4), (45, .iload 4, 47, 0, 4), (47, .ifCond .le (147), 50, 0, 194), (50, .aload_n 0, 51, 0, 0), (51, .getfield 16, 54, 0, 0), (54, .iload 4, 56, 0, 4), (56, .iaload, 57, 0, 0), (57, .aload_n 0, 58, 0, 0), (58, .getfield 16, 61, 0, 0), (61, .iload 4, 63, 0, 4), (63, .iconst (1), 64, 1, 0), (64, .isub, 65, 0, 0), (65, .iaload, 66, 0, 0), (66, .isub, 67, 0, 0), (67, .istore 5, 69, 0, 5), (69, .iload 5, 71, 0, 5), (71, .ifCond .ge (9), 74, 0, 80), (74, .iload 5, 76, 0, 5), (76, .ineg, 77, 0, 0), (77, .goto (5), 80, 0, 82), (80, .iload 5, 82, 0, 5), (82, .istore 6, 84, 0, 6), (84, .bipush (13), 86, 13, 0), (86, .iload_n 1, 87, 0, 1), (87, .imul, 88, 0, 0), (88, .iload 6, 90, 0, 6), (90, .bipush (12), 92, 12, 0), (92, .if_icmp .ge (8), 95, 0, 100), (95, .iload 6, 97, 0, 6), (97, .goto (5), 100, 0, 102), (100, .bipush (12), 102, 12, 0), (102, .iadd, 103, 0, 0), (103, .istore 7, 105, 0, 7), (105, .aload_n 0, 106, 0, 0), (106, .getfield 95, 109, 0, 0), (109, .iload_n 3, 110, 0, 3), (110, .iaload, 111, 0, 0), (111, .iconst (1), 112, 1, 0), (112, .if_icmp .eq (31), 115, 0, 143), (115, .aload_n 0, 116, 0, 0), (116, .getfield 7, 119, 0, 0), (119, .aload_n 0, 120, 0, 0), (120, .getfield 101, 123, 0, 0), (123, .iload_n 3, 124, 0, 3), (124, .iaload, 125, 0, 0), (125, .iaload, 126, 0, 0), (126, .aload_n 0, 127, 0, 0), (127, .getfield 16, 130, 0, 0), (130, .iload 4, 132, 0, 4), (132, .iaload, 133, 0, 0), (133, .aload_n 0, 134, 0, 0), (134, .getfield 107, 137, 0, 0), (137, .iload_n 3, 138, 0, 3), (138, .iaload, 139, 0, 0), (139, .iadd, 140, 0, 0), (140, .if_icmp .eq (7), 143, 0, 147), (143, .iconst (1), 144, 1, 0), (144, .goto (4), 147, 0, 148), (147, .iconst (0), 148, 0, 0), (148, .istore 8, 150, 0, 8), (150, .aload_n 0, 151, 0, 0), (151, .getfield 70, 154, 0, 0), (154, .iload 7, 156, 0, 7), (156, .dup2, 157, 0, 0), (157, .iaload, 158, 0, 0), (158, .iconst (1), 159, 1, 0), (159, .iadd, 160, 0, 0), (160, .iastore, 161, 0, 0), (161, .aload_n 0, 162, 0, 0), (162, .getfield 73, 165, 0, 0), (165, .iload 7, 167, 0, 7), (167, .dup2, 168, 0, 0), (168, .iaload, 169, 0, 0), (169, .iload 8, 171, 0, 8), (171, .ifCond .eq (7), 174, 0, 178), (174, .iconst (1), 175, 1, 0), (175, .goto (4), 178, 0, 179), (178, .iconst (0), 179, 0, 0), (179, .iadd, 180, 0, 0), (180, .iastore, 181, 0, 0), (181, .iload_n 2, 182, 0, 2), (182, .iload 8, 184, 0, 8), (184, .ifCond .eq (7), 187, 0, 191), (187, .iconst (1), 188, 1, 0), (188, .goto (4), 191, 0, 192), (191, .iconst (0), 192, 0, 0), (192, .iadd, 193, 0, 0), (193, .istore_n 2, 194, 0, 2), (194, .iinc 3 (1), 197, 1, 3), (197, .goto (-168), 200, 0, 29), (200, .iload_n 2, 201, 0, 2), (201, .ireturn, 202, 0, 0)], FL_mo)
def Y_mo_weight : am_Y := (⟨"EarSchoolModel", "weight", "(II)I"⟩, prog_12_method_46_code, 4, (some .int), [(0, .bipush (13), 2, 13, 0), (2, .iload_n 1, 3, 0, 1), (3, .imul, 4, 0, 0), (4, .iload_n 2, 5, 0, 2), (5, .iadd, 6, 0, 0), (6, .istore_n 3, 7, 0, 3), (7, .aload_n 0, 8, 0, 0), (8, .getfield 70, 11, 0, 0), (11, .iload_n 3, 12, 0, 3), (12, .iaload, 13, 0, 0), (13, .ifCond .ne (8), 16, 0, 21), (16, .bipush (6), 18, 6, 0), (18, .goto (21), 21, 0, 39), (21, .iconst (1), 22, 1, 0), (22, .bipush (10), 24, 10, 0), (24, .aload_n 0, 25, 0, 0), (25, .getfield 73, 28, 0, 0), (28, .iload_n 3, 29, 0, 3), (29, .iaload, 30, 0, 0), (30, .imul, 31, 0, 0), (31, .aload_n 0, 32, 0, 0), (32, .getfield 70, 35, 0, 0), (35, .iload_n 3, 36, 0, 3), (36, .iaload, 37, 0, 0), (37, .idiv, 38, 0, 0), (38, .iadd, 39, 0, 0), (39, .ireturn, 40, 0, 0)], FL_mo)
def Y_mo_table : am_Y := (⟨"EarSchoolModel", "table", "(III)I"⟩, prog_12_method_47_code, 4, (some .int), [(0, .iload_n 1, 1, 0, 1), (1, .i2l, 2, 0, 0), (2, .lconst 0, 3, 0, 0), (3, .ldc2_w 248, 6, 5, 1098), (6, .invokestatic 114, 9, 0, 0), (9, .ifCond .eq (27), 12, 0, 36), (12, .iload_n 2, 13, 0, 2), (13, .i2l, 14, 0, 0), (14, .lconst 0, 15, 0, 0), (15, .ldc2_w 145, 18, 12, 971), (18, .invokestatic 114, 21, 0, 0), (21, .ifCond .eq (15), 24, 0, 36), (24, .iload_n 3, 25, 0, 3), (25, .i2l, 26, 0, 0), (26, .lconst 0, 27, 0, 0), (27, .ldc2_w 215, 30, 2, 1057), (30, .invokestatic 114, 33, 0, 0), (33, .ifCond .ne (6), 36, 0, 39), (36, .bipush (-2), 38, -2, 0), (38, .ireturn, 39, 0, 0), (39, .iload_n 3, 40, 0, 3), (40, .ifCond .ne (17), 43, 0, 57), (43, .aload_n 0, 44, 0, 0), (44, .getfield 70, 47, 0, 0), (47, .bipush (13), 49, 13, 0), (49, .iload_n 1, 50, 0, 1), (50, .imul, 51, 0, 0), (51, .iload_n 2, 52, 0, 2), (52, .iadd, 53, 0, 0), (53, .iaload, 54, 0, 0), (54, .goto (28), 57, 0, 82), (57, .iload_n 3, 58, 0, 3), (58, .iconst (1), 59, 1, 0), (59, .if_icmp .ne (17), 62, 0, 76), (62, .aload_n 0, 63, 0, 0), (63, .getfield 73, 66, 0, 0), (66, .bipush (13), 68, 13, 0), (68, .iload_n 1, 69, 0, 1), (69, .imul, 70, 0, 0), (70, .iload_n 2, 71, 0, 2), (71, .iadd, 72, 0, 0), (72, .iaload, 73, 0, 0), (73, .goto (9), 76, 0, 82), (76, .aload_n 0, 77, 0, 0), (77, .iload_n 1, 78, 0, 1), (78, .iload_n 2, 79, 0, 2), (79, .invokevirtual 250, 82, 0, 0), (82, .ireturn, 83, 0, 0)], FL_mo)
def Y_mo_bestOn : am_Y := (⟨"EarSchoolModel", "bestOn", "(IIII)J"⟩, prog_12_method_48_code, 10, (some .long), [(0, .ldc2_w 181, 3, -1, 993), (3, .lstore 5, 5, 0, 5), (5, .aload_n 0, 6, 0, 0), (6, .getfield 22, 9, 0, 0), (9, .istore 7, 11, 0, 7), (11, .iload 7, 13, 0, 7), (13, .aload_n 0, 14, 0, 0), (14, .getfield 26, 17, 0, 0), (17, .if_icmp .gt (39), 20, 0, 56), (20, .aload_n 0, 21, 0, 0), (21, .iload_n 1, 22, 0, 1), (22, .iload_n 2, 23, 0, 2), (23, .iload_n 3, 24, 0, 3), (24, .iload 4, 26, 0, 4), (26, .iload 7, 28, 0, 7), (28, .invokevirtual 253, 31, 0, 0), (31, .lstore 8, 33, 0, 8), (33, .lload 8, 35, 0, 8), (35, .lload 5, 37, 0, 5), (37, .lcmp, 38, 0, 0), (38, .ifCond .le (8), 41, 0, 46), (41, .lload 8, 43, 0, 8), (43, .goto (5), 46, 0, 48), (46, .lload 5, 48, 0, 5), (48, .lstore 5, 50, 0, 5), (50, .iinc 7 (1), 53, 1, 7), (53, .goto (-42), 56, 0, 11), (56, .lload 5, 58, 0, 5), (58, .lreturn, 59, 0, 0)], FL_mo)
def Y_mo_goingOn : am_Y := (⟨"EarSchoolModel", "goingOn", "(IIIII)J"⟩, prog_12_method_49_code, 9, (some .long), [(0, .aload_n 0, 1, 0, 0), (1, .iload 4, 3, 0, 4), (3, .iload 5, 5, 0, 5), (5, .iload_n 3, 6, 0, 3), (6, .isub, 7, 0, 0), (7, .invokevirtual 158, 10, 0, 0), (10, .istore 6, 12, 0, 6), (12, .iload 6, 14, 0, 6), (14, .iconst (-1), 15, -1, 0), (15, .if_icmp .ne (9), 18, 0, 24), (18, .ldc2_w 181, 21, -1, 993), (21, .goto (23), 24, 0, 44), (24, .aload_n 0, 25, 0, 0), (25, .getfield 76, 28, 0, 0), (28, .iload_n 2, 29, 0, 2), (29, .iconst (1), 30, 1, 0), (30, .iadd, 31, 0, 0), (31, .iload 5, 33, 0, 5), (33, .aload_n 0, 34, 0, 0), (34, .getfield 22, 37, 0, 0), (37, .isub, 38, 0, 0), (38, .iload 6, 40, 0, 6), (40, .invokestatic 147, 43, 0, 0), (43, .laload, 44, 0, 0), (44, .lstore 7, 46, 0, 7), (46, .lload 7, 48, 0, 7), (48, .lconst 0, 49, 0, 0), (49, .lcmp, 50, 0, 0), (50, .ifCond .ge (9), 53, 0, 59), (53, .ldc2_w 181, 56, -1, 993), (56, .goto (29), 59, 0, 85), (59, .lload 7, 61, 0, 7), (61, .aload_n 0, 62, 0, 0), (62, .iload_n 1, 63, 0, 1), (63, .iload 5, 65, 0, 5), (65, .iload_n 3, 66, 0, 3), (66, .if_icmp .ge (10), 69, 0, 76), (69, .iload_n 3, 70, 0, 3), (70, .iload 5, 72, 0, 5), (72, .isub, 73, 0, 0), (73, .goto (7), 76, 0, 80), (76, .iload 5, 78, 0, 5), (78, .iload_n 3, 79, 0, 3), (79, .isub, 80, 0, 0), (80, .invokevirtual 250, 83, 0, 0), (83, .i2l, 84, 0, 0), (84, .ladd, 85, 0, 0), (85, .lreturn, 86, 0, 0)], FL_mo)
def Y_mo_drill : am_Y := (⟨"EarSchoolModel", "drill", "(I)I"⟩, prog_12_method_50_code, 8, (some .int), [(0, .iload_n 1, 1, 0, 1), (1, .i2l, 2, 0, 0), (2, .lconst 0, 3, 0, 0), (3, .ldc2_w 248, 6, 5, 1098), (6, .invokestatic 114, 9, 0, 0), (9, .ifCond .ne (6), 12, 0, 15), (12, .bipush (-2), 14, -2, 0), (14, .ireturn, 15, 0, 0), (15, .aload_n 0, 16, 0, 0), (16, .getfield 29, 19, 0, 0), (19, .iconst (1), 20, 1, 0), (20, .isub, 21, 0, 0), (21, .istore_n 2, 22, 0, 2), (22, .iload_n 2, 23, 0, 2), (23, .ifCond .lt (99), 26, 0, 122), (26, .aload_n 0, 27, 0, 0), (27, .getfield 22, 30, 0, 0), (30, .istore_n 3, 31, 0, 3), (31, .iload_n 3, 32, 0, 3), (32, .aload_n 0, 33, 0, 0), (33, .getfield 26, 36, 0, 0), (36, .if_icmp .gt (80), 39, 0, 116), (39, .iconst (0), 40, 0, 0), (40, .istore 4, 42, 0, 4), (42, .iload 4, 44, 0, 4), (44, .bipush (18), 46, 18, 0), (46, .if_icmp .ge (64), 49, 0, 110), (49, .aload_n 0, 50, 0, 0), (50, .getfield 76, 53, 0, 0), (53, .iload_n 2, 54, 0, 2), (54, .iload_n 3, 55, 0, 3), (55, .aload_n 0, 56, 0, 0), (56, .getfield 22, 59, 0, 0), (59, .isub, 60, 0, 0), (60, .iload 4, 62, 0, 4), (62, .invokestatic 147, 65, 0, 0), (65, .aload_n 0, 66, 0, 0), (66, .iload_n 2, 67, 0, 2), (67, .iload_n 3, 68, 0, 3), (68, .invokevirtual 151, 71, 0, 0), (71, .ifCond .ne (9), 74, 0, 80), (74, .ldc2_w 181, 77, -1, 993), (77, .goto (26), 80, 0, 103), (80, .iload_n 2, 81, 0, 2), (81, .aload_n 0, 82, 0, 0), (82, .getfield 29, 85, 0, 0), (85, .iconst (1), 86, 1, 0), (86, .isub, 87, 0, 0), (87, .if_icmp .ne (7), 90, 0, 94), (90, .lconst 0, 91, 0, 0), (91, .goto (12), 94, 0, 103), (94, .aload_n 0, 95, 0, 0), (95, .iload_n 1, 96, 0, 1), (96, .iload_n 2, 97, 0, 2), (97, .iload_n 3, 98, 0, 3), (98, .iload 4, 100, 0, 4), (100, .invokevirtual 257, 103, 0, 0), (103, .lastore, 104, 0, 0), (104, .iinc 4 (1), 107, 1, 4), (107, .goto (-65), 110, 0, 42), (110, .iinc 3 (1), 113, 1, 3), (113, .goto (-82), 116, 0, 31), (116, .iinc 2 (-1), 119, -1, 2), (119, .goto (-97), 122, 0, 22), (122, .iconst (-1), 123, -1, 0), (123, .istore_n 2, 124, 0, 2), (124, .ldc2_w 181, 127, -1, 993), (127, .lstore_n 3, 128, 0, 3), (128, .aload_n 0, 129, 0, 0), (129, .getfield 22, 132, 0, 0), (132, .istore 5, 134, 0, 5), (134, .iload 5, 136, 0, 5), (136, .aload_n 0, 137, 0, 0), (137, .getfield 26, 140, 0, 0), (140, .if_icmp .gt (52), 143, 0, 192), (143, .aload_n 0, 144, 0, 0), (144, .getfield 76, 147, 0, 0), (147, .iconst (0), 148, 0, 0), (148, .iload 5, 150, 0, 5), (150, .aload_n 0, 151, 0, 0), (151, .getfield 22, 154, 0, 0), (154, .isub, 155, 0, 0), (155, .iconst (0), 156, 0, 0), (156, .invokestatic 147, 159, 0, 0), (159, .laload, 160, 0, 0), (160, .lload_n 3, 161, 0, 3), (161, .lcmp, 162, 0, 0), (162, .ifCond .le (24), 165, 0, 186), (165, .aload_n 0, 166, 0, 0), (166, .getfield 76, 169, 0, 0), (169, .iconst (0), 170, 0, 0), (170, .iload 5, 172, 0, 5), (172, .aload_n 0, 173, 0, 0), (173, .getfield 22, 176, 0, 0), (176, .isub, 177, 0, 0), (177, .iconst (0), 178, 0, 0), (178, .invokestatic 147, 181, 0, 0), (181, .laload, 182, 0, 0), (182, .lstore_n 3, 183, 0, 3), (183, .iload 5, 185, 0, 5), (185, .istore_n 2, 186, 0, 2), (186, .iinc 5 (1), 189, 1, 5), (189, .goto (-55), 192, 0, 134), (192, .iload_n 2, 193, 0, 2), (193, .iconst (-1), 194, -1, 0), (194, .if_icmp .ne (5), 197, 0, 199), (197, .iconst (-1), 198, -1, 0), (198, .ireturn, 199, 0, 0), (199, .iconst (0), 200, 0, 0), (200, .istore 5, 202, 0, 5), (202, .aload_n 0, 203, 0, 0), (203, .iconst (0), 204, 0, 0), (204, .iload_n 2, 205, 0, 2), (205, .bipush (24), 207, 24, 0), (207, .invokevirtual 173, 210, 0, 0), (210, .iconst (0), 211, 0, 0), (211, .istore 6, 213, 0, 6), (213, .iload 6, 215, 0, 6), (215, .aload_n 0, 216, 0, 0), (216, .getfield 29, 219, 0, 0), (219, .iconst (1), 220, 1, 0), (220, .isub, 221, 0, 0), (221, .if_icmp .ge (97), 224, 0, 318), (224, .aload_n 0, 225, 0, 0), (225, .getfield 22, 228, 0, 0), (228, .istore 7, 230, 0, 7), (230, .aload_n 0, 231, 0, 0), (231, .iload_n 1, 232, 0, 1), (232, .iload 6, 234, 0, 6), (234, .aload_n 0, 235, 0, 0), (235, .getfield 7, 238, 0, 0), (238, .iload 6, 240, 0, 6), (240, .iaload, 241, 0, 0), (241, .iload 5, 243, 0, 5), (243, .iload 7, 245, 0, 7), (245, .invokevirtual 253, 248, 0, 0), (248, .aload_n 0, 249, 0, 0), (249, .getfield 76, 252, 0, 0), (252, .iload 6, 254, 0, 6), (254, .aload_n 0, 255, 0, 0), (255, .getfield 7, 258, 0, 0), (258, .iload 6, 260, 0, 6), (260, .iaload, 261, 0, 0), (261, .aload_n 0, 262, 0, 0), (262, .getfield 22, 265, 0, 0), (265, .isub, 266, 0, 0), (266, .iload 5, 268, 0, 5), (268, .invokestatic 147, 271, 0, 0), (271, .laload, 272, 0, 0), (272, .lcmp, 273, 0, 0), (273, .ifCond .eq (9), 276, 0, 282), (276, .iinc 7 (1), 279, 1, 7), (279, .goto (-49), 282, 0, 230), (282, .aload_n 0, 283, 0, 0), (283, .iload 5, 285, 0, 5), (285, .iload 7, 287, 0, 7), (287, .aload_n 0, 288, 0, 0), (288, .getfield 7, 291, 0, 0), (291, .iload 6, 293, 0, 6), (293, .iaload, 294, 0, 0), (294, .isub, 295, 0, 0), (295, .invokevirtual 158, 298, 0, 0), (298, .istore 5, 300, 0, 5), (300, .aload_n 0, 301, 0, 0), (301, .iload 6, 303, 0, 6), (303, .iconst (1), 304, 1, 0), (304, .iadd, 305, 0, 0), (305, .iload 7, 307, 0, 7), (307, .bipush (24), 309, 24, 0), (309, .invokevirtual 173, 312, 0, 0), (312, .iinc 6 (1), 315, 1, 6), (315, .goto (-102), 318, 0, 213), (318, .aload_n 0, 319, 0, 0), (319, .aload_n 0, 320, 0, 0), (320, .getfield 29, 323, 0, 0), (323, .invokevirtual 177, 326, 0, 0), (326, .lload_n 3, 327, 0, 3), (327, .l2i, 328, 0, 0), (328, .ireturn, 329, 0, 0)], FL_mo)
def Y_mo_count : am_Y := (⟨"EarSchoolModel", "count", "(I)I"⟩, prog_12_method_51_code, 2, (some .int), [(0, .iload_n 1, 1, 0, 1), (1, .tableswitch (80) (0) 5 #[(39), (44), (49), (65), (70), (75)], 40, 0, 0), (40, .aload_n 0, 41, 0, 0), (41, .getfield 120, 44, 0, 0), (44, .ireturn, 45, 0, 0), (45, .aload_n 0, 46, 0, 0), (46, .getfield 220, 49, 0, 0), (49, .ireturn, 50, 0, 0), (50, .aload_n 0, 51, 0, 0), (51, .getfield 123, 54, 0, 0), (54, .ifCond .eq (10), 57, 0, 64), (57, .aload_n 0, 58, 0, 0), (58, .getfield 238, 61, 0, 0), (61, .goto (4), 64, 0, 65), (64, .iconst (-1), 65, -1, 0), (65, .ireturn, 66, 0, 0), (66, .aload_n 0, 67, 0, 0), (67, .getfield 197, 70, 0, 0), (70, .ireturn, 71, 0, 0), (71, .aload_n 0, 72, 0, 0), (72, .getfield 185, 75, 0, 0), (75, .ireturn, 76, 0, 0), (76, .aload_n 0, 77, 0, 0), (77, .getfield 29, 80, 0, 0), (80, .ireturn, 81, 0, 0), (81, .bipush (-2), 83, -2, 0), (83, .ireturn, 84, 0, 0)], FL_mo)
def Y_ct_ofNone : am_Y := (⟨"EarSchool$CountTable", "ofNone", "()J"⟩, prog_2_method_2_code, 1, (some .long), [(0, .lconst 0, 1, 0, 0), (1, .lreturn, 2, 0, 0)], FL_ct)
def Y_ct_ofEnd : am_Y := (⟨"EarSchool$CountTable", "ofEnd", "()J"⟩, prog_2_method_3_code, 1, (some .long), [(0, .lconst 1, 1, 1, 0), (1, .lreturn, 2, 0, 0)], FL_ct)
def Y_ct_together : am_Y := (⟨"EarSchool$CountTable", "together", "(JJ)J"⟩, prog_2_method_4_code, 5, (some .long), [(0, .lload_n 1, 1, 0, 1), (1, .lload_n 3, 2, 0, 3), (2, .invokestatic 9, 5, 0, 0), (5, .lreturn, 6, 0, 0)], FL_ct)
def Y_ct_stepped : am_Y := (⟨"EarSchool$CountTable", "stepped", "(IJ)J"⟩, prog_2_method_5_code, 4, (some .long), [(0, .lload_n 2, 1, 0, 2), (1, .lreturn, 2, 0, 0)], FL_ct)
def Y_ct_spell : am_Y := (⟨"EarSchool$CountTable", "spell", "(JLEarSchool$Notes;)V"⟩, prog_2_method_6_code, 12, none, [(0, .lload_n 1, 1, 0, 1), (1, .lstore 4, 3, 0, 4), (3, .aload_n 0, 4, 0, 0), (4, .getfield 13, 7, 0, 0), (7, .getfield 19, 10, 0, 0), (10, .istore 6, 12, 0, 6), (12, .iconst (0), 13, 0, 0), (13, .istore 7, 15, 0, 7), (15, .aload_n 3, 16, 0, 3), (16, .iconst (0), 17, 0, 0), (17, .putfield 25, 20, 0, 0), (20, .iconst (0), 21, 0, 0), (21, .istore 8, 23, 0, 8), (23, .iload 8, 25, 0, 8), (25, .aload_n 0, 26, 0, 0), (26, .getfield 13, 29, 0, 0), (29, .getfield 30, 32, 0, 0), (32, .if_icmp .ge (105), 35, 0, 137), (35, .aload_n 0, 36, 0, 0), (36, .getfield 13, 39, 0, 0), (39, .getfield 19, 42, 0, 0), (42, .istore 9, 44, 0, 9), (44, .aload_n 0, 45, 0, 0), (45, .iload 8, 47, 0, 8), (47, .iload 6, 49, 0, 6), (49, .iload 7, 51, 0, 7), (51, .iload 9, 53, 0, 9), (53, .invokevirtual 33, 56, 0, 0), (56, .lstore 10, 58, 0, 10), (58, .iload 9, 60, 0, 9), (60, .aload_n 0, 61, 0, 0), (61, .getfield 13, 64, 0, 0), (64, .getfield 37, 67, 0, 0), (67, .if_icmp .ge (38), 70, 0, 105), (70, .lload 4, 72, 0, 4), (72, .lload 10, 74, 0, 10), (74, .lcmp, 75, 0, 0), (75, .ifCond .lt (30), 78, 0, 105), (78, .lload 4, 80, 0, 4), (80, .lload 10, 82, 0, 10), (82, .lsub, 83, 0, 0), (83, .lstore 4, 85, 0, 4), (85, .iinc 9 (1), 88, 1, 9), (88, .aload_n 0, 89, 0, 0), (89, .iload 8, 91, 0, 8), (91, .iload 6, 93, 0, 6), (93, .iload 7, 95, 0, 7), (95, .iload 9, 97, 0, 9), (97, .invokevirtual 33, 100, 0, 0), (100, .lstore 10, 102, 0, 10), (102, .goto (-44), 105, 0, 58), (105, .aload_n 0, 106, 0, 0), (106, .iload 8, 108, 0, 8), (108, .iload 6, 110, 0, 6), (110, .iload 7, 112, 0, 7), (112, .iload 9, 114, 0, 9), (114, .invokevirtual 40, 117, 0, 0), (117, .istore 7, 119, 0, 7), (119, .iload 9, 121, 0, 9), (121, .istore 6, 123, 0, 6), (123, .aload_n 3, 124, 0, 3), (124, .iload 9, 126, 0, 9), (126, .bipush (24), 128, 24, 0), (128, .invokevirtual 44, 131, 0, 0), (131, .iinc 8 (1), 134, 1, 8), (134, .goto (-111), 137, 0, 23), (137, .return_, 138, 0, 0)], FL_ct)
def Y_ct_ahead : am_Y := (⟨"EarSchool$CountTable", "ahead", "(LEarSchool$Notes;)J"⟩, prog_2_method_7_code, 9, (some .long), [(0, .lconst 0, 1, 0, 0), (1, .lstore_n 2, 2, 0, 2), (2, .aload_n 0, 3, 0, 0), (3, .getfield 13, 6, 0, 0), (6, .getfield 19, 9, 0, 0), (9, .istore 4, 11, 0, 4), (11, .iconst (0), 12, 0, 0), (12, .istore 5, 14, 0, 5), (14, .iconst (0), 15, 0, 0), (15, .istore 6, 17, 0, 6), (17, .iload 6, 19, 0, 6), (19, .aload_n 0, 20, 0, 0), (20, .getfield 13, 23, 0, 0), (23, .getfield 30, 26, 0, 0), (26, .if_icmp .ge (115), 29, 0, 141), (29, .iload 6, 31, 0, 6), (31, .aload_n 1, 32, 0, 1), (32, .getfield 25, 35, 0, 0), (35, .if_icmp .ge (106), 38, 0, 141), (38, .aload_n 1, 39, 0, 1), (39, .getfield 48, 42, 0, 0), (42, .iload 6, 44, 0, 6), (44, .iaload, 45, 0, 0), (45, .istore 7, 47, 0, 7), (47, .aload_n 0, 48, 0, 0), (48, .getfield 13, 51, 0, 0), (51, .getfield 19, 54, 0, 0), (54, .istore 8, 56, 0, 8), (56, .iload 8, 58, 0, 8), (58, .iload 7, 60, 0, 7), (60, .if_icmp .ge (38), 63, 0, 98), (63, .iload 8, 65, 0, 8), (65, .aload_n 0, 66, 0, 0), (66, .getfield 13, 69, 0, 0), (69, .getfield 37, 72, 0, 0), (72, .if_icmp .gt (26), 75, 0, 98), (75, .lload_n 2, 76, 0, 2), (76, .aload_n 0, 77, 0, 0), (77, .iload 6, 79, 0, 6), (79, .iload 4, 81, 0, 4), (81, .iload 5, 83, 0, 5), (83, .iload 8, 85, 0, 8), (85, .invokevirtual 33, 88, 0, 0), (88, .invokestatic 9, 91, 0, 0), (91, .lstore_n 2, 92, 0, 2), (92, .iinc 8 (1), 95, 1, 8), (95, .goto (-39), 98, 0, 56), (98, .aload_n 0, 99, 0, 0), (99, .iload 6, 101, 0, 6), (101, .iload 4, 103, 0, 4), (103, .iload 5, 105, 0, 5), (105, .iload 7, 107, 0, 7), (107, .invokevirtual 33, 110, 0, 0), (110, .lconst 0, 111, 0, 0), (111, .lcmp, 112, 0, 0), (112, .ifCond .ne (5), 115, 0, 117), (115, .lload_n 2, 116, 0, 2), (116, .lreturn, 117, 0, 0), (117, .aload_n 0, 118, 0, 0), (118, .iload 6, 120, 0, 6), (120, .iload 4, 122, 0, 4), (122, .iload 5, 124, 0, 5), (124, .iload 7, 126, 0, 7), (126, .invokevirtual 40, 129, 0, 0), (129, .istore 5, 131, 0, 5), (131, .iload 7, 133, 0, 7), (133, .istore 4, 135, 0, 4), (135, .iinc 6 (1), 138, 1, 6), (138, .goto (-121), 141, 0, 17), (141, .lload_n 2, 142, 0, 2), (142, .lreturn, 143, 0, 0)], FL_ct)
def Y_ha_fill : am_Y := (⟨"EarSchool$Harmony", "fill", "()V"⟩, prog_3_method_2_code, 3, none, [(0, .aload_n 0, 1, 0, 0), (1, .getfield 25, 4, 0, 0), (4, .ifCond .eq (4), 7, 0, 8), (7, .return_, 8, 0, 0), (8, .aload_n 0, 9, 0, 0), (9, .getfield 18, 12, 0, 0), (12, .iconst (1), 13, 1, 0), (13, .isub, 14, 0, 0), (14, .istore_n 1, 15, 0, 1), (15, .iload_n 1, 16, 0, 1), (16, .ifCond .lt (63), 19, 0, 79), (19, .aload_n 0, 20, 0, 0), (20, .iload_n 1, 21, 0, 1), (21, .invokevirtual 39, 24, 0, 0), (24, .iconst (0), 25, 0, 0), (25, .istore_n 2, 26, 0, 2), (26, .iload_n 2, 27, 0, 2), (27, .aload_n 0, 28, 0, 0), (28, .getfield 29, 31, 0, 0), (31, .iload_n 1, 32, 0, 1), (32, .iaload, 33, 0, 0), (33, .if_icmp .ge (40), 36, 0, 73), (36, .aload_n 0, 37, 0, 0), (37, .getfield 35, 40, 0, 0), (40, .iload_n 1, 41, 0, 1), (41, .bipush (6), 43, 6, 0), (43, .imul, 44, 0, 0), (44, .iload_n 2, 45, 0, 2), (45, .iadd, 46, 0, 0), (46, .iload_n 1, 47, 0, 1), (47, .aload_n 0, 48, 0, 0), (48, .getfield 18, 51, 0, 0), (51, .iconst (1), 52, 1, 0), (52, .isub, 53, 0, 0), (53, .if_icmp .ne (7), 56, 0, 60), (56, .lconst 1, 57, 1, 0), (57, .goto (9), 60, 0, 66), (60, .aload_n 0, 61, 0, 0), (61, .iload_n 1, 62, 0, 1), (62, .iload_n 2, 63, 0, 2), (63, .invokevirtual 43, 66, 0, 0), (66, .lastore, 67, 0, 0), (67, .iinc 2 (1), 70, 1, 2), (70, .goto (-44), 73, 0, 26), (73, .iinc 1 (-1), 76, -1, 1), (76, .goto (-61), 79, 0, 15), (79, .aload_n 0, 80, 0, 0), (80, .iconst (1), 81, 1, 0), (81, .putfield 25, 84, 0, 0), (84, .return_, 85, 0, 0)], FL_ha)
def Y_ha_findThrees : am_Y := (⟨"EarSchool$Harmony", "findThrees", "(I)V"⟩, prog_3_method_3_code, 3, none, [(0, .aload_n 0, 1, 0, 0), (1, .getfield 29, 4, 0, 0), (4, .iload_n 1, 5, 0, 1), (5, .iconst (0), 6, 0, 0), (6, .iastore, 7, 0, 0), (7, .aload_n 0, 8, 0, 0), (8, .getfield 15, 11, 0, 0), (11, .iconst (0), 12, 0, 0), (12, .iaload, 13, 0, 0), (13, .istore_n 2, 14, 0, 2), (14, .iload_n 2, 15, 0, 2), (15, .aload_n 0, 16, 0, 0), (16, .getfield 15, 19, 0, 0), (19, .iconst (0), 20, 0, 0), (20, .iaload, 21, 0, 0), (21, .bipush (12), 23, 12, 0), (23, .iadd, 24, 0, 0), (24, .if_icmp .ge (28), 27, 0, 52), (27, .aload_n 0, 28, 0, 0), (28, .getfield 11, 31, 0, 0), (31, .iload_n 1, 32, 0, 1), (32, .iaload, 33, 0, 0), (33, .iload_n 2, 34, 0, 2), (34, .invokestatic 47, 37, 0, 0), (37, .ifCond .eq (9), 40, 0, 46), (40, .aload_n 0, 41, 0, 0), (41, .iload_n 1, 42, 0, 1), (42, .iload_n 2, 43, 0, 2), (43, .invokevirtual 51, 46, 0, 0), (46, .iinc 2 (1), 49, 1, 2), (49, .goto (-35), 52, 0, 14), (52, .return_, 53, 0, 0)], FL_ha)
def Y_ha_findAbove : am_Y := (⟨"EarSchool$Harmony", "findAbove", "(II)V"⟩, prog_3_method_4_code, 7, none, [(0, .aload_n 0, 1, 0, 0), (1, .getfield 15, 4, 0, 0), (4, .iconst (1), 5, 1, 0), (5, .iaload, 6, 0, 0), (6, .iload_n 2, 7, 0, 2), (7, .iconst (1), 8, 1, 0), (8, .iadd, 9, 0, 0), (9, .invokestatic 55, 12, 0, 0), (12, .istore_n 3, 13, 0, 3), (13, .iload_n 3, 14, 0, 3), (14, .aload_n 0, 15, 0, 0), (15, .getfield 15, 18, 0, 0), (18, .iconst (1), 19, 1, 0), (19, .iaload, 20, 0, 0), (20, .bipush (12), 22, 12, 0), (22, .iadd, 23, 0, 0), (23, .if_icmp .ge (158), 26, 0, 181), (26, .aload_n 0, 27, 0, 0), (27, .getfield 11, 30, 0, 0), (30, .iload_n 1, 31, 0, 1), (31, .iaload, 32, 0, 0), (32, .iload_n 3, 33, 0, 3), (33, .invokestatic 47, 36, 0, 0), (36, .ifCond .ne (6), 39, 0, 42), (39, .goto (136), 42, 0, 175), (42, .aload_n 0, 43, 0, 0), (43, .getfield 15, 46, 0, 0), (46, .iconst (2), 47, 2, 0), (47, .iaload, 48, 0, 0), (48, .iload_n 3, 49, 0, 3), (49, .iconst (1), 50, 1, 0), (50, .iadd, 51, 0, 0), (51, .invokestatic 55, 54, 0, 0), (54, .istore 4, 56, 0, 4), (56, .iload 4, 58, 0, 4), (58, .aload_n 0, 59, 0, 0), (59, .getfield 15, 62, 0, 0), (62, .iconst (2), 63, 2, 0), (63, .iaload, 64, 0, 0), (64, .bipush (12), 66, 12, 0), (66, .iadd, 67, 0, 0), (67, .if_icmp .ge (108), 70, 0, 175), (70, .iconst (1), 71, 1, 0), (71, .iload_n 2, 72, 0, 2), (72, .bipush (12), 74, 12, 0), (74, .irem, 75, 0, 0), (75, .ishl, 76, 0, 0), (76, .iconst (1), 77, 1, 0), (77, .iload_n 3, 78, 0, 3), (78, .bipush (12), 80, 12, 0), (80, .irem, 81, 0, 0), (81, .ishl, 82, 0, 0), (82, .ior, 83, 0, 0), (83, .iconst (1), 84, 1, 0), (84, .iload 4, 86, 0, 4), (86, .bipush (12), 88, 12, 0), (88, .irem, 89, 0, 0), (89, .ishl, 90, 0, 0), (90, .ior, 91, 0, 0), (91, .istore 5, 93, 0, 5), (93, .iload 5, 95, 0, 5), (95, .aload_n 0, 96, 0, 0), (96, .getfield 11, 99, 0, 0), (99, .iload_n 1, 100, 0, 1), (100, .iaload, 101, 0, 0), (101, .if_icmp .ne (68), 104, 0, 169), (104, .aload_n 0, 105, 0, 0), (105, .getfield 29, 108, 0, 0), (108, .iload_n 1, 109, 0, 1), (109, .iaload, 110, 0, 0), (110, .bipush (6), 112, 6, 0), (112, .if_icmp .ge (57), 115, 0, 169), (115, .iload_n 1, 116, 0, 1), (116, .bipush (6), 118, 6, 0), (118, .imul, 119, 0, 0), (119, .aload_n 0, 120, 0, 0), (120, .getfield 29, 123, 0, 0), (123, .iload_n 1, 124, 0, 1), (124, .iaload, 125, 0, 0), (125, .iadd, 126, 0, 0), (126, .iconst (3), 127, 3, 0), (127, .imul, 128, 0, 0), (128, .istore 6, 130, 0, 6), (130, .aload_n 0, 131, 0, 0), (131, .getfield 32, 134, 0, 0), (134, .iload 6, 136, 0, 6), (136, .iload_n 2, 137, 0, 2), (137, .iastore, 138, 0, 0), (138, .aload_n 0, 139, 0, 0), (139, .getfield 32, 142, 0, 0), (142, .iload 6, 144, 0, 6), (144, .iconst (1), 145, 1, 0), (145, .iadd, 146, 0, 0), (146, .iload_n 3, 147, 0, 3), (147, .iastore, 148, 0, 0), (148, .aload_n 0, 149, 0, 0), (149, .getfield 32, 152, 0, 0), (152, .iload 6, 154, 0, 6), (154, .iconst (2), 155, 2, 0), (155, .iadd, 156, 0, 0), (156, .iload 4, 158, 0, 4), (158, .iastore, 159, 0, 0), (159, .aload_n 0, 160, 0, 0), (160, .getfield 29, 163, 0, 0), (163, .iload_n 1, 164, 0, 1), (164, .dup2, 165, 0, 0), (165, .iaload, 166, 0, 0), (166, .iconst (1), 167, 1, 0), (167, .iadd, 168, 0, 0), (168, .iastore, 169, 0, 0), (169, .iinc 4 (1), 172, 1, 4), (172, .goto (-116), 175, 0, 56), (175, .iinc 3 (1), 178, 1, 3), (178, .goto (-165), 181, 0, 13), (181, .return_, 182, 0, 0)], FL_ha)
def Y_ha_waysBehind : am_Y := (⟨"EarSchool$Harmony", "waysBehind", "(II)J"⟩, prog_3_method_5_code, 6, (some .long), [(0, .lconst 0, 1, 0, 0), (1, .lstore_n 3, 2, 0, 3), (2, .iconst (0), 3, 0, 0), (3, .istore 5, 5, 0, 5), (5, .iload 5, 7, 0, 5), (7, .aload_n 0, 8, 0, 0), (8, .getfield 29, 11, 0, 0), (11, .iload_n 1, 12, 0, 1), (12, .iconst (1), 13, 1, 0), (13, .iadd, 14, 0, 0), (14, .iaload, 15, 0, 0), (15, .if_icmp .ge (39), 18, 0, 54), (18, .aload_n 0, 19, 0, 0), (19, .iload_n 1, 20, 0, 1), (20, .iload_n 2, 21, 0, 2), (21, .iload 5, 23, 0, 5), (23, .invokevirtual 61, 26, 0, 0), (26, .ifCond .eq (22), 29, 0, 48), (29, .lload_n 3, 30, 0, 3), (30, .aload_n 0, 31, 0, 0), (31, .getfield 35, 34, 0, 0), (34, .iload_n 1, 35, 0, 1), (35, .iconst (1), 36, 1, 0), (36, .iadd, 37, 0, 0), (37, .bipush (6), 39, 6, 0), (39, .imul, 40, 0, 0), (40, .iload 5, 42, 0, 5), (42, .iadd, 43, 0, 0), (43, .laload, 44, 0, 0), (44, .invokestatic 65, 47, 0, 0), (47, .lstore_n 3, 48, 0, 3), (48, .iinc 5 (1), 51, 1, 5), (51, .goto (-46), 54, 0, 5), (54, .lload_n 3, 55, 0, 3), (55, .lreturn, 56, 0, 0)], FL_ha)
def Y_ha_mayFollow : am_Y := (⟨"EarSchool$Harmony", "mayFollow", "(III)Z"⟩, prog_3_method_6_code, 6, (some .boolean), [(0, .iconst (0), 1, 0, 0), (1, .istore 4, 3, 0, 4), (3, .iload 4, 5, 0, 4), (5, .iconst (3), 6, 3, 0), (6, .if_icmp .ge (72), 9, 0, 78), (9, .aload_n 0, 10, 0, 0), (10, .iload_n 1, 11, 0, 1), (11, .iconst (1), 12, 1, 0), (12, .iadd, 13, 0, 0), (13, .iload_n 3, 14, 0, 3), (14, .iload 4, 16, 0, 4), (16, .invokevirtual 69, 19, 0, 0), (19, .aload_n 0, 20, 0, 0), (20, .iload_n 1, 21, 0, 1), (21, .iload_n 2, 22, 0, 2), (22, .iload 4, 24, 0, 4), (24, .invokevirtual 69, 27, 0, 0), (27, .isub, 28, 0, 0), (28, .invokestatic 73, 31, 0, 0), (31, .aload_n 0, 32, 0, 0), (32, .getfield 22, 35, 0, 0), (35, .if_icmp .le (5), 38, 0, 40), (38, .iconst (0), 39, 0, 0), (39, .ireturn, 40, 0, 0), (40, .iconst (0), 41, 0, 0), (41, .istore 5, 43, 0, 5), (43, .iload 5, 45, 0, 5), (45, .iload 4, 47, 0, 4), (47, .if_icmp .ge (25), 50, 0, 72), (50, .aload_n 0, 51, 0, 0), (51, .iload_n 1, 52, 0, 1), (52, .iload_n 2, 53, 0, 2), (53, .iload_n 3, 54, 0, 3), (54, .iload 5, 56, 0, 5), (56, .iload 4, 58, 0, 4), (58, .invokevirtual 77, 61, 0, 0), (61, .ifCond .eq (5), 64, 0, 66), (64, .iconst (0), 65, 0, 0), (65, .ireturn, 66, 0, 0), (66, .iinc 5 (1), 69, 1, 5), (69, .goto (-26), 72, 0, 43), (72, .iinc 4 (1), 75, 1, 4), (75, .goto (-72), 78, 0, 3), (78, .iconst (1), 79, 1, 0), (79, .ireturn, 80, 0, 0)], FL_ha)
def Y_ha_parallel : am_Y := (⟨"EarSchool$Harmony", "parallel", "(IIIII)Z"⟩, prog_3_method_7_code, 13, (some .boolean), [(0, .aload_n 0, 1, 0, 0), (1, .iload_n 1, 2, 0, 1), (2, .iload_n 2, 3, 0, 2), (3, .iload 4, 5, 0, 4), (5, .invokevirtual 69, 8, 0, 0), (8, .istore 6, 10, 0, 6), (10, .aload_n 0, 11, 0, 0), (11, .iload_n 1, 12, 0, 1), (12, .iload_n 2, 13, 0, 2), (13, .iload 5, 15, 0, 5), (15, .invokevirtual 69, 18, 0, 0), (18, .istore 7, 20, 0, 7), (20, .aload_n 0, 21, 0, 0), (21, .iload_n 1, 22, 0, 1), (22, .iconst (1), 23, 1, 0), (23, .iadd, 24, 0, 0), (24, .iload_n 3, 25, 0, 3), (25, .iload 4, 27, 0, 4), (27, .invokevirtual 69, 30, 0, 0), (30, .istore 8, 32, 0, 8), (32, .aload_n 0, 33, 0, 0), (33, .iload_n 1, 34, 0, 1), (34, .iconst (1), 35, 1, 0), (35, .iadd, 36, 0, 0), (36, .iload_n 3, 37, 0, 3), (37, .iload 5, 39, 0, 5), (39, .invokevirtual 69, 42, 0, 0), (42, .istore 9, 44, 0, 9), (44, .iload 8, 46, 0, 8), (46, .iload 6, 48, 0, 6), (48, .if_icmp .le (14), 51, 0, 62), (51, .iload 9, 53, 0, 9), (53, .iload 7, 55, 0, 7), (55, .if_icmp .le (7), 58, 0, 62), (58, .iconst (1), 59, 1, 0), (59, .goto (4), 62, 0, 63), (62, .iconst (0), 63, 0, 0), (63, .istore 10, 65, 0, 10), (65, .iload 8, 67, 0, 8), (67, .iload 6, 69, 0, 6), (69, .if_icmp .ge (14), 72, 0, 83), (72, .iload 9, 74, 0, 9), (74, .iload 7, 76, 0, 7), (76, .if_icmp .ge (7), 79, 0, 83), (79, .iconst (1), 80, 1, 0), (80, .goto (4), 83, 0, 84), (83, .iconst (0), 84, 0, 0), (84, .istore 11, 86, 0, 11), (86, .iload 7, 88, 0, 7), (88, .iload 6, 90, 0, 6), (90, .isub, 91, 0, 0), (91, .bipush (12), 93, 12, 0), (93, .irem, 94, 0, 0), (94, .istore 12, 96, 0, 12), (96, .iload 10, 98, 0, 10), (98, .ifCond .ne (8), 101, 0, 106), (101, .iload 11, 103, 0, 11), (103, .ifCond .eq (32), 106, 0, 135), (106, .iload 12, 108, 0, 12), (108, .iload 9, 110, 0, 9), (110, .iload 8, 112, 0, 8), (112, .isub, 113, 0, 0), (113, .bipush (12), 115, 12, 0), (115, .irem, 116, 0, 0), (116, .if_icmp .ne (19), 119, 0, 135), (119, .iload 12, 121, 0, 12), (121, .ifCond .eq (10), 124, 0, 131), (124, .iload 12, 126, 0, 12), (126, .bipush (7), 128, 7, 0), (128, .if_icmp .ne (7), 131, 0, 135), (131, .iconst (1), 132, 1, 0), (132, .goto (4), 135, 0, 136), (135, .iconst (0), 136, 0, 0), (136, .ireturn, 137, 0, 0)], FL_ha)
def Y_ha_pitchOf : am_Y := (⟨"EarSchool$Harmony", "pitchOf", "(III)I"⟩, prog_3_method_8_code, 5, (some .int), [(0, .iload_n 1, 1, 0, 1), (1, .bipush (6), 3, 6, 0), (3, .imul, 4, 0, 0), (4, .iload_n 2, 5, 0, 2), (5, .iadd, 6, 0, 0), (6, .iconst (3), 7, 3, 0), (7, .imul, 8, 0, 0), (8, .iload_n 3, 9, 0, 3), (9, .iadd, 10, 0, 0), (10, .istore 4, 12, 0, 4), (12, .iload 4, 14, 0, 4), (14, .iconst (0), 15, 0, 0), (15, .aload_n 0, 16, 0, 0), (16, .getfield 32, 19, 0, 0), (19, .arraylength, 20, 0, 0), (20, .iconst (1), 21, 1, 0), (21, .isub, 22, 0, 0), (22, .invokestatic 81, 25, 0, 0), (25, .ifCond .eq (7), 28, 0, 32), (28, .iconst (-1), 29, -1, 0), (29, .goto (10), 32, 0, 39), (32, .aload_n 0, 33, 0, 0), (33, .getfield 32, 36, 0, 0), (36, .iload 4, 38, 0, 4), (38, .iaload, 39, 0, 0), (39, .ireturn, 40, 0, 0)], FL_ha)
def Y_ha_total : am_Y := (⟨"EarSchool$Harmony", "total", "()J"⟩, prog_3_method_9_code, 4, (some .long), [(0, .lconst 0, 1, 0, 0), (1, .lstore_n 1, 2, 0, 1), (2, .iconst (0), 3, 0, 0), (3, .istore_n 3, 4, 0, 3), (4, .aload_n 0, 5, 0, 0), (5, .getfield 18, 8, 0, 0), (8, .ifCond .le (30), 11, 0, 38), (11, .iload_n 3, 12, 0, 3), (12, .aload_n 0, 13, 0, 0), (13, .getfield 29, 16, 0, 0), (16, .iconst (0), 17, 0, 0), (17, .iaload, 18, 0, 0), (18, .if_icmp .ge (20), 21, 0, 38), (21, .lload_n 1, 22, 0, 1), (22, .aload_n 0, 23, 0, 0), (23, .getfield 35, 26, 0, 0), (26, .iload_n 3, 27, 0, 3), (27, .laload, 28, 0, 0), (28, .invokestatic 65, 31, 0, 0), (31, .lstore_n 1, 32, 0, 1), (32, .iinc 3 (1), 35, 1, 3), (35, .goto (-31), 38, 0, 4), (38, .lload_n 1, 39, 0, 1), (39, .lreturn, 40, 0, 0)], FL_ha)
def Y_ha_threeOf : am_Y := (⟨"EarSchool$Harmony", "threeOf", "(JI)I"⟩, prog_3_method_10_code, 10, (some .int), [(0, .lload_n 1, 1, 0, 1), (1, .lstore 4, 3, 0, 4), (3, .iconst (0), 4, 0, 0), (4, .istore 6, 6, 0, 6), (6, .iconst (0), 7, 0, 0), (7, .istore 7, 9, 0, 7), (9, .iload 7, 11, 0, 7), (11, .iload_n 3, 12, 0, 3), (12, .if_icmp .gt (113), 15, 0, 125), (15, .iload 7, 17, 0, 7), (17, .aload_n 0, 18, 0, 0), (18, .getfield 18, 21, 0, 0), (21, .if_icmp .ge (104), 24, 0, 125), (24, .iconst (0), 25, 0, 0), (25, .istore 8, 27, 0, 8), (27, .iconst (0), 28, 0, 0), (28, .istore 9, 30, 0, 9), (30, .iload 9, 32, 0, 9), (32, .aload_n 0, 33, 0, 0), (33, .getfield 29, 36, 0, 0), (36, .iload 7, 38, 0, 7), (38, .iaload, 39, 0, 0), (39, .if_icmp .ge (76), 42, 0, 115), (42, .iload 7, 44, 0, 7), (44, .ifCond .le (21), 47, 0, 65), (47, .aload_n 0, 48, 0, 0), (48, .iload 7, 50, 0, 7), (50, .iconst (1), 51, 1, 0), (51, .isub, 52, 0, 0), (52, .iload 6, 54, 0, 6), (54, .iload 9, 56, 0, 9), (56, .invokevirtual 61, 59, 0, 0), (59, .ifCond .ne (6), 62, 0, 65), (62, .goto (47), 65, 0, 109), (65, .iload 9, 67, 0, 9), (67, .istore 8, 69, 0, 8), (69, .lload 4, 71, 0, 4), (71, .aload_n 0, 72, 0, 0), (72, .getfield 35, 75, 0, 0), (75, .iload 7, 77, 0, 7), (77, .bipush (6), 79, 6, 0), (79, .imul, 80, 0, 0), (80, .iload 9, 82, 0, 9), (82, .iadd, 83, 0, 0), (83, .laload, 84, 0, 0), (84, .lcmp, 85, 0, 0), (85, .ifCond .ge (6), 88, 0, 91), (88, .goto (27), 91, 0, 115), (91, .lload 4, 93, 0, 4), (93, .aload_n 0, 94, 0, 0), (94, .getfield 35, 97, 0, 0), (97, .iload 7, 99, 0, 7), (99, .bipush (6), 101, 6, 0), (101, .imul, 102, 0, 0), (102, .iload 9, 104, 0, 9), (104, .iadd, 105, 0, 0), (105, .laload, 106, 0, 0), (106, .lsub, 107, 0, 0), (107, .lstore 4, 109, 0, 4), (109, .iinc 9 (1), 112, 1, 9), (112, .goto (-82), 115, 0, 30), (115, .iload 8, 117, 0, 8), (117, .istore 6, 119, 0, 6), (119, .iinc 7 (1), 122, 1, 7), (122, .goto (-113), 125, 0, 9), (125, .iload 6, 127, 0, 6), (127, .ireturn, 128, 0, 0)], FL_ha)
def Y_ju_forget : am_Y := (⟨"EarSchool$Judgement", "forget", "()V"⟩, prog_4_method_2_code, 1, none, [(0, .aload_n 0, 1, 0, 0), (1, .iconst (0), 2, 0, 0), (2, .putfield 34, 5, 0, 0), (5, .return_, 6, 0, 0)], FL_ju)
def Y_ju_settle : am_Y := (⟨"EarSchool$Judgement", "settle", "()V"⟩, prog_4_method_3_code, 3, none, [(0, .aload_n 0, 1, 0, 0), (1, .getfield 34, 4, 0, 0), (4, .ifCond .eq (4), 7, 0, 8), (7, .return_, 8, 0, 0), (8, .aload_n 0, 9, 0, 0), (9, .getfield 38, 12, 0, 0), (12, .getfield 45, 15, 0, 0), (15, .istore_n 1, 16, 0, 1), (16, .iload_n 1, 17, 0, 1), (17, .ifCond .lt (64), 20, 0, 81), (20, .aload_n 0, 21, 0, 0), (21, .getfield 42, 24, 0, 0), (24, .getfield 45, 27, 0, 0), (27, .istore_n 2, 28, 0, 2), (28, .iload_n 2, 29, 0, 2), (29, .ifCond .lt (46), 32, 0, 75), (32, .iload_n 1, 33, 0, 1), (33, .aload_n 0, 34, 0, 0), (34, .getfield 38, 37, 0, 0), (37, .getfield 45, 40, 0, 0), (40, .if_icmp .eq (14), 43, 0, 54), (43, .iload_n 2, 44, 0, 2), (44, .aload_n 0, 45, 0, 0), (45, .getfield 42, 48, 0, 0), (48, .getfield 45, 51, 0, 0), (51, .if_icmp .ne (12), 54, 0, 63), (54, .aload_n 0, 55, 0, 0), (55, .iload_n 1, 56, 0, 1), (56, .iload_n 2, 57, 0, 2), (57, .invokevirtual 48, 60, 0, 0), (60, .goto (9), 63, 0, 69), (63, .aload_n 0, 64, 0, 0), (64, .iload_n 1, 65, 0, 1), (65, .iload_n 2, 66, 0, 2), (66, .invokevirtual 52, 69, 0, 0), (69, .iinc 2 (-1), 72, -1, 2), (72, .goto (-44), 75, 0, 28), (75, .iinc 1 (-1), 78, -1, 1), (78, .goto (-62), 81, 0, 16), (81, .aload_n 0, 82, 0, 0), (82, .invokevirtual 55, 85, 0, 0), (85, .aload_n 0, 86, 0, 0), (86, .aload_n 0, 87, 0, 0), (87, .iconst (0), 88, 0, 0), (88, .iconst (0), 89, 0, 0), (89, .iconst (0), 90, 0, 0), (90, .invokevirtual 58, 93, 0, 0), (93, .putfield 31, 96, 0, 0), (96, .aload_n 0, 97, 0, 0), (97, .iconst (1), 98, 1, 0), (98, .putfield 34, 101, 0, 0), (101, .return_, 102, 0, 0)], FL_ju)
def Y_ju_fillBorder : am_Y := (⟨"EarSchool$Judgement", "fillBorder", "(II)V"⟩, prog_4_method_4_code, 6, none, [(0, .aload_n 0, 1, 0, 0), (1, .iload_n 1, 2, 0, 1), (2, .iload_n 2, 3, 0, 2), (3, .bipush (-12), 5, -12, 0), (5, .invokevirtual 62, 8, 0, 0), (8, .istore_n 3, 9, 0, 3), (9, .aload_n 0, 10, 0, 0), (10, .iload_n 1, 11, 0, 1), (11, .iload_n 2, 12, 0, 2), (12, .iconst (0), 13, 0, 0), (13, .invokevirtual 65, 16, 0, 0), (16, .istore 4, 18, 0, 4), (18, .iconst (0), 19, 0, 0), (19, .istore 5, 21, 0, 5), (21, .iload 5, 23, 0, 5), (23, .bipush (25), 25, 25, 0), (25, .if_icmp .ge (32), 28, 0, 57), (28, .iload_n 3, 29, 0, 3), (29, .iload 5, 31, 0, 5), (31, .iadd, 32, 0, 0), (32, .aload_n 0, 33, 0, 0), (33, .getfield 11, 36, 0, 0), (36, .arraylength, 37, 0, 0), (37, .if_icmp .ge (20), 40, 0, 57), (40, .aload_n 0, 41, 0, 0), (41, .getfield 11, 44, 0, 0), (44, .iload_n 3, 45, 0, 3), (45, .iload 5, 47, 0, 5), (47, .iadd, 48, 0, 0), (48, .iload 4, 50, 0, 4), (50, .iastore, 51, 0, 0), (51, .iinc 5 (1), 54, 1, 5), (54, .goto (-33), 57, 0, 21), (57, .return_, 58, 0, 0)], FL_ju)
def Y_ju_fillInside : am_Y := (⟨"EarSchool$Judgement", "fillInside", "(II)V"⟩, prog_4_method_5_code, 13, none, [(0, .aload_n 0, 1, 0, 0), (1, .iload_n 1, 2, 0, 1), (2, .iload_n 2, 3, 0, 2), (3, .bipush (-12), 5, -12, 0), (5, .invokevirtual 62, 8, 0, 0), (8, .istore_n 3, 9, 0, 3), (9, .aload_n 0, 10, 0, 0), (10, .iload_n 1, 11, 0, 1), (11, .iconst (1), 12, 1, 0), (12, .iadd, 13, 0, 0), (13, .iload_n 2, 14, 0, 2), (14, .iconst (1), 15, 1, 0), (15, .iadd, 16, 0, 0), (16, .bipush (-12), 18, -12, 0), (18, .invokevirtual 62, 21, 0, 0), (21, .istore 4, 23, 0, 4), (23, .aload_n 0, 24, 0, 0), (24, .iload_n 1, 25, 0, 1), (25, .iconst (1), 26, 1, 0), (26, .iadd, 27, 0, 0), (27, .iload_n 2, 28, 0, 2), (28, .bipush (-12), 30, -12, 0), (30, .invokevirtual 62, 33, 0, 0), (33, .istore 5, 35, 0, 5), (35, .aload_n 0, 36, 0, 0), (36, .iload_n 1, 37, 0, 1), (37, .iload_n 2, 38, 0, 2), (38, .iconst (1), 39, 1, 0), (39, .iadd, 40, 0, 0), (40, .bipush (-12), 42, -12, 0), (42, .invokevirtual 62, 45, 0, 0), (45, .istore 6, 47, 0, 6), (47, .aload_n 0, 48, 0, 0), (48, .getfield 42, 51, 0, 0), (51, .getfield 68, 54, 0, 0), (54, .iload_n 2, 55, 0, 2), (55, .iaload, 56, 0, 0), (56, .aload_n 0, 57, 0, 0), (57, .getfield 38, 60, 0, 0), (60, .getfield 68, 63, 0, 0), (63, .iload_n 1, 64, 0, 1), (64, .iaload, 65, 0, 0), (65, .isub, 66, 0, 0), (66, .bipush (12), 68, 12, 0), (68, .iadd, 69, 0, 0), (69, .istore 7, 71, 0, 7), (71, .aload_n 0, 72, 0, 0), (72, .iload_n 1, 73, 0, 1), (73, .iload_n 2, 74, 0, 2), (74, .invokevirtual 71, 77, 0, 0), (77, .istore 8, 79, 0, 8), (79, .aload_n 0, 80, 0, 0), (80, .iload_n 2, 81, 0, 2), (81, .invokevirtual 75, 84, 0, 0), (84, .istore 9, 86, 0, 9), (86, .ldc 79, 88, 1000000, 683), (88, .istore 10, 90, 0, 10), (90, .iconst (0), 91, 0, 0), (91, .istore 11, 93, 0, 11), (93, .iload 11, 95, 0, 11), (95, .bipush (25), 97, 25, 0), (97, .if_icmp .ge (109), 100, 0, 206), (100, .iload 4, 102, 0, 4), (102, .iload 11, 104, 0, 11), (104, .iadd, 105, 0, 0), (105, .aload_n 0, 106, 0, 0), (106, .getfield 11, 109, 0, 0), (109, .arraylength, 110, 0, 0), (110, .if_icmp .ge (96), 113, 0, 206), (113, .aload_n 0, 114, 0, 0), (114, .getfield 11, 117, 0, 0), (117, .iload 4, 119, 0, 4), (119, .iload 11, 121, 0, 11), (121, .iadd, 122, 0, 0), (122, .iaload, 123, 0, 0), (123, .iload 8, 125, 0, 8), (125, .iadd, 126, 0, 0), (126, .iload 11, 128, 0, 11), (128, .iload 7, 130, 0, 7), (130, .if_icmp .ne (7), 133, 0, 137), (133, .iconst (0), 134, 0, 0), (134, .goto (4), 137, 0, 138), (137, .iconst (2), 138, 2, 0), (138, .iadd, 139, 0, 0), (139, .istore 12, 141, 0, 12), (141, .iload 12, 143, 0, 12), (143, .aload_n 0, 144, 0, 0), (144, .getfield 11, 147, 0, 0), (147, .iload 5, 149, 0, 5), (149, .iload 11, 151, 0, 11), (151, .iadd, 152, 0, 0), (152, .iaload, 153, 0, 0), (153, .iconst (3), 154, 3, 0), (154, .iadd, 155, 0, 0), (155, .invokestatic 80, 158, 0, 0), (158, .istore 12, 160, 0, 12), (160, .iload 12, 162, 0, 12), (162, .aload_n 0, 163, 0, 0), (163, .getfield 11, 166, 0, 0), (166, .iload 6, 168, 0, 6), (168, .iload 11, 170, 0, 11), (170, .iadd, 171, 0, 0), (171, .iaload, 172, 0, 0), (172, .iload 9, 174, 0, 9), (174, .iadd, 175, 0, 0), (175, .invokestatic 80, 178, 0, 0), (178, .istore 12, 180, 0, 12), (180, .aload_n 0, 181, 0, 0), (181, .getfield 11, 184, 0, 0), (184, .iload_n 3, 185, 0, 3), (185, .iload 11, 187, 0, 11), (187, .iadd, 188, 0, 0), (188, .iload 12, 190, 0, 12), (190, .iastore, 191, 0, 0), (191, .iload 10, 193, 0, 10), (193, .iload 12, 195, 0, 12), (195, .invokestatic 80, 198, 0, 0), (198, .istore 10, 200, 0, 10), (200, .iinc 11 (1), 203, 1, 11), (203, .goto (-110), 206, 0, 93), (206, .iconst (0), 207, 0, 0), (207, .istore 11, 209, 0, 11), (209, .iload 11, 211, 0, 11), (211, .bipush (25), 213, 25, 0), (213, .if_icmp .ge (47), 216, 0, 260), (216, .iload 4, 218, 0, 4), (218, .iload 11, 220, 0, 11), (220, .iadd, 221, 0, 0), (221, .aload_n 0, 222, 0, 0), (222, .getfield 11, 225, 0, 0), (225, .arraylength, 226, 0, 0), (226, .if_icmp .ge (34), 229, 0, 260), (229, .aload_n 0, 230, 0, 0), (230, .getfield 11, 233, 0, 0), (233, .iload_n 3, 234, 0, 3), (234, .iload 11, 236, 0, 11), (236, .iadd, 237, 0, 0), (237, .aload_n 0, 238, 0, 0), (238, .getfield 11, 241, 0, 0), (241, .iload_n 3, 242, 0, 3), (242, .iload 11, 244, 0, 11), (244, .iadd, 245, 0, 0), (245, .iaload, 246, 0, 0), (246, .iload 10, 248, 0, 10), (248, .iconst (3), 249, 3, 0), (249, .iadd, 250, 0, 0), (250, .invokestatic 80, 253, 0, 0), (253, .iastore, 254, 0, 0), (254, .iinc 11 (1), 257, 1, 11), (257, .goto (-48), 260, 0, 209), (260, .return_, 261, 0, 0)], FL_ju)
def Y_ju_index : am_Y := (⟨"EarSchool$Judgement", "index", "(III)I"⟩, prog_4_method_6_code, 4, (some .int), [(0, .iload_n 1, 1, 0, 1), (1, .bipush (25), 3, 25, 0), (3, .imul, 4, 0, 0), (4, .iload_n 2, 5, 0, 2), (5, .iadd, 6, 0, 0), (6, .bipush (25), 8, 25, 0), (8, .imul, 9, 0, 0), (9, .iload_n 3, 10, 0, 3), (10, .iadd, 11, 0, 0), (11, .bipush (12), 13, 12, 0), (13, .iadd, 14, 0, 0), (14, .ireturn, 15, 0, 0)], FL_ju)
def Y_ju_from : am_Y := (⟨"EarSchool$Judgement", "from", "(III)I"⟩, prog_4_method_7_code, 5, (some .int), [(0, .aload_n 0, 1, 0, 0), (1, .iload_n 1, 2, 0, 1), (2, .iload_n 2, 3, 0, 2), (3, .iload_n 3, 4, 0, 3), (4, .invokevirtual 62, 7, 0, 0), (7, .istore 4, 9, 0, 4), (9, .iload 4, 11, 0, 4), (11, .iconst (0), 12, 0, 0), (12, .aload_n 0, 13, 0, 0), (13, .getfield 11, 16, 0, 0), (16, .arraylength, 17, 0, 0), (17, .iconst (1), 18, 1, 0), (18, .isub, 19, 0, 0), (19, .invokestatic 85, 22, 0, 0), (22, .ifCond .eq (8), 25, 0, 30), (25, .ldc 79, 27, 1000000, 683), (27, .goto (10), 30, 0, 37), (30, .aload_n 0, 31, 0, 0), (31, .getfield 11, 34, 0, 0), (34, .iload 4, 36, 0, 4), (36, .iaload, 37, 0, 0), (37, .ireturn, 38, 0, 0)], FL_ju)
def Y_ju_unshifted : am_Y := (⟨"EarSchool$Judgement", "unshifted", "(III)I"⟩, prog_4_method_8_code, 4, (some .int), [(0, .iload_n 1, 1, 0, 1), (1, .aload_n 0, 2, 0, 0), (2, .getfield 38, 5, 0, 0), (5, .getfield 45, 8, 0, 0), (8, .if_icmp .lt (16), 11, 0, 24), (11, .iload_n 2, 12, 0, 2), (12, .aload_n 0, 13, 0, 0), (13, .getfield 42, 16, 0, 0), (16, .getfield 45, 19, 0, 0), (19, .if_icmp .lt (5), 22, 0, 24), (22, .iconst (0), 23, 0, 0), (23, .ireturn, 24, 0, 0), (24, .aload_n 0, 25, 0, 0), (25, .iload_n 1, 26, 0, 1), (26, .iload_n 2, 27, 0, 2), (27, .iload_n 3, 28, 0, 3), (28, .invokevirtual 89, 31, 0, 0), (31, .aload_n 0, 32, 0, 0), (32, .iload_n 1, 33, 0, 1), (33, .iload_n 2, 34, 0, 2), (34, .iload_n 3, 35, 0, 3), (35, .invokevirtual 92, 38, 0, 0), (38, .aload_n 0, 39, 0, 0), (39, .iload_n 1, 40, 0, 1), (40, .iload_n 2, 41, 0, 2), (41, .iload_n 3, 42, 0, 3), (42, .invokevirtual 95, 45, 0, 0), (45, .invokestatic 80, 48, 0, 0), (48, .invokestatic 80, 51, 0, 0), (51, .ireturn, 52, 0, 0)], FL_ju)
def Y_ju_byHit : am_Y := (⟨"EarSchool$Judgement", "byHit", "(III)I"⟩, prog_4_method_9_code, 4, (some .int), [(0, .iload_n 1, 1, 0, 1), (1, .aload_n 0, 2, 0, 0), (2, .getfield 38, 5, 0, 0), (5, .getfield 45, 8, 0, 0), (8, .if_icmp .ge (14), 11, 0, 22), (11, .iload_n 2, 12, 0, 2), (12, .aload_n 0, 13, 0, 0), (13, .getfield 42, 16, 0, 0), (16, .getfield 45, 19, 0, 0), (19, .if_icmp .lt (6), 22, 0, 25), (22, .ldc 79, 24, 1000000, 683), (24, .ireturn, 25, 0, 0), (25, .aload_n 0, 26, 0, 0), (26, .iload_n 1, 27, 0, 1), (27, .iload_n 2, 28, 0, 2), (28, .iload_n 3, 29, 0, 3), (29, .invokevirtual 98, 32, 0, 0), (32, .aload_n 0, 33, 0, 0), (33, .iload_n 1, 34, 0, 1), (34, .iconst (1), 35, 1, 0), (35, .iadd, 36, 0, 0), (36, .iload_n 2, 37, 0, 2), (37, .iconst (1), 38, 1, 0), (38, .iadd, 39, 0, 0), (39, .iload_n 3, 40, 0, 3), (40, .invokevirtual 58, 43, 0, 0), (43, .iadd, 44, 0, 0), (44, .ireturn, 45, 0, 0)], FL_ju)
def Y_ju_byLost : am_Y := (⟨"EarSchool$Judgement", "byLost", "(III)I"⟩, prog_4_method_10_code, 4, (some .int), [(0, .iload_n 1, 1, 0, 1), (1, .aload_n 0, 2, 0, 0), (2, .getfield 38, 5, 0, 0), (5, .getfield 45, 8, 0, 0), (8, .if_icmp .lt (8), 11, 0, 16), (11, .ldc 79, 13, 1000000, 683), (13, .goto (14), 16, 0, 27), (16, .iconst (3), 17, 3, 0), (17, .aload_n 0, 18, 0, 0), (18, .iload_n 1, 19, 0, 1), (19, .iconst (1), 20, 1, 0), (20, .iadd, 21, 0, 0), (21, .iload_n 2, 22, 0, 2), (22, .iload_n 3, 23, 0, 3), (23, .invokevirtual 58, 26, 0, 0), (26, .iadd, 27, 0, 0), (27, .ireturn, 28, 0, 0)], FL_ju)
def Y_ju_byMore : am_Y := (⟨"EarSchool$Judgement", "byMore", "(III)I"⟩, prog_4_method_11_code, 4, (some .int), [(0, .iload_n 2, 1, 0, 2), (1, .aload_n 0, 2, 0, 0), (2, .getfield 42, 5, 0, 0), (5, .getfield 45, 8, 0, 0), (8, .if_icmp .lt (8), 11, 0, 16), (11, .ldc 79, 13, 1000000, 683), (13, .goto (18), 16, 0, 31), (16, .aload_n 0, 17, 0, 0), (17, .iload_n 2, 18, 0, 2), (18, .invokevirtual 75, 21, 0, 0), (21, .aload_n 0, 22, 0, 0), (22, .iload_n 1, 23, 0, 1), (23, .iload_n 2, 24, 0, 2), (24, .iconst (1), 25, 1, 0), (25, .iadd, 26, 0, 0), (26, .iload_n 3, 27, 0, 3), (27, .invokevirtual 58, 30, 0, 0), (30, .iadd, 31, 0, 0), (31, .ireturn, 32, 0, 0)], FL_ju)
def Y_ju_hitCost : am_Y := (⟨"EarSchool$Judgement", "hitCost", "(III)I"⟩, prog_4_method_12_code, 4, (some .int), [(0, .aload_n 0, 1, 0, 0), (1, .iload_n 1, 2, 0, 1), (2, .iload_n 2, 3, 0, 2), (3, .invokevirtual 71, 6, 0, 0), (6, .aload_n 0, 7, 0, 0), (7, .getfield 42, 10, 0, 0), (10, .getfield 68, 13, 0, 0), (13, .iload_n 2, 14, 0, 2), (14, .iaload, 15, 0, 0), (15, .aload_n 0, 16, 0, 0), (16, .getfield 38, 19, 0, 0), (19, .getfield 68, 22, 0, 0), (22, .iload_n 1, 23, 0, 1), (23, .iaload, 24, 0, 0), (24, .iload_n 3, 25, 0, 3), (25, .iadd, 26, 0, 0), (26, .if_icmp .ne (7), 29, 0, 33), (29, .iconst (0), 30, 0, 0), (30, .goto (4), 33, 0, 34), (33, .iconst (2), 34, 2, 0), (34, .iadd, 35, 0, 0), (35, .ireturn, 36, 0, 0)], FL_ju)
def Y_ju_lengthCost : am_Y := (⟨"EarSchool$Judgement", "lengthCost", "(II)I"⟩, prog_4_method_13_code, 3, (some .int), [(0, .aload_n 0, 1, 0, 0), (1, .getfield 42, 4, 0, 0), (4, .getfield 101, 7, 0, 0), (7, .iload_n 2, 8, 0, 2), (8, .iaload, 9, 0, 0), (9, .aload_n 0, 10, 0, 0), (10, .getfield 38, 13, 0, 0), (13, .getfield 101, 16, 0, 0), (16, .iload_n 1, 17, 0, 1), (17, .iaload, 18, 0, 0), (18, .if_icmp .ne (7), 21, 0, 25), (21, .iconst (0), 22, 0, 0), (22, .goto (4), 25, 0, 26), (25, .iconst (1), 26, 1, 0), (26, .ireturn, 27, 0, 0)], FL_ju)
def Y_ju_moreCost : am_Y := (⟨"EarSchool$Judgement", "moreCost", "(I)I"⟩, prog_4_method_14_code, 3, (some .int), [(0, .iload_n 1, 1, 0, 1), (1, .ifCond .le (53), 4, 0, 54), (4, .aload_n 0, 5, 0, 0), (5, .getfield 42, 8, 0, 0), (8, .getfield 68, 11, 0, 0), (11, .iload_n 1, 12, 0, 1), (12, .iaload, 13, 0, 0), (13, .aload_n 0, 14, 0, 0), (14, .getfield 42, 17, 0, 0), (17, .getfield 68, 20, 0, 0), (20, .iload_n 1, 21, 0, 1), (21, .iconst (1), 22, 1, 0), (22, .isub, 23, 0, 0), (23, .iaload, 24, 0, 0), (24, .if_icmp .ne (30), 27, 0, 54), (27, .aload_n 0, 28, 0, 0), (28, .getfield 42, 31, 0, 0), (31, .getfield 101, 34, 0, 0), (34, .iload_n 1, 35, 0, 1), (35, .iaload, 36, 0, 0), (36, .aload_n 0, 37, 0, 0), (37, .getfield 42, 40, 0, 0), (40, .getfield 101, 43, 0, 0), (43, .iload_n 1, 44, 0, 1), (44, .iconst (1), 45, 1, 0), (45, .isub, 46, 0, 0), (46, .iaload, 47, 0, 0), (47, .if_icmp .ne (7), 50, 0, 54), (50, .iconst (1), 51, 1, 0), (51, .goto (4), 54, 0, 55), (54, .iconst (0), 55, 0, 0), (55, .istore_n 2, 56, 0, 2), (56, .iload_n 2, 57, 0, 2), (57, .ifCond .eq (7), 60, 0, 64), (60, .iconst (1), 61, 1, 0), (61, .goto (4), 64, 0, 65), (64, .iconst (3), 65, 3, 0), (65, .ireturn, 66, 0, 0)], FL_ju)
def Y_ju_readActs : am_Y := (⟨"EarSchool$Judgement", "readActs", "()V"⟩, prog_4_method_15_code, 7, none, [(0, .iconst (0), 1, 0, 0), (1, .istore_n 1, 2, 0, 1), (2, .iconst (0), 3, 0, 0), (3, .istore_n 2, 4, 0, 2), (4, .iconst (0), 5, 0, 0), (5, .istore_n 3, 6, 0, 3), (6, .iconst (0), 7, 0, 0), (7, .istore 4, 9, 0, 4), (9, .aload_n 0, 10, 0, 0), (10, .iconst (0), 11, 0, 0), (11, .putfield 27, 14, 0, 0), (14, .iconst (0), 15, 0, 0), (15, .istore 5, 17, 0, 5), (17, .iload 5, 19, 0, 5), (19, .bipush (96), 21, 96, 0), (21, .if_icmp .ge (145), 24, 0, 166), (24, .iload_n 1, 25, 0, 1), (25, .aload_n 0, 26, 0, 0), (26, .getfield 38, 29, 0, 0), (29, .getfield 45, 32, 0, 0), (32, .if_icmp .lt (14), 35, 0, 46), (35, .iload_n 2, 36, 0, 2), (36, .aload_n 0, 37, 0, 0), (37, .getfield 42, 40, 0, 0), (40, .getfield 45, 43, 0, 0), (43, .if_icmp .ge (123), 46, 0, 166), (46, .aload_n 0, 47, 0, 0), (47, .iload_n 1, 48, 0, 1), (48, .iload_n 2, 49, 0, 2), (49, .iload_n 3, 50, 0, 3), (50, .iload 4, 52, 0, 4), (52, .invokevirtual 104, 55, 0, 0), (55, .istore 6, 57, 0, 6), (57, .iload 6, 59, 0, 6), (59, .iconst (2), 60, 2, 0), (60, .if_icmp .le (7), 63, 0, 67), (63, .iconst (1), 64, 1, 0), (64, .goto (4), 67, 0, 68), (67, .iconst (0), 68, 0, 0), (68, .istore 4, 70, 0, 4), (70, .iload 6, 72, 0, 6), (72, .ifCond .ne (27), 75, 0, 99), (75, .aload_n 0, 76, 0, 0), (76, .iload 6, 78, 0, 6), (78, .iload_n 1, 79, 0, 1), (79, .iload_n 2, 80, 0, 2), (80, .aload_n 0, 81, 0, 0), (81, .iload_n 1, 82, 0, 1), (82, .iload_n 2, 83, 0, 2), (83, .iload_n 3, 84, 0, 3), (84, .invokevirtual 98, 87, 0, 0), (87, .invokevirtual 108, 90, 0, 0), (90, .iinc 1 (1), 93, 1, 1), (93, .iinc 2 (1), 96, 1, 2), (96, .goto (64), 99, 0, 160), (99, .iload 6, 101, 0, 6), (101, .iconst (1), 102, 1, 0), (102, .if_icmp .ne (18), 105, 0, 120), (105, .aload_n 0, 106, 0, 0), (106, .iload 6, 108, 0, 6), (108, .iload_n 1, 109, 0, 1), (109, .iconst (-1), 110, -1, 0), (110, .iconst (3), 111, 3, 0), (111, .invokevirtual 108, 114, 0, 0), (114, .iinc 1 (1), 117, 1, 1), (117, .goto (43), 120, 0, 160), (120, .iload 6, 122, 0, 6), (122, .iconst (2), 123, 2, 0), (123, .if_icmp .ne (22), 126, 0, 145), (126, .aload_n 0, 127, 0, 0), (127, .iload 6, 129, 0, 6), (129, .iconst (-1), 130, -1, 0), (130, .iload_n 2, 131, 0, 2), (131, .aload_n 0, 132, 0, 0), (132, .iload_n 2, 133, 0, 2), (133, .invokevirtual 75, 136, 0, 0), (136, .invokevirtual 108, 139, 0, 0), (139, .iinc 2 (1), 142, 1, 2), (142, .goto (18), 145, 0, 160), (145, .aload_n 0, 146, 0, 0), (146, .iload 6, 148, 0, 6), (148, .iconst (-1), 149, -1, 0), (149, .iconst (-1), 150, -1, 0), (150, .iconst (3), 151, 3, 0), (151, .invokevirtual 108, 154, 0, 0), (154, .iload 6, 156, 0, 6), (156, .bipush (15), 158, 15, 0), (158, .isub, 159, 0, 0), (159, .istore_n 3, 160, 0, 3), (160, .iinc 5 (1), 163, 1, 5), (163, .goto (-146), 166, 0, 17), (166, .return_, 167, 0, 0)], FL_ju)
def Y_ju_nextAct : am_Y := (⟨"EarSchool$Judgement", "nextAct", "(IIIZ)I"⟩, prog_4_method_16_code, 7, (some .int), [(0, .iload 4, 2, 0, 4), (2, .ifCond .eq (13), 5, 0, 15), (5, .aload_n 0, 6, 0, 0), (6, .iload_n 1, 7, 0, 1), (7, .iload_n 2, 8, 0, 2), (8, .iload_n 3, 9, 0, 3), (9, .invokevirtual 65, 12, 0, 0), (12, .goto (10), 15, 0, 22), (15, .aload_n 0, 16, 0, 0), (16, .iload_n 1, 17, 0, 1), (17, .iload_n 2, 18, 0, 2), (18, .iload_n 3, 19, 0, 3), (19, .invokevirtual 58, 22, 0, 0), (22, .istore 5, 24, 0, 5), (24, .aload_n 0, 25, 0, 0), (25, .iload_n 1, 26, 0, 1), (26, .iload_n 2, 27, 0, 2), (27, .iload_n 3, 28, 0, 3), (28, .invokevirtual 89, 31, 0, 0), (31, .iload 5, 33, 0, 5), (33, .if_icmp .ne (5), 36, 0, 38), (36, .iconst (0), 37, 0, 0), (37, .ireturn, 38, 0, 0), (38, .aload_n 0, 39, 0, 0), (39, .iload_n 1, 40, 0, 1), (40, .iload_n 2, 41, 0, 2), (41, .iload_n 3, 42, 0, 3), (42, .invokevirtual 92, 45, 0, 0), (45, .iload 5, 47, 0, 5), (47, .if_icmp .ne (5), 50, 0, 52), (50, .iconst (1), 51, 1, 0), (51, .ireturn, 52, 0, 0), (52, .aload_n 0, 53, 0, 0), (53, .iload_n 1, 54, 0, 1), (54, .iload_n 2, 55, 0, 2), (55, .iload_n 3, 56, 0, 3), (56, .invokevirtual 95, 59, 0, 0), (59, .iload 5, 61, 0, 5), (61, .if_icmp .ne (5), 64, 0, 66), (64, .iconst (2), 65, 2, 0), (65, .ireturn, 66, 0, 0), (66, .bipush (-12), 68, -12, 0), (68, .istore 6, 70, 0, 6), (70, .iload 6, 72, 0, 6), (72, .bipush (12), 74, 12, 0), (74, .if_icmp .ge (24), 77, 0, 98), (77, .iconst (3), 78, 3, 0), (78, .aload_n 0, 79, 0, 0), (79, .iload_n 1, 80, 0, 1), (80, .iload_n 2, 81, 0, 2), (81, .iload 6, 83, 0, 6), (83, .invokevirtual 65, 86, 0, 0), (86, .iadd, 87, 0, 0), (87, .iload 5, 89, 0, 5), (89, .if_icmp .eq (9), 92, 0, 98), (92, .iinc 6 (1), 95, 1, 6), (95, .goto (-25), 98, 0, 70), (98, .bipush (15), 100, 15, 0), (100, .iload 6, 102, 0, 6), (102, .iadd, 103, 0, 0), (103, .ireturn, 104, 0, 0)], FL_ju)
def Y_ju_push : am_Y := (⟨"EarSchool$Judgement", "push", "(IIII)V"⟩, prog_4_method_17_code, 5, none, [(0, .aload_n 0, 1, 0, 0), (1, .getfield 27, 4, 0, 0), (4, .bipush (96), 6, 96, 0), (6, .if_icmp .ge (54), 9, 0, 60), (9, .aload_n 0, 10, 0, 0), (10, .getfield 15, 13, 0, 0), (13, .aload_n 0, 14, 0, 0), (14, .getfield 27, 17, 0, 0), (17, .iload_n 1, 18, 0, 1), (18, .iastore, 19, 0, 0), (19, .aload_n 0, 20, 0, 0), (20, .getfield 18, 23, 0, 0), (23, .aload_n 0, 24, 0, 0), (24, .getfield 27, 27, 0, 0), (27, .iload_n 2, 28, 0, 2), (28, .iastore, 29, 0, 0), (29, .aload_n 0, 30, 0, 0), (30, .getfield 21, 33, 0, 0), (33, .aload_n 0, 34, 0, 0), (34, .getfield 27, 37, 0, 0), (37, .iload_n 3, 38, 0, 3), (38, .iastore, 39, 0, 0), (39, .aload_n 0, 40, 0, 0), (40, .getfield 24, 43, 0, 0), (43, .aload_n 0, 44, 0, 0), (44, .getfield 27, 47, 0, 0), (47, .iload 4, 49, 0, 4), (49, .iastore, 50, 0, 0), (50, .aload_n 0, 51, 0, 0), (51, .dup, 52, 0, 0), (52, .getfield 27, 55, 0, 0), (55, .iconst (1), 56, 1, 0), (56, .iadd, 57, 0, 0), (57, .putfield 27, 60, 0, 0), (60, .return_, 61, 0, 0)], FL_ju)
def Y_ju_missed : am_Y := (⟨"EarSchool$Judgement", "missed", "(I)Z"⟩, prog_4_method_18_code, 2, (some .boolean), [(0, .aload_n 0, 1, 0, 0), (1, .getfield 15, 4, 0, 0), (4, .iload_n 1, 5, 0, 1), (5, .iaload, 6, 0, 0), (6, .iconst (1), 7, 1, 0), (7, .if_icmp .eq (22), 10, 0, 29), (10, .aload_n 0, 11, 0, 0), (11, .getfield 15, 14, 0, 0), (14, .iload_n 1, 15, 0, 1), (15, .iaload, 16, 0, 0), (16, .ifCond .ne (17), 19, 0, 33), (19, .aload_n 0, 20, 0, 0), (20, .getfield 24, 23, 0, 0), (23, .iload_n 1, 24, 0, 1), (24, .iaload, 25, 0, 0), (25, .iconst (2), 26, 2, 0), (26, .if_icmp .lt (7), 29, 0, 33), (29, .iconst (1), 30, 1, 0), (30, .goto (4), 33, 0, 34), (33, .iconst (0), 34, 0, 0), (34, .ireturn, 35, 0, 0)], FL_ju)
def Y_mt_forget : am_Y := (⟨"EarSchool$MelodyTable", "forget", "()V"⟩, prog_5_method_6_code, 1, none, [(0, .aload_n 0, 1, 0, 0), (1, .iconst (0), 2, 0, 0), (2, .putfield 17, 5, 0, 0), (5, .return_, 6, 0, 0)], FL_mt)
def Y_mt_fill : am_Y := (⟨"EarSchool$MelodyTable", "fill", "()V"⟩, prog_5_method_7_code, 3, none, [(0, .aload_n 0, 1, 0, 0), (1, .getfield 17, 4, 0, 0), (4, .ifCond .eq (4), 7, 0, 8), (7, .return_, 8, 0, 0), (8, .aload_n 0, 9, 0, 0), (9, .getfield 21, 12, 0, 0), (12, .getfield 25, 15, 0, 0), (15, .iconst (1), 16, 1, 0), (16, .isub, 17, 0, 0), (17, .istore_n 1, 18, 0, 1), (18, .iload_n 1, 19, 0, 1), (19, .ifCond .lt (40), 22, 0, 59), (22, .aload_n 0, 23, 0, 0), (23, .getfield 21, 26, 0, 0), (26, .getfield 29, 29, 0, 0), (29, .istore_n 2, 30, 0, 2), (30, .iload_n 2, 31, 0, 2), (31, .aload_n 0, 32, 0, 0), (32, .getfield 21, 35, 0, 0), (35, .getfield 32, 38, 0, 0), (38, .if_icmp .gt (15), 41, 0, 53), (41, .aload_n 0, 42, 0, 0), (42, .iload_n 1, 43, 0, 1), (43, .iload_n 2, 44, 0, 2), (44, .invokevirtual 35, 47, 0, 0), (47, .iinc 2 (1), 50, 1, 2), (50, .goto (-20), 53, 0, 30), (53, .iinc 1 (-1), 56, -1, 1), (56, .goto (-38), 59, 0, 18), (59, .aload_n 0, 60, 0, 0), (60, .iconst (1), 61, 1, 0), (61, .putfield 17, 64, 0, 0), (64, .return_, 65, 0, 0)], FL_mt)
def Y_mt_fillPitch : am_Y := (⟨"EarSchool$MelodyTable", "fillPitch", "(II)V"⟩, prog_5_method_8_code, 6, none, [(0, .aload_n 0, 1, 0, 0), (1, .getfield 21, 4, 0, 0), (4, .iload_n 1, 5, 0, 1), (5, .iload_n 2, 6, 0, 2), (6, .invokevirtual 39, 9, 0, 0), (9, .ifCond .ne (14), 12, 0, 23), (12, .aload_n 0, 13, 0, 0), (13, .iload_n 1, 14, 0, 1), (14, .iload_n 2, 15, 0, 2), (15, .aload_n 0, 16, 0, 0), (16, .invokevirtual 43, 19, 0, 0), (19, .invokevirtual 47, 22, 0, 0), (22, .return_, 23, 0, 0), (23, .iload_n 1, 24, 0, 1), (24, .aload_n 0, 25, 0, 0), (25, .getfield 21, 28, 0, 0), (28, .getfield 25, 31, 0, 0), (31, .iconst (1), 32, 1, 0), (32, .isub, 33, 0, 0), (33, .if_icmp .ne (14), 36, 0, 47), (36, .aload_n 0, 37, 0, 0), (37, .iload_n 1, 38, 0, 1), (38, .iload_n 2, 39, 0, 2), (39, .aload_n 0, 40, 0, 0), (40, .invokevirtual 51, 43, 0, 0), (43, .invokevirtual 47, 46, 0, 0), (46, .return_, 47, 0, 0), (47, .aload_n 0, 48, 0, 0), (48, .invokevirtual 43, 51, 0, 0), (51, .lstore_n 3, 52, 0, 3), (52, .bipush (-12), 54, -12, 0), (54, .istore 5, 56, 0, 5), (56, .iload 5, 58, 0, 5), (58, .bipush (12), 60, 12, 0), (60, .if_icmp .gt (29), 63, 0, 89), (63, .iload 5, 65, 0, 5), (65, .ifCond .eq (18), 68, 0, 83), (68, .aload_n 0, 69, 0, 0), (69, .lload_n 3, 70, 0, 3), (70, .aload_n 0, 71, 0, 0), (71, .iload_n 1, 72, 0, 1), (72, .iload_n 2, 73, 0, 2), (73, .iconst (0), 74, 0, 0), (74, .iload 5, 76, 0, 5), (76, .invokevirtual 54, 79, 0, 0), (79, .invokevirtual 58, 82, 0, 0), (82, .lstore_n 3, 83, 0, 3), (83, .iinc 5 (1), 86, 1, 5), (86, .goto (-30), 89, 0, 56), (89, .iconst (0), 90, 0, 0), (90, .istore 5, 92, 0, 5), (92, .iload 5, 94, 0, 5), (94, .iload_n 1, 95, 0, 1), (95, .aload_n 0, 96, 0, 0), (96, .getfield 21, 99, 0, 0), (99, .getfield 62, 102, 0, 0), (102, .invokestatic 65, 105, 0, 0), (105, .if_icmp .gt (31), 108, 0, 136), (108, .aload_n 0, 109, 0, 0), (109, .iload_n 1, 110, 0, 1), (110, .iload_n 2, 111, 0, 2), (111, .iload 5, 113, 0, 5), (113, .aload_n 0, 114, 0, 0), (114, .lload_n 3, 115, 0, 3), (115, .aload_n 0, 116, 0, 0), (116, .iload_n 1, 117, 0, 1), (117, .iload_n 2, 118, 0, 2), (118, .iload 5, 120, 0, 5), (120, .iconst (0), 121, 0, 0), (121, .invokevirtual 54, 124, 0, 0), (124, .invokevirtual 58, 127, 0, 0), (127, .invokevirtual 71, 130, 0, 0), (130, .iinc 5 (1), 133, 1, 5), (133, .goto (-41), 136, 0, 92), (136, .aload_n 0, 137, 0, 0), (137, .iload_n 1, 138, 0, 1), (138, .iload_n 2, 139, 0, 2), (139, .bipush (16), 141, 16, 0), (141, .aload_n 0, 142, 0, 0), (142, .aload_n 0, 143, 0, 0), (143, .iload_n 1, 144, 0, 1), (144, .iload_n 2, 145, 0, 2), (145, .bipush (16), 147, 16, 0), (147, .bipush (-2), 149, -2, 0), (149, .invokevirtual 54, 152, 0, 0), (152, .aload_n 0, 153, 0, 0), (153, .iload_n 1, 154, 0, 1), (154, .iload_n 2, 155, 0, 2), (155, .bipush (16), 157, 16, 0), (157, .iconst (-1), 158, -1, 0), (158, .invokevirtual 54, 161, 0, 0), (161, .invokevirtual 58, 164, 0, 0), (164, .invokevirtual 71, 167, 0, 0), (167, .aload_n 0, 168, 0, 0), (168, .iload_n 1, 169, 0, 1), (169, .iload_n 2, 170, 0, 2), (170, .bipush (17), 172, 17, 0), (172, .aload_n 0, 173, 0, 0), (173, .aload_n 0, 174, 0, 0), (174, .iload_n 1, 175, 0, 1), (175, .iload_n 2, 176, 0, 2), (176, .bipush (17), 178, 17, 0), (178, .iconst (1), 179, 1, 0), (179, .invokevirtual 54, 182, 0, 0), (182, .aload_n 0, 183, 0, 0), (183, .iload_n 1, 184, 0, 1), (184, .iload_n 2, 185, 0, 2), (185, .bipush (17), 187, 17, 0), (187, .iconst (2), 188, 2, 0), (188, .invokevirtual 54, 191, 0, 0), (191, .invokevirtual 58, 194, 0, 0), (194, .invokevirtual 71, 197, 0, 0), (197, .return_, 198, 0, 0)], FL_mt)
def Y_mt_fillStates : am_Y := (⟨"EarSchool$MelodyTable", "fillStates", "(IIJ)V"⟩, prog_5_method_9_code, 6, none, [(0, .iconst (0), 1, 0, 0), (1, .istore 5, 3, 0, 5), (3, .iload 5, 5, 0, 5), (5, .bipush (18), 7, 18, 0), (7, .if_icmp .ge (18), 10, 0, 25), (10, .aload_n 0, 11, 0, 0), (11, .iload_n 1, 12, 0, 1), (12, .iload_n 2, 13, 0, 2), (13, .iload 5, 15, 0, 5), (15, .lload_n 3, 16, 0, 3), (16, .invokevirtual 71, 19, 0, 0), (19, .iinc 5 (1), 22, 1, 5), (22, .goto (-19), 25, 0, 3), (25, .return_, 26, 0, 0)], FL_mt)
def Y_mt_index : am_Y := (⟨"EarSchool$MelodyTable", "index", "(III)I"⟩, prog_5_method_10_code, 4, (some .int), [(0, .iload_n 1, 1, 0, 1), (1, .bipush (37), 3, 37, 0), (3, .imul, 4, 0, 0), (4, .iload_n 2, 5, 0, 2), (5, .iadd, 6, 0, 0), (6, .aload_n 0, 7, 0, 0), (7, .getfield 21, 10, 0, 0), (10, .getfield 29, 13, 0, 0), (13, .isub, 14, 0, 0), (14, .bipush (18), 16, 18, 0), (16, .imul, 17, 0, 0), (17, .iload_n 3, 18, 0, 3), (18, .iadd, 19, 0, 0), (19, .ireturn, 20, 0, 0)], FL_mt)
def Y_mt_put : am_Y := (⟨"EarSchool$MelodyTable", "put", "(IIIJ)V"⟩, prog_5_method_11_code, 7, none, [(0, .aload_n 0, 1, 0, 0), (1, .iload_n 1, 2, 0, 1), (2, .iload_n 2, 3, 0, 2), (3, .iload_n 3, 4, 0, 3), (4, .invokevirtual 75, 7, 0, 0), (7, .istore 6, 9, 0, 6), (9, .iload 6, 11, 0, 6), (11, .iconst (0), 12, 0, 0), (12, .aload_n 0, 13, 0, 0), (13, .getfield 13, 16, 0, 0), (16, .arraylength, 17, 0, 0), (17, .iconst (1), 18, 1, 0), (18, .isub, 19, 0, 0), (19, .invokestatic 79, 22, 0, 0), (22, .ifCond .ne (12), 25, 0, 34), (25, .aload_n 0, 26, 0, 0), (26, .getfield 13, 29, 0, 0), (29, .iload 6, 31, 0, 6), (31, .lload 4, 33, 0, 4), (33, .lastore, 34, 0, 0), (34, .return_, 35, 0, 0)], FL_mt)
def Y_mt_from : am_Y := (⟨"EarSchool$MelodyTable", "from", "(III)J"⟩, prog_5_method_12_code, 5, (some .long), [(0, .aload_n 0, 1, 0, 0), (1, .iload_n 1, 2, 0, 1), (2, .iload_n 2, 3, 0, 2), (3, .iload_n 3, 4, 0, 3), (4, .invokevirtual 75, 7, 0, 0), (7, .istore 4, 9, 0, 4), (9, .iload 4, 11, 0, 4), (11, .iconst (0), 12, 0, 0), (12, .aload_n 0, 13, 0, 0), (13, .getfield 13, 16, 0, 0), (16, .arraylength, 17, 0, 0), (17, .iconst (1), 18, 1, 0), (18, .isub, 19, 0, 0), (19, .invokestatic 79, 22, 0, 0), (22, .ifCond .eq (10), 25, 0, 32), (25, .aload_n 0, 26, 0, 0), (26, .invokevirtual 43, 29, 0, 0), (29, .goto (10), 32, 0, 39), (32, .aload_n 0, 33, 0, 0), (33, .getfield 13, 36, 0, 0), (36, .iload 4, 38, 0, 4), (38, .laload, 39, 0, 0), (39, .lreturn, 40, 0, 0)], FL_mt)
def Y_mt_byStep : am_Y := (⟨"EarSchool$MelodyTable", "byStep", "(IIII)J"⟩, prog_5_method_13_code, 5, (some .long), [(0, .iload_n 2, 1, 0, 2), (1, .iload 4, 3, 0, 4), (3, .iadd, 4, 0, 0), (4, .aload_n 0, 5, 0, 0), (5, .getfield 21, 8, 0, 0), (8, .getfield 29, 11, 0, 0), (11, .aload_n 0, 12, 0, 0), (12, .getfield 21, 15, 0, 0), (15, .getfield 32, 18, 0, 0), (18, .invokestatic 79, 21, 0, 0), (21, .ifCond .ne (16), 24, 0, 37), (24, .aload_n 0, 25, 0, 0), (25, .getfield 21, 28, 0, 0), (28, .iload_n 3, 29, 0, 3), (29, .iload 4, 31, 0, 4), (31, .invokevirtual 83, 34, 0, 0), (34, .ifCond .ne (8), 37, 0, 42), (37, .aload_n 0, 38, 0, 0), (38, .invokevirtual 43, 41, 0, 0), (41, .lreturn, 42, 0, 0), (42, .aload_n 0, 43, 0, 0), (43, .iload 4, 45, 0, 4), (45, .aload_n 0, 46, 0, 0), (46, .iload_n 1, 47, 0, 1), (47, .iconst (1), 48, 1, 0), (48, .iadd, 49, 0, 0), (49, .iload_n 2, 50, 0, 2), (50, .iload 4, 52, 0, 4), (52, .iadd, 53, 0, 0), (53, .aload_n 0, 54, 0, 0), (54, .getfield 21, 57, 0, 0), (57, .iload_n 3, 58, 0, 3), (58, .iload 4, 60, 0, 4), (60, .invokevirtual 86, 63, 0, 0), (63, .invokevirtual 89, 66, 0, 0), (66, .invokevirtual 93, 69, 0, 0), (69, .lreturn, 70, 0, 0)], FL_mt)
def Y_mt_onward : am_Y := (⟨"EarSchool$MelodyTable", "onward", "(IIII)J"⟩, prog_5_method_14_code, 5, (some .long), [(0, .iload_n 1, 1, 0, 1), (1, .ifCond .le (17), 4, 0, 18), (4, .aload_n 0, 5, 0, 0), (5, .iload_n 1, 6, 0, 1), (6, .iconst (1), 7, 1, 0), (7, .isub, 8, 0, 0), (8, .iload_n 2, 9, 0, 2), (9, .iload_n 3, 10, 0, 3), (10, .iload 4, 12, 0, 4), (12, .iload_n 2, 13, 0, 2), (13, .isub, 14, 0, 0), (14, .invokevirtual 54, 17, 0, 0), (17, .lreturn, 18, 0, 0), (18, .iload 4, 20, 0, 4), (20, .aload_n 0, 21, 0, 0), (21, .getfield 21, 24, 0, 0), (24, .getfield 29, 27, 0, 0), (27, .aload_n 0, 28, 0, 0), (28, .getfield 21, 31, 0, 0), (31, .getfield 32, 34, 0, 0), (34, .invokestatic 79, 37, 0, 0), (37, .ifCond .eq (10), 40, 0, 47), (40, .aload_n 0, 41, 0, 0), (41, .invokevirtual 43, 44, 0, 0), (44, .goto (11), 47, 0, 55), (47, .aload_n 0, 48, 0, 0), (48, .iconst (0), 49, 0, 0), (49, .iload 4, 51, 0, 4), (51, .iconst (0), 52, 0, 0), (52, .invokevirtual 89, 55, 0, 0), (55, .lreturn, 56, 0, 0)], FL_mt)
def Y_mt_stateAt : am_Y := (⟨"EarSchool$MelodyTable", "stateAt", "(IIII)I"⟩, prog_5_method_15_code, 5, (some .int), [(0, .iload_n 1, 1, 0, 1), (1, .ifCond .ne (7), 4, 0, 8), (4, .iconst (0), 5, 0, 0), (5, .goto (15), 8, 0, 20), (8, .aload_n 0, 9, 0, 0), (9, .getfield 21, 12, 0, 0), (12, .iload_n 3, 13, 0, 3), (13, .iload 4, 15, 0, 4), (15, .iload_n 2, 16, 0, 2), (16, .isub, 17, 0, 0), (17, .invokevirtual 86, 20, 0, 0), (20, .ireturn, 21, 0, 0)], FL_mt)
def Y_mt_total : am_Y := (⟨"EarSchool$MelodyTable", "total", "()J"⟩, prog_5_method_16_code, 4, (some .long), [(0, .aload_n 0, 1, 0, 0), (1, .invokevirtual 43, 4, 0, 0), (4, .lstore_n 1, 5, 0, 1), (5, .aload_n 0, 6, 0, 0), (6, .getfield 21, 9, 0, 0), (9, .getfield 29, 12, 0, 0), (12, .istore_n 3, 13, 0, 3), (13, .iload_n 3, 14, 0, 3), (14, .aload_n 0, 15, 0, 0), (15, .getfield 21, 18, 0, 0), (18, .getfield 32, 21, 0, 0), (21, .if_icmp .gt (22), 24, 0, 43), (24, .aload_n 0, 25, 0, 0), (25, .lload_n 1, 26, 0, 1), (26, .aload_n 0, 27, 0, 0), (27, .iconst (0), 28, 0, 0), (28, .iload_n 3, 29, 0, 3), (29, .iconst (0), 30, 0, 0), (30, .invokevirtual 89, 33, 0, 0), (33, .invokevirtual 58, 36, 0, 0), (36, .lstore_n 1, 37, 0, 1), (37, .iinc 3 (1), 40, 1, 3), (40, .goto (-27), 43, 0, 13), (43, .lload_n 1, 44, 0, 1), (44, .lreturn, 45, 0, 0)], FL_mt)
def Y_me_has : am_Y := (⟨"EarSchool$Metre", "has", "(I)Z"⟩, prog_6_method_2_code, 3, (some .boolean), [(0, .iconst (0), 1, 0, 0), (1, .istore_n 2, 2, 0, 2), (2, .iload_n 2, 3, 0, 2), (3, .aload_n 0, 4, 0, 0), (4, .getfield 15, 7, 0, 0), (7, .if_icmp .ge (21), 10, 0, 28), (10, .aload_n 0, 11, 0, 0), (11, .getfield 11, 14, 0, 0), (14, .iload_n 2, 15, 0, 2), (15, .iaload, 16, 0, 0), (16, .iload_n 1, 17, 0, 1), (17, .if_icmp .ne (5), 20, 0, 22), (20, .iconst (1), 21, 1, 0), (21, .ireturn, 22, 0, 0), (22, .iinc 2 (1), 25, 1, 2), (25, .goto (-23), 28, 0, 2), (28, .iconst (0), 29, 0, 0), (29, .ireturn, 30, 0, 0)], FL_me)
def Y_me_add : am_Y := (⟨"EarSchool$Metre", "add", "(I)V"⟩, prog_6_method_3_code, 3, none, [(0, .aload_n 0, 1, 0, 0), (1, .getfield 15, 4, 0, 0), (4, .bipush (6), 6, 6, 0), (6, .if_icmp .lt (4), 9, 0, 10), (9, .return_, 10, 0, 0), (10, .aload_n 0, 11, 0, 0), (11, .getfield 15, 14, 0, 0), (14, .istore_n 2, 15, 0, 2), (15, .iload_n 2, 16, 0, 2), (16, .ifCond .le (35), 19, 0, 51), (19, .aload_n 0, 20, 0, 0), (20, .getfield 11, 23, 0, 0), (23, .iload_n 2, 24, 0, 2), (24, .iconst (1), 25, 1, 0), (25, .isub, 26, 0, 0), (26, .iaload, 27, 0, 0), (27, .iload_n 1, 28, 0, 1), (28, .if_icmp .le (23), 31, 0, 51), (31, .aload_n 0, 32, 0, 0), (32, .getfield 11, 35, 0, 0), (35, .iload_n 2, 36, 0, 2), (36, .aload_n 0, 37, 0, 0), (37, .getfield 11, 40, 0, 0), (40, .iload_n 2, 41, 0, 2), (41, .iconst (1), 42, 1, 0), (42, .isub, 43, 0, 0), (43, .iaload, 44, 0, 0), (44, .iastore, 45, 0, 0), (45, .iinc 2 (-1), 48, -1, 2), (48, .goto (-33), 51, 0, 15), (51, .aload_n 0, 52, 0, 0), (52, .getfield 11, 55, 0, 0), (55, .iload_n 2, 56, 0, 2), (56, .iload_n 1, 57, 0, 1), (57, .iastore, 58, 0, 0), (58, .aload_n 0, 59, 0, 0), (59, .dup, 60, 0, 0), (60, .getfield 15, 63, 0, 0), (63, .iconst (1), 64, 1, 0), (64, .iadd, 65, 0, 0), (65, .putfield 15, 68, 0, 0), (68, .aload_n 0, 69, 0, 0), (69, .iconst (0), 70, 0, 0), (70, .putfield 25, 73, 0, 0), (73, .return_, 74, 0, 0)], FL_me)
def Y_me_remove : am_Y := (⟨"EarSchool$Metre", "remove", "(I)V"⟩, prog_6_method_4_code, 4, none, [(0, .iconst (0), 1, 0, 0), (1, .istore_n 2, 2, 0, 2), (2, .iconst (0), 3, 0, 0), (3, .istore_n 3, 4, 0, 3), (4, .iload_n 3, 5, 0, 3), (5, .aload_n 0, 6, 0, 0), (6, .getfield 15, 9, 0, 0), (9, .if_icmp .ge (34), 12, 0, 43), (12, .aload_n 0, 13, 0, 0), (13, .getfield 11, 16, 0, 0), (16, .iload_n 3, 17, 0, 3), (17, .iaload, 18, 0, 0), (18, .iload_n 1, 19, 0, 1), (19, .if_icmp .eq (18), 22, 0, 37), (22, .aload_n 0, 23, 0, 0), (23, .getfield 11, 26, 0, 0), (26, .iload_n 2, 27, 0, 2), (27, .aload_n 0, 28, 0, 0), (28, .getfield 11, 31, 0, 0), (31, .iload_n 3, 32, 0, 3), (32, .iaload, 33, 0, 0), (33, .iastore, 34, 0, 0), (34, .iinc 2 (1), 37, 1, 2), (37, .iinc 3 (1), 40, 1, 3), (40, .goto (-36), 43, 0, 4), (43, .aload_n 0, 44, 0, 0), (44, .iload_n 2, 45, 0, 2), (45, .putfield 15, 48, 0, 0), (48, .aload_n 0, 49, 0, 0), (49, .iconst (0), 50, 0, 0), (50, .putfield 25, 53, 0, 0), (53, .return_, 54, 0, 0)], FL_me)
def Y_me_fill : am_Y := (⟨"EarSchool$Metre", "fill", "()V"⟩, prog_6_method_5_code, 3, none, [(0, .aload_n 0, 1, 0, 0), (1, .getfield 25, 4, 0, 0), (4, .ifCond .eq (4), 7, 0, 8), (7, .return_, 8, 0, 0), (8, .iconst (0), 9, 0, 0), (9, .istore_n 1, 10, 0, 1), (10, .iload_n 1, 11, 0, 1), (11, .bipush (24), 13, 24, 0), (13, .if_icmp .gt (51), 16, 0, 64), (16, .iconst (0), 17, 0, 0), (17, .istore_n 2, 18, 0, 2), (18, .iload_n 2, 19, 0, 2), (19, .aload_n 0, 20, 0, 0), (20, .getfield 19, 23, 0, 0), (23, .if_icmp .ge (20), 26, 0, 43), (26, .aload_n 0, 27, 0, 0), (27, .iload_n 1, 28, 0, 1), (28, .iload_n 2, 29, 0, 2), (29, .aload_n 0, 30, 0, 0), (30, .getfield 22, 33, 0, 0), (33, .imul, 34, 0, 0), (34, .invokevirtual 33, 37, 0, 0), (37, .iinc 2 (1), 40, 1, 2), (40, .goto (-22), 43, 0, 18), (43, .aload_n 0, 44, 0, 0), (44, .iload_n 1, 45, 0, 1), (45, .aload_n 0, 46, 0, 0), (46, .getfield 19, 49, 0, 0), (49, .aload_n 0, 50, 0, 0), (50, .getfield 22, 53, 0, 0), (53, .imul, 54, 0, 0), (54, .lconst 1, 55, 1, 0), (55, .invokevirtual 37, 58, 0, 0), (58, .iinc 1 (1), 61, 1, 1), (61, .goto (-51), 64, 0, 10), (64, .aload_n 0, 65, 0, 0), (65, .iconst (1), 66, 1, 0), (66, .putfield 25, 69, 0, 0), (69, .return_, 70, 0, 0)], FL_me)
def Y_me_fillBar : am_Y := (⟨"EarSchool$Metre", "fillBar", "(II)V"⟩, prog_6_method_6_code, 7, none, [(0, .iconst (0), 1, 0, 0), (1, .istore_n 3, 2, 0, 3), (2, .iload_n 3, 3, 0, 3), (3, .aload_n 0, 4, 0, 0), (4, .getfield 22, 7, 0, 0), (7, .if_icmp .ge (68), 10, 0, 75), (10, .lconst 0, 11, 0, 0), (11, .lstore 4, 13, 0, 4), (13, .iconst (0), 14, 0, 0), (14, .istore 6, 16, 0, 6), (16, .iload 6, 18, 0, 6), (18, .aload_n 0, 19, 0, 0), (19, .getfield 15, 22, 0, 0), (22, .if_icmp .ge (37), 25, 0, 59), (25, .lload 4, 27, 0, 4), (27, .aload_n 0, 28, 0, 0), (28, .iload_n 1, 29, 0, 1), (29, .iload_n 2, 30, 0, 2), (30, .iload_n 3, 31, 0, 3), (31, .iadd, 32, 0, 0), (32, .aload_n 0, 33, 0, 0), (33, .getfield 22, 36, 0, 0), (36, .iload_n 3, 37, 0, 3), (37, .isub, 38, 0, 0), (38, .aload_n 0, 39, 0, 0), (39, .getfield 11, 42, 0, 0), (42, .iload 6, 44, 0, 6), (44, .iaload, 45, 0, 0), (45, .invokevirtual 41, 48, 0, 0), (48, .invokestatic 45, 51, 0, 0), (51, .lstore 4, 53, 0, 4), (53, .iinc 6 (1), 56, 1, 6), (56, .goto (-40), 59, 0, 16), (59, .aload_n 0, 60, 0, 0), (60, .iload_n 1, 61, 0, 1), (61, .iload_n 2, 62, 0, 2), (62, .iload_n 3, 63, 0, 3), (63, .iadd, 64, 0, 0), (64, .lload 4, 66, 0, 4), (66, .invokevirtual 37, 69, 0, 0), (69, .iinc 3 (1), 72, 1, 3), (72, .goto (-70), 75, 0, 2), (75, .return_, 76, 0, 0)], FL_me)
def Y_me_put : am_Y := (⟨"EarSchool$Metre", "put", "(IIJ)V"⟩, prog_6_method_7_code, 6, none, [(0, .iload_n 1, 1, 0, 1), (1, .sipush (577), 4, 577, 0), (4, .imul, 5, 0, 0), (5, .iload_n 2, 6, 0, 2), (6, .iadd, 7, 0, 0), (7, .istore 5, 9, 0, 5), (9, .iload 5, 11, 0, 5), (11, .iconst (0), 12, 0, 0), (12, .aload_n 0, 13, 0, 0), (13, .getfield 29, 16, 0, 0), (16, .arraylength, 17, 0, 0), (17, .iconst (1), 18, 1, 0), (18, .isub, 19, 0, 0), (19, .invokestatic 49, 22, 0, 0), (22, .ifCond .ne (11), 25, 0, 33), (25, .aload_n 0, 26, 0, 0), (26, .getfield 29, 29, 0, 0), (29, .iload 5, 31, 0, 5), (31, .lload_n 3, 32, 0, 3), (32, .lastore, 33, 0, 0), (33, .return_, 34, 0, 0)], FL_me)
def Y_me_onward : am_Y := (⟨"EarSchool$Metre", "onward", "(IIII)J"⟩, prog_6_method_8_code, 6, (some .long), [(0, .iload_n 1, 1, 0, 1), (1, .ifCond .le (9), 4, 0, 10), (4, .iload 4, 6, 0, 4), (6, .iload_n 3, 7, 0, 3), (7, .if_icmp .le (5), 10, 0, 12), (10, .lconst 0, 11, 0, 0), (11, .lreturn, 12, 0, 0), (12, .iload_n 1, 13, 0, 1), (13, .iconst (1), 14, 1, 0), (14, .isub, 15, 0, 0), (15, .sipush (577), 18, 577, 0), (18, .imul, 19, 0, 0), (19, .iload_n 2, 20, 0, 2), (20, .iadd, 21, 0, 0), (21, .iload 4, 23, 0, 4), (23, .iadd, 24, 0, 0), (24, .istore 5, 26, 0, 5), (26, .iload 5, 28, 0, 5), (28, .iconst (0), 29, 0, 0), (29, .aload_n 0, 30, 0, 0), (30, .getfield 29, 33, 0, 0), (33, .arraylength, 34, 0, 0), (34, .iconst (1), 35, 1, 0), (35, .isub, 36, 0, 0), (36, .invokestatic 49, 39, 0, 0), (39, .ifCond .eq (7), 42, 0, 46), (42, .lconst 0, 43, 0, 0), (43, .goto (10), 46, 0, 53), (46, .aload_n 0, 47, 0, 0), (47, .getfield 29, 50, 0, 0), (50, .iload 5, 52, 0, 5), (52, .laload, 53, 0, 0), (53, .lreturn, 54, 0, 0)], FL_me)
def Y_me_total : am_Y := (⟨"EarSchool$Metre", "total", "()J"⟩, prog_6_method_9_code, 1, (some .long), [(0, .aload_n 0, 1, 0, 0), (1, .getfield 29, 4, 0, 0), (4, .sipush (13848), 7, 13848, 0), (7, .laload, 8, 0, 0), (8, .lreturn, 9, 0, 0)], FL_me)
def Y_me_spell : am_Y := (⟨"EarSchool$Metre", "spell", "(JLEarSchool$Notes;)V"⟩, prog_6_method_10_code, 12, none, [(0, .lload_n 1, 1, 0, 1), (1, .lstore 4, 3, 0, 4), (3, .iconst (0), 4, 0, 0), (4, .istore 6, 6, 0, 6), (6, .aload_n 0, 7, 0, 0), (7, .getfield 22, 10, 0, 0), (10, .istore 7, 12, 0, 7), (12, .aload_n 3, 13, 0, 3), (13, .iconst (0), 14, 0, 0), (14, .putfield 53, 17, 0, 0), (17, .bipush (24), 19, 24, 0), (19, .istore 8, 21, 0, 8), (21, .iload 8, 23, 0, 8), (23, .ifCond .le (152), 26, 0, 175), (26, .iload 6, 28, 0, 6), (28, .aload_n 0, 29, 0, 0), (29, .getfield 19, 32, 0, 0), (32, .aload_n 0, 33, 0, 0), (33, .getfield 22, 36, 0, 0), (36, .imul, 37, 0, 0), (37, .if_icmp .ge (138), 40, 0, 175), (40, .iconst (0), 41, 0, 0), (41, .istore 9, 43, 0, 9), (43, .aload_n 0, 44, 0, 0), (44, .iload 8, 46, 0, 8), (46, .iload 6, 48, 0, 6), (48, .iload 7, 50, 0, 7), (50, .aload_n 0, 51, 0, 0), (51, .getfield 11, 54, 0, 0), (54, .iload 9, 56, 0, 9), (56, .iaload, 57, 0, 0), (57, .invokevirtual 41, 60, 0, 0), (60, .lstore 10, 62, 0, 10), (62, .iload 9, 64, 0, 9), (64, .aload_n 0, 65, 0, 0), (65, .getfield 15, 68, 0, 0), (68, .iconst (1), 69, 1, 0), (69, .isub, 70, 0, 0), (70, .if_icmp .ge (43), 73, 0, 113), (73, .lload 4, 75, 0, 4), (75, .lload 10, 77, 0, 10), (77, .lcmp, 78, 0, 0), (78, .ifCond .lt (35), 81, 0, 113), (81, .lload 4, 83, 0, 4), (83, .lload 10, 85, 0, 10), (85, .lsub, 86, 0, 0), (86, .lstore 4, 88, 0, 4), (88, .iinc 9 (1), 91, 1, 9), (91, .aload_n 0, 92, 0, 0), (92, .iload 8, 94, 0, 8), (94, .iload 6, 96, 0, 6), (96, .iload 7, 98, 0, 7), (98, .aload_n 0, 99, 0, 0), (99, .getfield 11, 102, 0, 0), (102, .iload 9, 104, 0, 9), (104, .iaload, 105, 0, 0), (105, .invokevirtual 41, 108, 0, 0), (108, .lstore 10, 110, 0, 10), (110, .goto (-48), 113, 0, 62), (113, .aload_n 3, 114, 0, 3), (114, .bipush (60), 116, 60, 0), (116, .aload_n 0, 117, 0, 0), (117, .getfield 11, 120, 0, 0), (120, .iload 9, 122, 0, 9), (122, .iaload, 123, 0, 0), (123, .invokevirtual 56, 126, 0, 0), (126, .iload 6, 128, 0, 6), (128, .aload_n 0, 129, 0, 0), (129, .getfield 11, 132, 0, 0), (132, .iload 9, 134, 0, 9), (134, .iaload, 135, 0, 0), (135, .iadd, 136, 0, 0), (136, .istore 6, 138, 0, 6), (138, .iload 7, 140, 0, 7), (140, .aload_n 0, 141, 0, 0), (141, .getfield 11, 144, 0, 0), (144, .iload 9, 146, 0, 9), (146, .iaload, 147, 0, 0), (147, .if_icmp .le (16), 150, 0, 163), (150, .iload 7, 152, 0, 7), (152, .aload_n 0, 153, 0, 0), (153, .getfield 11, 156, 0, 0), (156, .iload 9, 158, 0, 9), (158, .iaload, 159, 0, 0), (159, .isub, 160, 0, 0), (160, .goto (7), 163, 0, 167), (163, .aload_n 0, 164, 0, 0), (164, .getfield 22, 167, 0, 0), (167, .istore 7, 169, 0, 7), (169, .iinc 8 (-1), 172, -1, 8), (172, .goto (-151), 175, 0, 21), (175, .return_, 176, 0, 0)], FL_me)
def Y_no_push : am_Y := (⟨"EarSchool$Notes", "push", "(II)V"⟩, prog_7_method_2_code, 3, none, [(0, .aload_n 0, 1, 0, 0), (1, .getfield 18, 4, 0, 0), (4, .bipush (24), 6, 24, 0), (6, .if_icmp .ge (33), 9, 0, 39), (9, .aload_n 0, 10, 0, 0), (10, .getfield 9, 13, 0, 0), (13, .aload_n 0, 14, 0, 0), (14, .getfield 18, 17, 0, 0), (17, .iload_n 1, 18, 0, 1), (18, .iastore, 19, 0, 0), (19, .aload_n 0, 20, 0, 0), (20, .getfield 15, 23, 0, 0), (23, .aload_n 0, 24, 0, 0), (24, .getfield 18, 27, 0, 0), (27, .iload_n 2, 28, 0, 2), (28, .iastore, 29, 0, 0), (29, .aload_n 0, 30, 0, 0), (30, .dup, 31, 0, 0), (31, .getfield 18, 34, 0, 0), (34, .iconst (1), 35, 1, 0), (35, .iadd, 36, 0, 0), (36, .putfield 18, 39, 0, 0), (39, .return_, 40, 0, 0)], FL_no)
def Y_no_copy : am_Y := (⟨"EarSchool$Notes", "copy", "(LEarSchool$Notes;)V"⟩, prog_7_method_3_code, 3, none, [(0, .aload_n 0, 1, 0, 0), (1, .iconst (0), 2, 0, 0), (2, .putfield 18, 5, 0, 0), (5, .iconst (0), 6, 0, 0), (6, .istore_n 2, 7, 0, 2), (7, .iload_n 2, 8, 0, 2), (8, .aload_n 1, 9, 0, 1), (9, .getfield 18, 12, 0, 0), (12, .if_icmp .ge (25), 15, 0, 37), (15, .aload_n 0, 16, 0, 0), (16, .aload_n 1, 17, 0, 1), (17, .getfield 9, 20, 0, 0), (20, .iload_n 2, 21, 0, 2), (21, .iaload, 22, 0, 0), (22, .aload_n 1, 23, 0, 1), (23, .getfield 15, 26, 0, 0), (26, .iload_n 2, 27, 0, 2), (27, .iaload, 28, 0, 0), (28, .invokevirtual 22, 31, 0, 0), (31, .iinc 2 (1), 34, 1, 2), (34, .goto (-27), 37, 0, 7), (37, .return_, 38, 0, 0)], FL_no)
def Y_pu_weight : am_Y := (⟨"EarSchool$Pupils", "weight", "(II)I"⟩, prog_8_method_2_code, 4, (some .int), [(0, .aload_n 0, 1, 0, 0), (1, .getfield 11, 4, 0, 0), (4, .iload_n 1, 5, 0, 1), (5, .aaload, 6, 0, 0), (6, .iload_n 2, 7, 0, 2), (7, .iaload, 8, 0, 0), (8, .istore_n 3, 9, 0, 3), (9, .iload_n 3, 10, 0, 3), (10, .ifCond .gt (8), 13, 0, 18), (13, .bipush (6), 15, 6, 0), (15, .goto (18), 18, 0, 33), (18, .iconst (1), 19, 1, 0), (19, .bipush (10), 21, 10, 0), (21, .aload_n 0, 22, 0, 0), (22, .getfield 16, 25, 0, 0), (25, .iload_n 1, 26, 0, 1), (26, .aaload, 27, 0, 0), (27, .iload_n 2, 28, 0, 2), (28, .iaload, 29, 0, 0), (29, .imul, 30, 0, 0), (30, .iload_n 3, 31, 0, 3), (31, .idiv, 32, 0, 0), (32, .iadd, 33, 0, 0), (33, .ireturn, 34, 0, 0)], FL_pu)
def Y_pu_enter : am_Y := (⟨"EarSchool$Pupils", "enter", "(ILEarSchool$Judgement;LEarSchool$Notes;)I"⟩, prog_8_method_3_code, 9, (some .int), [(0, .iconst (0), 1, 0, 0), (1, .istore 4, 3, 0, 4), (3, .iconst (0), 4, 0, 0), (4, .istore 5, 6, 0, 5), (6, .iload 5, 8, 0, 5), (8, .aload_n 2, 9, 0, 2), (9, .getfield 19, 12, 0, 0), (12, .if_icmp .ge (105), 15, 0, 117), (15, .aload_n 2, 16, 0, 2), (16, .getfield 25, 19, 0, 0), (19, .iload 5, 21, 0, 5), (21, .iaload, 22, 0, 0), (22, .istore 6, 24, 0, 6), (24, .iload 6, 26, 0, 6), (26, .iconst (1), 27, 1, 0), (27, .aload_n 3, 28, 0, 3), (28, .getfield 29, 31, 0, 0), (31, .iconst (1), 32, 1, 0), (32, .isub, 33, 0, 0), (33, .invokestatic 32, 36, 0, 0), (36, .ifCond .eq (6), 39, 0, 42), (39, .goto (72), 42, 0, 111), (42, .aload_n 3, 43, 0, 3), (43, .getfield 36, 46, 0, 0), (46, .iload 6, 48, 0, 6), (48, .iaload, 49, 0, 0), (49, .aload_n 3, 50, 0, 3), (50, .getfield 36, 53, 0, 0), (53, .iload 6, 55, 0, 6), (55, .iconst (1), 56, 1, 0), (56, .isub, 57, 0, 0), (57, .iaload, 58, 0, 0), (58, .isub, 59, 0, 0), (59, .invokestatic 39, 62, 0, 0), (62, .istore 7, 64, 0, 7), (64, .iload 7, 66, 0, 7), (66, .bipush (12), 68, 12, 0), (68, .invokestatic 45, 71, 0, 0), (71, .istore 8, 73, 0, 8), (73, .aload_n 0, 74, 0, 0), (74, .getfield 11, 77, 0, 0), (77, .iload_n 1, 78, 0, 1), (78, .aaload, 79, 0, 0), (79, .iload 8, 81, 0, 8), (81, .dup2, 82, 0, 0), (82, .iaload, 83, 0, 0), (83, .iconst (1), 84, 1, 0), (84, .iadd, 85, 0, 0), (85, .iastore, 86, 0, 0), (86, .aload_n 2, 87, 0, 2), (87, .iload 5, 89, 0, 5), (89, .invokevirtual 49, 92, 0, 0), (92, .ifCond .eq (19), 95, 0, 111), (95, .aload_n 0, 96, 0, 0), (96, .getfield 16, 99, 0, 0), (99, .iload_n 1, 100, 0, 1), (100, .aaload, 101, 0, 0), (101, .iload 8, 103, 0, 8), (103, .dup2, 104, 0, 0), (104, .iaload, 105, 0, 0), (105, .iconst (1), 106, 1, 0), (106, .iadd, 107, 0, 0), (107, .iastore, 108, 0, 0), (108, .iinc 4 (1), 111, 1, 4), (111, .iinc 5 (1), 114, 1, 5), (114, .goto (-108), 117, 0, 6), (117, .iload 4, 119, 0, 4), (119, .ireturn, 120, 0, 0)], FL_pu)
def Y_ru_mayStand : am_Y := (⟨"EarSchool$Rule", "mayStand", "(II)Z"⟩, prog_9_method_2_code, 3, (some .boolean), [(0, .aload_n 0, 1, 0, 0), (1, .getfield 10, 4, 0, 0), (4, .iconst (0), 5, 0, 0), (5, .iaload, 6, 0, 0), (6, .iload_n 2, 7, 0, 2), (7, .invokestatic 32, 10, 0, 0), (10, .ifCond .eq (47), 13, 0, 57), (13, .iload_n 1, 14, 0, 1), (14, .ifCond .gt (16), 17, 0, 30), (17, .aload_n 0, 18, 0, 0), (18, .getfield 10, 21, 0, 0), (21, .iconst (1), 22, 1, 0), (22, .iaload, 23, 0, 0), (23, .iload_n 2, 24, 0, 2), (24, .invokestatic 32, 27, 0, 0), (27, .ifCond .eq (30), 30, 0, 57), (30, .iload_n 1, 31, 0, 1), (31, .aload_n 0, 32, 0, 0), (32, .getfield 23, 35, 0, 0), (35, .iconst (1), 36, 1, 0), (36, .isub, 37, 0, 0), (37, .if_icmp .lt (16), 40, 0, 53), (40, .aload_n 0, 41, 0, 0), (41, .getfield 10, 44, 0, 0), (44, .iconst (2), 45, 2, 0), (45, .iaload, 46, 0, 0), (46, .iload_n 2, 47, 0, 2), (47, .invokestatic 32, 50, 0, 0), (50, .ifCond .eq (7), 53, 0, 57), (53, .iconst (1), 54, 1, 0), (54, .goto (4), 57, 0, 58), (57, .iconst (0), 58, 0, 0), (58, .ireturn, 59, 0, 0)], FL_ru)
def Y_ru_mayStep : am_Y := (⟨"EarSchool$Rule", "mayStep", "(II)Z"⟩, prog_9_method_3_code, 3, (some .boolean), [(0, .iload_n 2, 1, 0, 2), (1, .bipush (-12), 3, -12, 0), (3, .bipush (12), 5, 12, 0), (5, .invokestatic 36, 8, 0, 0), (8, .ifCond .ne (19), 11, 0, 27), (11, .aload_n 0, 12, 0, 0), (12, .getfield 10, 15, 0, 0), (15, .iconst (3), 16, 3, 0), (16, .iaload, 17, 0, 0), (17, .bipush (12), 19, 12, 0), (19, .iload_n 2, 20, 0, 2), (20, .iadd, 21, 0, 0), (21, .ishr, 22, 0, 0), (22, .iconst (1), 23, 1, 0), (23, .iand, 24, 0, 0), (24, .ifCond .ne (5), 27, 0, 29), (27, .iconst (0), 28, 0, 0), (28, .ireturn, 29, 0, 0), (29, .iload_n 1, 30, 0, 1), (30, .bipush (16), 32, 16, 0), (32, .if_icmp .ne (20), 35, 0, 52), (35, .iload_n 2, 36, 0, 2), (36, .iconst (-1), 37, -1, 0), (37, .if_icmp .eq (9), 40, 0, 46), (40, .iload_n 2, 41, 0, 2), (41, .bipush (-2), 43, -2, 0), (43, .if_icmp .ne (7), 46, 0, 50), (46, .iconst (1), 47, 1, 0), (47, .goto (4), 50, 0, 51), (50, .iconst (0), 51, 0, 0), (51, .ireturn, 52, 0, 0), (52, .iload_n 1, 53, 0, 1), (53, .bipush (17), 55, 17, 0), (55, .if_icmp .ne (19), 58, 0, 74), (58, .iload_n 2, 59, 0, 2), (59, .iconst (1), 60, 1, 0), (60, .if_icmp .eq (8), 63, 0, 68), (63, .iload_n 2, 64, 0, 2), (64, .iconst (2), 65, 2, 0), (65, .if_icmp .ne (7), 68, 0, 72), (68, .iconst (1), 69, 1, 0), (69, .goto (4), 72, 0, 73), (72, .iconst (0), 73, 0, 0), (73, .ireturn, 74, 0, 0), (74, .iload_n 2, 75, 0, 2), (75, .ifCond .ne (11), 78, 0, 86), (78, .iload_n 1, 79, 0, 1), (79, .aload_n 0, 80, 0, 0), (80, .getfield 29, 83, 0, 0), (83, .if_icmp .ge (7), 86, 0, 90), (86, .iconst (1), 87, 1, 0), (87, .goto (4), 90, 0, 91), (90, .iconst (0), 91, 0, 0), (91, .ireturn, 92, 0, 0)], FL_ru)
def Y_ru_stateBehind : am_Y := (⟨"EarSchool$Rule", "stateBehind", "(II)I"⟩, prog_9_method_4_code, 3, (some .int), [(0, .iload_n 2, 1, 0, 2), (1, .ifCond .ne (12), 4, 0, 13), (4, .iload_n 1, 5, 0, 1), (5, .iconst (1), 6, 1, 0), (6, .iadd, 7, 0, 0), (7, .bipush (15), 9, 15, 0), (9, .invokestatic 40, 12, 0, 0), (12, .ireturn, 13, 0, 0), (13, .iload_n 2, 14, 0, 2), (14, .aload_n 0, 15, 0, 0), (15, .getfield 26, 18, 0, 0), (18, .if_icmp .lt (6), 21, 0, 24), (21, .bipush (16), 23, 16, 0), (23, .ireturn, 24, 0, 0), (24, .iload_n 2, 25, 0, 2), (25, .aload_n 0, 26, 0, 0), (26, .getfield 26, 29, 0, 0), (29, .ineg, 30, 0, 0), (30, .if_icmp .gt (8), 33, 0, 38), (33, .bipush (17), 35, 17, 0), (35, .goto (4), 38, 0, 39), (38, .iconst (0), 39, 0, 0), (39, .ireturn, 40, 0, 0)], FL_ru)
def Y_wt_ofNone : am_Y := (⟨"EarSchool$WeightTable", "ofNone", "()J"⟩, prog_10_method_2_code, 1, (some .long), [(0, .ldc2_w 15, 3, -1, 411), (3, .lreturn, 4, 0, 0)], FL_wt)
def Y_wt_ofEnd : am_Y := (⟨"EarSchool$WeightTable", "ofEnd", "()J"⟩, prog_10_method_3_code, 1, (some .long), [(0, .lconst 0, 1, 0, 0), (1, .lreturn, 2, 0, 0)], FL_wt)
def Y_wt_together : am_Y := (⟨"EarSchool$WeightTable", "together", "(JJ)J"⟩, prog_10_method_4_code, 5, (some .long), [(0, .lload_n 1, 1, 0, 1), (1, .lload_n 3, 2, 0, 3), (2, .invokestatic 17, 5, 0, 0), (5, .lreturn, 6, 0, 0)], FL_wt)
def Y_wt_stepped : am_Y := (⟨"EarSchool$WeightTable", "stepped", "(IJ)J"⟩, prog_10_method_5_code, 5, (some .long), [(0, .iload_n 1, 1, 0, 1), (1, .invokestatic 23, 4, 0, 0), (4, .istore 4, 6, 0, 4), (6, .lload_n 2, 7, 0, 2), (7, .lconst 0, 8, 0, 0), (8, .lcmp, 9, 0, 0), (9, .ifCond .lt (10), 12, 0, 19), (12, .iload 4, 14, 0, 4), (14, .bipush (13), 16, 13, 0), (16, .if_icmp .lt (10), 19, 0, 26), (19, .aload_n 0, 20, 0, 0), (20, .invokevirtual 27, 23, 0, 0), (23, .goto (13), 26, 0, 36), (26, .lload_n 2, 27, 0, 2), (27, .aload_n 0, 28, 0, 0), (28, .getfield 9, 31, 0, 0), (31, .iload 4, 33, 0, 4), (33, .iaload, 34, 0, 0), (34, .i2l, 35, 0, 0), (35, .ladd, 36, 0, 0), (36, .lreturn, 37, 0, 0)], FL_wt)
def Y_wt_spell : am_Y := (⟨"EarSchool$WeightTable", "spell", "(LEarSchool$Notes;)V"⟩, prog_10_method_6_code, 8, none, [(0, .aload_n 0, 1, 0, 0), (1, .invokevirtual 31, 4, 0, 0), (4, .lstore_n 2, 5, 0, 2), (5, .aload_n 0, 6, 0, 0), (6, .getfield 34, 9, 0, 0), (9, .getfield 38, 12, 0, 0), (12, .istore 4, 14, 0, 4), (14, .iconst (0), 15, 0, 0), (15, .istore 5, 17, 0, 5), (17, .aload_n 1, 18, 0, 1), (18, .iconst (0), 19, 0, 0), (19, .putfield 44, 22, 0, 0), (22, .iconst (0), 23, 0, 0), (23, .istore 6, 25, 0, 6), (25, .iload 6, 27, 0, 6), (27, .aload_n 0, 28, 0, 0), (28, .getfield 34, 31, 0, 0), (31, .getfield 49, 34, 0, 0), (34, .if_icmp .ge (90), 37, 0, 124), (37, .aload_n 0, 38, 0, 0), (38, .getfield 34, 41, 0, 0), (41, .getfield 38, 44, 0, 0), (44, .istore 7, 46, 0, 7), (46, .iload 7, 48, 0, 7), (48, .aload_n 0, 49, 0, 0), (49, .getfield 34, 52, 0, 0), (52, .getfield 52, 55, 0, 0), (55, .if_icmp .ge (26), 58, 0, 81), (58, .aload_n 0, 59, 0, 0), (59, .iload 6, 61, 0, 6), (61, .iload 4, 63, 0, 4), (63, .iload 5, 65, 0, 5), (65, .iload 7, 67, 0, 7), (67, .invokevirtual 55, 70, 0, 0), (70, .lload_n 2, 71, 0, 2), (71, .lcmp, 72, 0, 0), (72, .ifCond .eq (9), 75, 0, 81), (75, .iinc 7 (1), 78, 1, 7), (78, .goto (-32), 81, 0, 46), (81, .aload_n 0, 82, 0, 0), (82, .iload 6, 84, 0, 6), (84, .iload 4, 86, 0, 4), (86, .iload 5, 88, 0, 5), (88, .iload 7, 90, 0, 7), (90, .invokevirtual 59, 93, 0, 0), (93, .istore 5, 95, 0, 5), (95, .iload 7, 97, 0, 7), (97, .istore 4, 99, 0, 4), (99, .aload_n 0, 100, 0, 0), (100, .iload 6, 102, 0, 6), (102, .iload 7, 104, 0, 7), (104, .iload 5, 106, 0, 5), (106, .invokevirtual 63, 109, 0, 0), (109, .lstore_n 2, 110, 0, 2), (110, .aload_n 1, 111, 0, 1), (111, .iload 7, 113, 0, 7), (113, .bipush (24), 115, 24, 0), (115, .invokevirtual 67, 118, 0, 0), (118, .iinc 6 (1), 121, 1, 6), (121, .goto (-96), 124, 0, 25), (124, .return_, 125, 0, 0)], FL_wt)
def Y_la_law : am_Y := (⟨"EarSchoolLaw", "law", "([I)Z"⟩, code, 4, (some .boolean), [(0, .new 7, 3, 0, 0), (3, .dup, 4, 0, 0), (4, .invokespecial 9, 7, 0, 0), (7, .astore_n 1, 8, 0, 1), (8, .new 10, 11, 0, 0), (11, .dup, 12, 0, 0), (12, .invokespecial 12, 15, 0, 0), (15, .astore_n 2, 16, 0, 2), (16, .iconst (0), 17, 0, 0), (17, .istore_n 3, 18, 0, 3), (18, .iload_n 3, 19, 0, 3), (19, .aload_n 0, 20, 0, 0), (20, .arraylength, 21, 0, 0), (21, .iconst (5), 22, 5, 0), (22, .isub, 23, 0, 0), (23, .if_icmp .gt (876), 26, 0, 899), (26, .aload_n 0, 27, 0, 0), (27, .iload_n 3, 28, 0, 3), (28, .iaload, 29, 0, 0), (29, .bipush (31), 31, 31, 0), (31, .iand, 32, 0, 0), (32, .tableswitch (861) (0) 24 #[(116), (149), (162), (195), (238), (271), (304), (318), (371), (385), (418), (467), (481), (534), (557), (570), (603), (617), (690), (703), (716), (749), (772), (815), (838)], 148, 0, 0), (148, .aload_n 1, 149, 0, 1), (149, .aload_n 0, 150, 0, 0), (150, .iload_n 3, 151, 0, 3), (151, .iconst (1), 152, 1, 0), (152, .iadd, 153, 0, 0), (153, .iaload, 154, 0, 0), (154, .aload_n 0, 155, 0, 0), (155, .iload_n 3, 156, 0, 3), (156, .iconst (2), 157, 2, 0), (157, .iadd, 158, 0, 0), (158, .iaload, 159, 0, 0), (159, .invokevirtual 13, 162, 0, 0), (162, .aload_n 2, 163, 0, 2), (163, .aload_n 0, 164, 0, 0), (164, .iload_n 3, 165, 0, 3), (165, .iconst (1), 166, 1, 0), (166, .iadd, 167, 0, 0), (167, .iaload, 168, 0, 0), (168, .aload_n 0, 169, 0, 0), (169, .iload_n 3, 170, 0, 3), (170, .iconst (2), 171, 2, 0), (171, .iadd, 172, 0, 0), (172, .iaload, 173, 0, 0), (173, .invokevirtual 17, 176, 0, 0), (176, .if_icmp .eq (717), 179, 0, 893), (179, .iconst (0), 180, 0, 0), (180, .ireturn, 181, 0, 0), (181, .aload_n 1, 182, 0, 1), (182, .invokevirtual 18, 185, 0, 0), (185, .aload_n 2, 186, 0, 2), (186, .invokevirtual 22, 189, 0, 0), (189, .if_icmp .eq (704), 192, 0, 893), (192, .iconst (0), 193, 0, 0), (193, .ireturn, 194, 0, 0), (194, .aload_n 1, 195, 0, 1), (195, .aload_n 0, 196, 0, 0), (196, .iload_n 3, 197, 0, 3), (197, .iconst (1), 198, 1, 0), (198, .iadd, 199, 0, 0), (199, .iaload, 200, 0, 0), (200, .aload_n 0, 201, 0, 0), (201, .iload_n 3, 202, 0, 3), (202, .iconst (2), 203, 2, 0), (203, .iadd, 204, 0, 0), (204, .iaload, 205, 0, 0), (205, .invokevirtual 23, 208, 0, 0), (208, .aload_n 2, 209, 0, 2), (209, .aload_n 0, 210, 0, 0), (210, .iload_n 3, 211, 0, 3), (211, .iconst (1), 212, 1, 0), (212, .iadd, 213, 0, 0), (213, .iaload, 214, 0, 0), (214, .aload_n 0, 215, 0, 0), (215, .iload_n 3, 216, 0, 3), (216, .iconst (2), 217, 2, 0), (217, .iadd, 218, 0, 0), (218, .iaload, 219, 0, 0), (219, .invokevirtual 26, 222, 0, 0), (222, .if_icmp .eq (671), 225, 0, 893), (225, .iconst (0), 226, 0, 0), (226, .ireturn, 227, 0, 0), (227, .aload_n 1, 228, 0, 1), (228, .aload_n 0, 229, 0, 0), (229, .iload_n 3, 230, 0, 3), (230, .iconst (1), 231, 1, 0), (231, .iadd, 232, 0, 0), (232, .iaload, 233, 0, 0), (233, .aload_n 0, 234, 0, 0), (234, .iload_n 3, 235, 0, 3), (235, .iconst (2), 236, 2, 0), (236, .iadd, 237, 0, 0), (237, .iaload, 238, 0, 0), (238, .aload_n 0, 239, 0, 0), (239, .iload_n 3, 240, 0, 3), (240, .iconst (3), 241, 3, 0), (241, .iadd, 242, 0, 0), (242, .iaload, 243, 0, 0), (243, .invokevirtual 27, 246, 0, 0), (246, .aload_n 2, 247, 0, 2), (247, .aload_n 0, 248, 0, 0), (248, .iload_n 3, 249, 0, 3), (249, .iconst (1), 250, 1, 0), (250, .iadd, 251, 0, 0), (251, .iaload, 252, 0, 0), (252, .aload_n 0, 253, 0, 0), (253, .iload_n 3, 254, 0, 3), (254, .iconst (2), 255, 2, 0), (255, .iadd, 256, 0, 0), (256, .iaload, 257, 0, 0), (257, .aload_n 0, 258, 0, 0), (258, .iload_n 3, 259, 0, 3), (259, .iconst (3), 260, 3, 0), (260, .iadd, 261, 0, 0), (261, .iaload, 262, 0, 0), (262, .invokevirtual 31, 265, 0, 0), (265, .if_icmp .eq (628), 268, 0, 893), (268, .iconst (0), 269, 0, 0), (269, .ireturn, 270, 0, 0), (270, .aload_n 1, 271, 0, 1), (271, .aload_n 0, 272, 0, 0), (272, .iload_n 3, 273, 0, 3), (273, .iconst (1), 274, 1, 0), (274, .iadd, 275, 0, 0), (275, .iaload, 276, 0, 0), (276, .aload_n 0, 277, 0, 0), (277, .iload_n 3, 278, 0, 3), (278, .iconst (2), 279, 2, 0), (279, .iadd, 280, 0, 0), (280, .iaload, 281, 0, 0), (281, .invokevirtual 32, 284, 0, 0), (284, .aload_n 2, 285, 0, 2), (285, .aload_n 0, 286, 0, 0), (286, .iload_n 3, 287, 0, 3), (287, .iconst (1), 288, 1, 0), (288, .iadd, 289, 0, 0), (289, .iaload, 290, 0, 0), (290, .aload_n 0, 291, 0, 0), (291, .iload_n 3, 292, 0, 3), (292, .iconst (2), 293, 2, 0), (293, .iadd, 294, 0, 0), (294, .iaload, 295, 0, 0), (295, .invokevirtual 35, 298, 0, 0), (298, .if_icmp .eq (595), 301, 0, 893), (301, .iconst (0), 302, 0, 0), (302, .ireturn, 303, 0, 0), (303, .aload_n 1, 304, 0, 1), (304, .aload_n 0, 305, 0, 0), (305, .iload_n 3, 306, 0, 3), (306, .iconst (1), 307, 1, 0), (307, .iadd, 308, 0, 0), (308, .iaload, 309, 0, 0), (309, .aload_n 0, 310, 0, 0), (310, .iload_n 3, 311, 0, 3), (311, .iconst (2), 312, 2, 0), (312, .iadd, 313, 0, 0), (313, .iaload, 314, 0, 0), (314, .invokevirtual 36, 317, 0, 0), (317, .aload_n 2, 318, 0, 2), (318, .aload_n 0, 319, 0, 0), (319, .iload_n 3, 320, 0, 3), (320, .iconst (1), 321, 1, 0), (321, .iadd, 322, 0, 0), (322, .iaload, 323, 0, 0), (323, .aload_n 0, 324, 0, 0), (324, .iload_n 3, 325, 0, 3), (325, .iconst (2), 326, 2, 0), (326, .iadd, 327, 0, 0), (327, .iaload, 328, 0, 0), (328, .invokevirtual 39, 331, 0, 0), (331, .if_icmp .eq (562), 334, 0, 893), (334, .iconst (0), 335, 0, 0), (335, .ireturn, 336, 0, 0), (336, .aload_n 1, 337, 0, 1), (337, .invokevirtual 40, 340, 0, 0), (340, .aload_n 2, 341, 0, 2), (341, .invokevirtual 44, 344, 0, 0), (344, .lcmp, 345, 0, 0), (345, .ifCond .eq (548), 348, 0, 893), (348, .iconst (0), 349, 0, 0), (349, .ireturn, 350, 0, 0), (350, .aload_n 1, 351, 0, 1), (351, .aload_n 0, 352, 0, 0), (352, .iload_n 3, 353, 0, 3), (353, .iconst (1), 354, 1, 0), (354, .iadd, 355, 0, 0), (355, .iaload, 356, 0, 0), (356, .i2l, 357, 0, 0), (357, .bipush (32), 359, 32, 0), (359, .lshl, 360, 0, 0), (360, .aload_n 0, 361, 0, 0), (361, .iload_n 3, 362, 0, 3), (362, .iconst (2), 363, 2, 0), (363, .iadd, 364, 0, 0), (364, .iaload, 365, 0, 0), (365, .i2l, 366, 0, 0), (366, .ldc2_w 45, 369, 4294967295, 1123), (369, .land, 370, 0, 0), (370, .lor, 371, 0, 0), (371, .invokevirtual 47, 374, 0, 0), (374, .aload_n 2, 375, 0, 2), (375, .aload_n 0, 376, 0, 0), (376, .iload_n 3, 377, 0, 3), (377, .iconst (1), 378, 1, 0), (378, .iadd, 379, 0, 0), (379, .iaload, 380, 0, 0), (380, .i2l, 381, 0, 0), (381, .bipush (32), 383, 32, 0), (383, .lshl, 384, 0, 0), (384, .aload_n 0, 385, 0, 0), (385, .iload_n 3, 386, 0, 3), (386, .iconst (2), 387, 2, 0), (387, .iadd, 388, 0, 0), (388, .iaload, 389, 0, 0), (389, .i2l, 390, 0, 0), (390, .ldc2_w 45, 393, 4294967295, 1123), (393, .land, 394, 0, 0), (394, .lor, 395, 0, 0), (395, .invokevirtual 51, 398, 0, 0), (398, .if_icmp .eq (495), 401, 0, 893), (401, .iconst (0), 402, 0, 0), (402, .ireturn, 403, 0, 0), (403, .aload_n 1, 404, 0, 1), (404, .invokevirtual 52, 407, 0, 0), (407, .aload_n 2, 408, 0, 2), (408, .invokevirtual 55, 411, 0, 0), (411, .lcmp, 412, 0, 0), (412, .ifCond .eq (481), 415, 0, 893), (415, .iconst (0), 416, 0, 0), (416, .ireturn, 417, 0, 0), (417, .aload_n 1, 418, 0, 1), (418, .aload_n 0, 419, 0, 0), (419, .iload_n 3, 420, 0, 3), (420, .iconst (1), 421, 1, 0), (421, .iadd, 422, 0, 0), (422, .iaload, 423, 0, 0), (423, .aload_n 0, 424, 0, 0), (424, .iload_n 3, 425, 0, 3), (425, .iconst (2), 426, 2, 0), (426, .iadd, 427, 0, 0), (427, .iaload, 428, 0, 0), (428, .invokevirtual 56, 431, 0, 0), (431, .aload_n 2, 432, 0, 2), (432, .aload_n 0, 433, 0, 0), (433, .iload_n 3, 434, 0, 3), (434, .iconst (1), 435, 1, 0), (435, .iadd, 436, 0, 0), (436, .iaload, 437, 0, 0), (437, .aload_n 0, 438, 0, 0), (438, .iload_n 3, 439, 0, 3), (439, .iconst (2), 440, 2, 0), (440, .iadd, 441, 0, 0), (441, .iaload, 442, 0, 0), (442, .invokevirtual 59, 445, 0, 0), (445, .if_icmp .eq (448), 448, 0, 893), (448, .iconst (0), 449, 0, 0), (449, .ireturn, 450, 0, 0), (450, .aload_n 1, 451, 0, 1), (451, .aload_n 0, 452, 0, 0), (452, .iload_n 3, 453, 0, 3), (453, .iconst (1), 454, 1, 0), (454, .iadd, 455, 0, 0), (455, .iaload, 456, 0, 0), (456, .aload_n 0, 457, 0, 0), (457, .iload_n 3, 458, 0, 3), (458, .iconst (2), 459, 2, 0), (459, .iadd, 460, 0, 0), (460, .iaload, 461, 0, 0), (461, .ifCond .eq (7), 464, 0, 468), (464, .iconst (1), 465, 1, 0), (465, .goto (4), 468, 0, 469), (468, .iconst (0), 469, 0, 0), (469, .invokevirtual 60, 472, 0, 0), (472, .aload_n 2, 473, 0, 2), (473, .aload_n 0, 474, 0, 0), (474, .iload_n 3, 475, 0, 3), (475, .iconst (1), 476, 1, 0), (476, .iadd, 477, 0, 0), (477, .iaload, 478, 0, 0), (478, .aload_n 0, 479, 0, 0), (479, .iload_n 3, 480, 0, 3), (480, .iconst (2), 481, 2, 0), (481, .iadd, 482, 0, 0), (482, .iaload, 483, 0, 0), (483, .ifCond .eq (7), 486, 0, 490), (486, .iconst (1), 487, 1, 0), (487, .goto (4), 490, 0, 491), (490, .iconst (0), 491, 0, 0), (491, .invokevirtual 64, 494, 0, 0), (494, .if_icmp .eq (399), 497, 0, 893), (497, .iconst (0), 498, 0, 0), (498, .ireturn, 499, 0, 0), (499, .aload_n 1, 500, 0, 1), (500, .invokevirtual 65, 503, 0, 0), (503, .aload_n 2, 504, 0, 2), (504, .invokevirtual 68, 507, 0, 0), (507, .lcmp, 508, 0, 0), (508, .ifCond .eq (385), 511, 0, 893), (511, .iconst (0), 512, 0, 0), (512, .ireturn, 513, 0, 0), (513, .aload_n 1, 514, 0, 1), (514, .aload_n 0, 515, 0, 0), (515, .iload_n 3, 516, 0, 3), (516, .iconst (1), 517, 1, 0), (517, .iadd, 518, 0, 0), (518, .iaload, 519, 0, 0), (519, .i2l, 520, 0, 0), (520, .bipush (32), 522, 32, 0), (522, .lshl, 523, 0, 0), (523, .aload_n 0, 524, 0, 0), (524, .iload_n 3, 525, 0, 3), (525, .iconst (2), 526, 2, 0), (526, .iadd, 527, 0, 0), (527, .iaload, 528, 0, 0), (528, .i2l, 529, 0, 0), (529, .ldc2_w 45, 532, 4294967295, 1123), (532, .land, 533, 0, 0), (533, .lor, 534, 0, 0), (534, .invokevirtual 69, 537, 0, 0), (537, .aload_n 2, 538, 0, 2), (538, .aload_n 0, 539, 0, 0), (539, .iload_n 3, 540, 0, 3), (540, .iconst (1), 541, 1, 0), (541, .iadd, 542, 0, 0), (542, .iaload, 543, 0, 0), (543, .i2l, 544, 0, 0), (544, .bipush (32), 546, 32, 0), (546, .lshl, 547, 0, 0), (547, .aload_n 0, 548, 0, 0), (548, .iload_n 3, 549, 0, 3), (549, .iconst (2), 550, 2, 0), (550, .iadd, 551, 0, 0), (551, .iaload, 552, 0, 0), (552, .i2l, 553, 0, 0), (553, .ldc2_w 45, 556, 4294967295, 1123), (556, .land, 557, 0, 0), (557, .lor, 558, 0, 0), (558, .invokevirtual 72, 561, 0, 0), (561, .if_icmp .eq (332), 564, 0, 893), (564, .iconst (0), 565, 0, 0), (565, .ireturn, 566, 0, 0), (566, .aload_n 1, 567, 0, 1), (567, .aload_n 0, 568, 0, 0), (568, .iload_n 3, 569, 0, 3), (569, .iconst (1), 570, 1, 0), (570, .iadd, 571, 0, 0), (571, .iaload, 572, 0, 0), (572, .invokevirtual 73, 575, 0, 0), (575, .aload_n 2, 576, 0, 2), (576, .aload_n 0, 577, 0, 0), (577, .iload_n 3, 578, 0, 3), (578, .iconst (1), 579, 1, 0), (579, .iadd, 580, 0, 0), (580, .iaload, 581, 0, 0), (581, .invokevirtual 77, 584, 0, 0), (584, .if_icmp .eq (309), 587, 0, 893), (587, .iconst (0), 588, 0, 0), (588, .ireturn, 589, 0, 0), (589, .aload_n 1, 590, 0, 1), (590, .invokevirtual 78, 593, 0, 0), (593, .aload_n 2, 594, 0, 2), (594, .invokevirtual 81, 597, 0, 0), (597, .if_icmp .eq (296), 600, 0, 893), (600, .iconst (0), 601, 0, 0), (601, .ireturn, 602, 0, 0), (602, .aload_n 1, 603, 0, 1), (603, .aload_n 0, 604, 0, 0), (604, .iload_n 3, 605, 0, 3), (605, .iconst (1), 606, 1, 0), (606, .iadd, 607, 0, 0), (607, .iaload, 608, 0, 0), (608, .aload_n 0, 609, 0, 0), (609, .iload_n 3, 610, 0, 3), (610, .iconst (2), 611, 2, 0), (611, .iadd, 612, 0, 0), (612, .iaload, 613, 0, 0), (613, .invokevirtual 82, 616, 0, 0), (616, .aload_n 2, 617, 0, 2), (617, .aload_n 0, 618, 0, 0), (618, .iload_n 3, 619, 0, 3), (619, .iconst (1), 620, 1, 0), (620, .iadd, 621, 0, 0), (621, .iaload, 622, 0, 0), (622, .aload_n 0, 623, 0, 0), (623, .iload_n 3, 624, 0, 3), (624, .iconst (2), 625, 2, 0), (625, .iadd, 626, 0, 0), (626, .iaload, 627, 0, 0), (627, .invokevirtual 85, 630, 0, 0), (630, .if_icmp .eq (263), 633, 0, 893), (633, .iconst (0), 634, 0, 0), (634, .ireturn, 635, 0, 0), (635, .aload_n 1, 636, 0, 1), (636, .invokevirtual 86, 639, 0, 0), (639, .aload_n 2, 640, 0, 2), (640, .invokevirtual 89, 643, 0, 0), (643, .lcmp, 644, 0, 0), (644, .ifCond .eq (249), 647, 0, 893), (647, .iconst (0), 648, 0, 0), (648, .ireturn, 649, 0, 0), (649, .aload_n 1, 650, 0, 1), (650, .aload_n 0, 651, 0, 0), (651, .iload_n 3, 652, 0, 3), (652, .iconst (1), 653, 1, 0), (653, .iadd, 654, 0, 0), (654, .iaload, 655, 0, 0), (655, .i2l, 656, 0, 0), (656, .bipush (32), 658, 32, 0), (658, .lshl, 659, 0, 0), (659, .aload_n 0, 660, 0, 0), (660, .iload_n 3, 661, 0, 3), (661, .iconst (2), 662, 2, 0), (662, .iadd, 663, 0, 0), (663, .iaload, 664, 0, 0), (664, .i2l, 665, 0, 0), (665, .ldc2_w 45, 668, 4294967295, 1123), (668, .land, 669, 0, 0), (669, .lor, 670, 0, 0), (670, .aload_n 0, 671, 0, 0), (671, .iload_n 3, 672, 0, 3), (672, .iconst (3), 673, 3, 0), (673, .iadd, 674, 0, 0), (674, .iaload, 675, 0, 0), (675, .aload_n 0, 676, 0, 0), (676, .iload_n 3, 677, 0, 3), (677, .iconst (4), 678, 4, 0), (678, .iadd, 679, 0, 0), (679, .iaload, 680, 0, 0), (680, .invokevirtual 90, 683, 0, 0), (683, .aload_n 2, 684, 0, 2), (684, .aload_n 0, 685, 0, 0), (685, .iload_n 3, 686, 0, 3), (686, .iconst (1), 687, 1, 0), (687, .iadd, 688, 0, 0), (688, .iaload, 689, 0, 0), (689, .i2l, 690, 0, 0), (690, .bipush (32), 692, 32, 0), (692, .lshl, 693, 0, 0), (693, .aload_n 0, 694, 0, 0), (694, .iload_n 3, 695, 0, 3), (695, .iconst (2), 696, 2, 0), (696, .iadd, 697, 0, 0), (697, .iaload, 698, 0, 0), (698, .i2l, 699, 0, 0), (699, .ldc2_w 45, 702, 4294967295, 1123), (702, .land, 703, 0, 0), (703, .lor, 704, 0, 0), (704, .aload_n 0, 705, 0, 0), (705, .iload_n 3, 706, 0, 3), (706, .iconst (3), 707, 3, 0), (707, .iadd, 708, 0, 0), (708, .iaload, 709, 0, 0), (709, .aload_n 0, 710, 0, 0), (710, .iload_n 3, 711, 0, 3), (711, .iconst (4), 712, 4, 0), (712, .iadd, 713, 0, 0), (713, .iaload, 714, 0, 0), (714, .invokevirtual 94, 717, 0, 0), (717, .if_icmp .eq (176), 720, 0, 893), (720, .iconst (0), 721, 0, 0), (721, .ireturn, 722, 0, 0), (722, .aload_n 1, 723, 0, 1), (723, .invokevirtual 95, 726, 0, 0), (726, .aload_n 2, 727, 0, 2), (727, .invokevirtual 98, 730, 0, 0), (730, .if_icmp .eq (163), 733, 0, 893), (733, .iconst (0), 734, 0, 0), (734, .ireturn, 735, 0, 0), (735, .aload_n 1, 736, 0, 1), (736, .invokevirtual 99, 739, 0, 0), (739, .aload_n 2, 740, 0, 2), (740, .invokevirtual 102, 743, 0, 0), (743, .if_icmp .eq (150), 746, 0, 893), (746, .iconst (0), 747, 0, 0), (747, .ireturn, 748, 0, 0), (748, .aload_n 1, 749, 0, 1), (749, .aload_n 0, 750, 0, 0), (750, .iload_n 3, 751, 0, 3), (751, .iconst (1), 752, 1, 0), (752, .iadd, 753, 0, 0), (753, .iaload, 754, 0, 0), (754, .aload_n 0, 755, 0, 0), (755, .iload_n 3, 756, 0, 3), (756, .iconst (2), 757, 2, 0), (757, .iadd, 758, 0, 0), (758, .iaload, 759, 0, 0), (759, .invokevirtual 103, 762, 0, 0), (762, .aload_n 2, 763, 0, 2), (763, .aload_n 0, 764, 0, 0), (764, .iload_n 3, 765, 0, 3), (765, .iconst (1), 766, 1, 0), (766, .iadd, 767, 0, 0), (767, .iaload, 768, 0, 0), (768, .aload_n 0, 769, 0, 0), (769, .iload_n 3, 770, 0, 3), (770, .iconst (2), 771, 2, 0), (771, .iadd, 772, 0, 0), (772, .iaload, 773, 0, 0), (773, .invokevirtual 106, 776, 0, 0), (776, .if_icmp .eq (117), 779, 0, 893), (779, .iconst (0), 780, 0, 0), (780, .ireturn, 781, 0, 0), (781, .aload_n 1, 782, 0, 1), (782, .aload_n 0, 783, 0, 0), (783, .iload_n 3, 784, 0, 3), (784, .iconst (1), 785, 1, 0), (785, .iadd, 786, 0, 0), (786, .iaload, 787, 0, 0), (787, .invokevirtual 107, 790, 0, 0), (790, .aload_n 2, 791, 0, 2), (791, .aload_n 0, 792, 0, 0), (792, .iload_n 3, 793, 0, 3), (793, .iconst (1), 794, 1, 0), (794, .iadd, 795, 0, 0), (795, .iaload, 796, 0, 0), (796, .invokevirtual 110, 799, 0, 0), (799, .if_icmp .eq (94), 802, 0, 893), (802, .iconst (0), 803, 0, 0), (803, .ireturn, 804, 0, 0), (804, .aload_n 1, 805, 0, 1), (805, .aload_n 0, 806, 0, 0), (806, .iload_n 3, 807, 0, 3), (807, .iconst (1), 808, 1, 0), (808, .iadd, 809, 0, 0), (809, .iaload, 810, 0, 0), (810, .aload_n 0, 811, 0, 0), (811, .iload_n 3, 812, 0, 3), (812, .iconst (2), 813, 2, 0), (813, .iadd, 814, 0, 0), (814, .iaload, 815, 0, 0), (815, .aload_n 0, 816, 0, 0), (816, .iload_n 3, 817, 0, 3), (817, .iconst (3), 818, 3, 0), (818, .iadd, 819, 0, 0), (819, .iaload, 820, 0, 0), (820, .invokevirtual 111, 823, 0, 0), (823, .aload_n 2, 824, 0, 2), (824, .aload_n 0, 825, 0, 0), (825, .iload_n 3, 826, 0, 3), (826, .iconst (1), 827, 1, 0), (827, .iadd, 828, 0, 0), (828, .iaload, 829, 0, 0), (829, .aload_n 0, 830, 0, 0), (830, .iload_n 3, 831, 0, 3), (831, .iconst (2), 832, 2, 0), (832, .iadd, 833, 0, 0), (833, .iaload, 834, 0, 0), (834, .aload_n 0, 835, 0, 0), (835, .iload_n 3, 836, 0, 3), (836, .iconst (3), 837, 3, 0), (837, .iadd, 838, 0, 0), (838, .iaload, 839, 0, 0), (839, .invokevirtual 114, 842, 0, 0), (842, .if_icmp .eq (51), 845, 0, 893), (845, .iconst (0), 846, 0, 0), (846, .ireturn, 847, 0, 0), (847, .aload_n 1, 848, 0, 1), (848, .aload_n 0, 849, 0, 0), (849, .iload_n 3, 850, 0, 3), (850, .iconst (1), 851, 1, 0), (851, .iadd, 852, 0, 0), (852, .iaload, 853, 0, 0), (853, .invokevirtual 115, 856, 0, 0), (856, .aload_n 2, 857, 0, 2), (857, .aload_n 0, 858, 0, 0), (858, .iload_n 3, 859, 0, 3), (859, .iconst (1), 860, 1, 0), (860, .iadd, 861, 0, 0), (861, .iaload, 862, 0, 0), (862, .invokevirtual 118, 865, 0, 0), (865, .if_icmp .eq (28), 868, 0, 893), (868, .iconst (0), 869, 0, 0), (869, .ireturn, 870, 0, 0), (870, .aload_n 1, 871, 0, 1), (871, .aload_n 0, 872, 0, 0), (872, .iload_n 3, 873, 0, 3), (873, .iconst (1), 874, 1, 0), (874, .iadd, 875, 0, 0), (875, .iaload, 876, 0, 0), (876, .invokevirtual 119, 879, 0, 0), (879, .aload_n 2, 880, 0, 2), (880, .aload_n 0, 881, 0, 0), (881, .iload_n 3, 882, 0, 3), (882, .iconst (1), 883, 1, 0), (883, .iadd, 884, 0, 0), (884, .iaload, 885, 0, 0), (885, .invokevirtual 122, 888, 0, 0), (888, .if_icmp .eq (5), 891, 0, 893), (891, .iconst (0), 892, 0, 0), (892, .ireturn, 893, 0, 0), (893, .iinc 3 (5), 896, 5, 3), (896, .goto (-878), 899, 0, 18), (899, .iconst (1), 900, 1, 0), (900, .ireturn, 901, 0, 0)], FL_la)
def Y_ig_bitCount : am_Y := (⟨"java/lang/Integer", "bitCount", "(I)I"⟩, prog_13_method_49_code, 1, (some .int), [(0, .iload_n 0, 1, 0, 0), (1, .iload_n 0, 2, 0, 0), (2, .iconst (1), 3, 1, 0), (3, .iushr, 4, 0, 0), (4, .ldc_w 265, 7, 1431655765, 587), (7, .iand, 8, 0, 0), (8, .isub, 9, 0, 0), (9, .istore_n 0, 10, 0, 0), (10, .iload_n 0, 11, 0, 0), (11, .ldc_w 266, 14, 858993459, 588), (14, .iand, 15, 0, 0), (15, .iload_n 0, 16, 0, 0), (16, .iconst (2), 17, 2, 0), (17, .iushr, 18, 0, 0), (18, .ldc_w 266, 21, 858993459, 588), (21, .iand, 22, 0, 0), (22, .iadd, 23, 0, 0), (23, .istore_n 0, 24, 0, 0), (24, .iload_n 0, 25, 0, 0), (25, .iload_n 0, 26, 0, 0), (26, .iconst (4), 27, 4, 0), (27, .iushr, 28, 0, 0), (28, .iadd, 29, 0, 0), (29, .ldc_w 267, 32, 252645135, 589), (32, .iand, 33, 0, 0), (33, .istore_n 0, 34, 0, 0), (34, .iload_n 0, 35, 0, 0), (35, .iload_n 0, 36, 0, 0), (36, .bipush (8), 38, 8, 0), (38, .iushr, 39, 0, 0), (39, .iadd, 40, 0, 0), (40, .istore_n 0, 41, 0, 0), (41, .iload_n 0, 42, 0, 0), (42, .iload_n 0, 43, 0, 0), (43, .bipush (16), 45, 16, 0), (45, .iushr, 46, 0, 0), (46, .iadd, 47, 0, 0), (47, .istore_n 0, 48, 0, 0), (48, .iload_n 0, 49, 0, 0), (49, .bipush (63), 51, 63, 0), (51, .iand, 52, 0, 0), (52, .ireturn, 53, 0, 0)], FL_ig)
def Y_ma_abs : am_Y := (⟨"java/lang/Math", "abs", "(I)I"⟩, prog_14_method_59_code, 1, (some .int), [(0, .iload_n 0, 1, 0, 0), (1, .ifCond .ge (8), 4, 0, 9), (4, .iload_n 0, 5, 0, 0), (5, .ineg, 6, 0, 0), (6, .goto (4), 9, 0, 10), (9, .iload_n 0, 10, 0, 0), (10, .ireturn, 11, 0, 0)], FL_ma)
def Y_ma_max_I : am_Y := (⟨"java/lang/Math", "max", "(II)I"⟩, prog_14_method_65_code, 2, (some .int), [(0, .iload_n 0, 1, 0, 0), (1, .iload_n 1, 2, 0, 1), (2, .if_icmp .lt (7), 5, 0, 9), (5, .iload_n 0, 6, 0, 0), (6, .goto (4), 9, 0, 10), (9, .iload_n 1, 10, 0, 1), (10, .ireturn, 11, 0, 0)], FL_ma)
def Y_ma_max_J : am_Y := (⟨"java/lang/Math", "max", "(JJ)J"⟩, prog_14_method_66_code, 4, (some .long), [(0, .lload_n 0, 1, 0, 0), (1, .lload_n 2, 2, 0, 2), (2, .lcmp, 3, 0, 0), (3, .ifCond .lt (7), 6, 0, 10), (6, .lload_n 0, 7, 0, 0), (7, .goto (4), 10, 0, 11), (10, .lload_n 2, 11, 0, 2), (11, .lreturn, 12, 0, 0)], FL_ma)
def Y_ma_min_I : am_Y := (⟨"java/lang/Math", "min", "(II)I"⟩, prog_14_method_69_code, 2, (some .int), [(0, .iload_n 0, 1, 0, 0), (1, .iload_n 1, 2, 0, 1), (2, .if_icmp .gt (7), 5, 0, 9), (5, .iload_n 0, 6, 0, 0), (6, .goto (4), 9, 0, 10), (9, .iload_n 1, 10, 0, 1), (10, .ireturn, 11, 0, 0)], FL_ma)
def Y_ma_min_J : am_Y := (⟨"java/lang/Math", "min", "(JJ)J"⟩, prog_14_method_70_code, 4, (some .long), [(0, .lload_n 0, 1, 0, 0), (1, .lload_n 2, 2, 0, 2), (2, .lcmp, 3, 0, 0), (3, .ifCond .gt (7), 6, 0, 10), (6, .lload_n 0, 7, 0, 0), (7, .goto (4), 10, 0, 11), (10, .lload_n 2, 11, 0, 2), (11, .lreturn, 12, 0, 0)], FL_ma)
end
section
theorem flok_es : ∀ q ∈ FL_es, am_fok "EarSchool" q := by
  intro q hq
  simp only [FL_es, List.mem_cons, List.not_mem_nil, or_false] at hq
  rcases hq with rfl | rfl | rfl | rfl | rfl | rfl | rfl | rfl | rfl | rfl | rfl | rfl | rfl | rfl | rfl | rfl | rfl | rfl | rfl | rfl | rfl | rfl | rfl | rfl | rfl | rfl | rfl | rfl | rfl | rfl | rfl | rfl | rfl | rfl | rfl | rfl | rfl
  · exact ⟨_, rfl, by decide, _, am_wd_in 311 (by decide +kernel), Or.inl rfl⟩
  · exact ⟨_, rfl, by decide, _, am_wd_in 312 (by decide +kernel), Or.inl rfl⟩
  · exact ⟨_, rfl, by decide, _, am_wd_in 313 (by decide +kernel), Or.inl rfl⟩
  · exact ⟨_, rfl, by decide, _, am_wd_in 314 (by decide +kernel), Or.inl rfl⟩
  · exact ⟨_, rfl, by decide, _, am_wd_in 315 (by decide +kernel), Or.inl rfl⟩
  · exact ⟨_, rfl, by decide, _, am_wd_in 316 (by decide +kernel), Or.inl rfl⟩
  · exact ⟨_, rfl, by decide, _, am_wd_in 317 (by decide +kernel), Or.inl rfl⟩
  · exact ⟨_, rfl, by decide, _, am_wd_in 318 (by decide +kernel), Or.inl rfl⟩
  · exact ⟨_, rfl, by decide, _, am_wd_in 319 (by decide +kernel), Or.inl rfl⟩
  · exact ⟨_, rfl, by decide, _, am_wd_in 89 (by decide +kernel), Or.inl rfl⟩
  · exact ⟨_, rfl, by decide, _, am_wd_in 82 (by decide +kernel), Or.inl rfl⟩
  · exact ⟨_, rfl, by decide, _, am_wd_in 86 (by decide +kernel), Or.inl rfl⟩
  · exact ⟨_, rfl, by decide, _, am_wd_in 113 (by decide +kernel), Or.inl rfl⟩
  · exact ⟨_, rfl, by decide, _, am_wd_in 118 (by decide +kernel), Or.inl rfl⟩
  · exact ⟨_, rfl, by decide, _, am_wd_in 123 (by decide +kernel), Or.inl rfl⟩
  · exact ⟨_, rfl, by decide, _, am_wd_in 111 (by decide +kernel), Or.inl rfl⟩
  · exact ⟨_, rfl, by decide, _, am_wd_in 128 (by decide +kernel), Or.inl rfl⟩
  · exact ⟨_, rfl, by decide, _, am_wd_in 130 (by decide +kernel), Or.inl rfl⟩
  · exact ⟨_, rfl, by decide, _, am_wd_in 193 (by decide +kernel), Or.inl rfl⟩
  · exact ⟨_, rfl, by decide, _, am_wd_in 195 (by decide +kernel), Or.inl rfl⟩
  · exact ⟨_, rfl, by decide, _, am_wd_in 197 (by decide +kernel), Or.inl rfl⟩
  · exact ⟨_, rfl, by decide, _, am_wd_in 191 (by decide +kernel), Or.inl rfl⟩
  · exact ⟨_, rfl, by decide, _, am_wd_in 223 (by decide +kernel), Or.inl rfl⟩
  · exact ⟨_, rfl, by decide, _, am_wd_in 219 (by decide +kernel), Or.inl rfl⟩
  · exact ⟨_, rfl, by decide, _, am_wd_in 227 (by decide +kernel), Or.inl rfl⟩
  · exact ⟨_, rfl, by decide, _, am_wd_in 225 (by decide +kernel), Or.inl rfl⟩
  · exact ⟨_, rfl, by decide, _, am_wd_in 221 (by decide +kernel), Or.inl rfl⟩
  · exact ⟨_, rfl, by decide, _, am_wd_in 270 (by decide +kernel), Or.inl rfl⟩
  · exact ⟨_, rfl, by decide, _, am_wd_in 272 (by decide +kernel), Or.inl rfl⟩
  · exact ⟨_, rfl, by decide, _, am_wd_in 268 (by decide +kernel), Or.inl rfl⟩
  · exact ⟨_, rfl, by decide, _, am_wd_in 258 (by decide +kernel), Or.inl rfl⟩
  · exact ⟨_, rfl, by decide, _, am_wd_in 261 (by decide +kernel), Or.inl rfl⟩
  · exact ⟨_, rfl, by decide, _, am_wd_in 263 (by decide +kernel), Or.inl rfl⟩
  · exact ⟨_, rfl, by decide, _, am_wd_in 265 (by decide +kernel), Or.inl rfl⟩
  · exact ⟨_, rfl, by decide, _, am_wd_in 303 (by decide +kernel), Or.inl rfl⟩
  · exact ⟨_, rfl, by decide, _, am_wd_in 305 (by decide +kernel), Or.inl rfl⟩
  · exact ⟨_, rfl, by decide, _, am_wd_in 176 (by decide +kernel), Or.inl rfl⟩
theorem flok_ct : ∀ q ∈ FL_ct, am_fok "EarSchool$CountTable" q := by
  intro q hq
  simp only [FL_ct, List.mem_cons, List.not_mem_nil, or_false] at hq
  rcases hq with rfl | rfl | rfl | rfl | rfl | rfl
  · exact ⟨_, rfl, by decide, "EarSchool$CountTable", am_wd_in 155 (by decide +kernel), Or.inr (am_wd_in 156 (by decide +kernel))⟩
  · exact ⟨_, rfl, by decide, _, am_wd_in 114 (by decide +kernel), Or.inl rfl⟩
  · exact ⟨_, rfl, by decide, _, am_wd_in 92 (by decide +kernel), Or.inl rfl⟩
  · exact ⟨_, rfl, by decide, _, am_wd_in 124 (by decide +kernel), Or.inl rfl⟩
  · exact ⟨_, rfl, by decide, _, am_wd_in 120 (by decide +kernel), Or.inl rfl⟩
  · exact ⟨_, rfl, by decide, _, am_wd_in 84 (by decide +kernel), Or.inl rfl⟩
theorem flok_ha : ∀ q ∈ FL_ha, am_fok "EarSchool$Harmony" q := by
  intro q hq
  simp only [FL_ha, List.mem_cons, List.not_mem_nil, or_false] at hq
  rcases hq with rfl | rfl | rfl | rfl | rfl | rfl | rfl | rfl
  · exact ⟨_, rfl, by decide, _, am_wd_in 218 (by decide +kernel), Or.inl rfl⟩
  · exact ⟨_, rfl, by decide, _, am_wd_in 220 (by decide +kernel), Or.inl rfl⟩
  · exact ⟨_, rfl, by decide, _, am_wd_in 222 (by decide +kernel), Or.inl rfl⟩
  · exact ⟨_, rfl, by decide, _, am_wd_in 224 (by decide +kernel), Or.inl rfl⟩
  · exact ⟨_, rfl, by decide, _, am_wd_in 226 (by decide +kernel), Or.inl rfl⟩
  · exact ⟨_, rfl, by decide, _, am_wd_in 228 (by decide +kernel), Or.inl rfl⟩
  · exact ⟨_, rfl, by decide, _, am_wd_in 229 (by decide +kernel), Or.inl rfl⟩
  · exact ⟨_, rfl, by decide, _, am_wd_in 230 (by decide +kernel), Or.inl rfl⟩
theorem flok_ju : ∀ q ∈ FL_ju, am_fok "EarSchool$Judgement" q := by
  intro q hq
  simp only [FL_ju, List.mem_cons, List.not_mem_nil, or_false] at hq
  rcases hq with rfl | rfl | rfl | rfl | rfl | rfl | rfl | rfl | rfl | rfl | rfl | rfl | rfl
  · exact ⟨_, rfl, by decide, _, am_wd_in 256 (by decide +kernel), Or.inl rfl⟩
  · exact ⟨_, rfl, by decide, _, am_wd_in 257 (by decide +kernel), Or.inl rfl⟩
  · exact ⟨_, rfl, by decide, _, am_wd_in 259 (by decide +kernel), Or.inl rfl⟩
  · exact ⟨_, rfl, by decide, _, am_wd_in 262 (by decide +kernel), Or.inl rfl⟩
  · exact ⟨_, rfl, by decide, _, am_wd_in 264 (by decide +kernel), Or.inl rfl⟩
  · exact ⟨_, rfl, by decide, _, am_wd_in 266 (by decide +kernel), Or.inl rfl⟩
  · exact ⟨_, rfl, by decide, _, am_wd_in 269 (by decide +kernel), Or.inl rfl⟩
  · exact ⟨_, rfl, by decide, _, am_wd_in 271 (by decide +kernel), Or.inl rfl⟩
  · exact ⟨_, rfl, by decide, _, am_wd_in 254 (by decide +kernel), Or.inl rfl⟩
  · exact ⟨_, rfl, by decide, _, am_wd_in 255 (by decide +kernel), Or.inl rfl⟩
  · exact ⟨_, rfl, by decide, _, am_wd_in 90 (by decide +kernel), Or.inl rfl⟩
  · exact ⟨_, rfl, by decide, _, am_wd_in 83 (by decide +kernel), Or.inl rfl⟩
  · exact ⟨_, rfl, by decide, _, am_wd_in 87 (by decide +kernel), Or.inl rfl⟩
theorem flok_mt : ∀ q ∈ FL_mt, am_fok "EarSchool$MelodyTable" q := by
  intro q hq
  simp only [FL_mt, List.mem_cons, List.not_mem_nil, or_false] at hq
  rcases hq with rfl | rfl | rfl | rfl | rfl | rfl | rfl | rfl | rfl | rfl
  · exact ⟨_, rfl, by decide, _, am_wd_in 159 (by decide +kernel), Or.inl rfl⟩
  · exact ⟨_, rfl, by decide, _, am_wd_in 159 (by decide +kernel), Or.inl rfl⟩
  · exact ⟨_, rfl, by decide, _, am_wd_in 160 (by decide +kernel), Or.inl rfl⟩
  · exact ⟨_, rfl, by decide, _, am_wd_in 160 (by decide +kernel), Or.inl rfl⟩
  · exact ⟨_, rfl, by decide, _, am_wd_in 154 (by decide +kernel), Or.inl rfl⟩
  · exact ⟨_, rfl, by decide, _, am_wd_in 154 (by decide +kernel), Or.inl rfl⟩
  · exact ⟨_, rfl, by decide, _, am_wd_in 126 (by decide +kernel), Or.inl rfl⟩
  · exact ⟨_, rfl, by decide, _, am_wd_in 116 (by decide +kernel), Or.inl rfl⟩
  · exact ⟨_, rfl, by decide, _, am_wd_in 121 (by decide +kernel), Or.inl rfl⟩
  · exact ⟨_, rfl, by decide, _, am_wd_in 131 (by decide +kernel), Or.inl rfl⟩
theorem flok_me : ∀ q ∈ FL_me, am_fok "EarSchool$Metre" q := by
  intro q hq
  simp only [FL_me, List.mem_cons, List.not_mem_nil, or_false] at hq
  rcases hq with rfl | rfl | rfl | rfl | rfl | rfl | rfl
  · exact ⟨_, rfl, by decide, _, am_wd_in 189 (by decide +kernel), Or.inl rfl⟩
  · exact ⟨_, rfl, by decide, _, am_wd_in 190 (by decide +kernel), Or.inl rfl⟩
  · exact ⟨_, rfl, by decide, _, am_wd_in 192 (by decide +kernel), Or.inl rfl⟩
  · exact ⟨_, rfl, by decide, _, am_wd_in 194 (by decide +kernel), Or.inl rfl⟩
  · exact ⟨_, rfl, by decide, _, am_wd_in 196 (by decide +kernel), Or.inl rfl⟩
  · exact ⟨_, rfl, by decide, _, am_wd_in 198 (by decide +kernel), Or.inl rfl⟩
  · exact ⟨_, rfl, by decide, _, am_wd_in 94 (by decide +kernel), Or.inl rfl⟩
theorem flok_no : ∀ q ∈ FL_no, am_fok "EarSchool$Notes" q := by
  intro q hq
  simp only [FL_no, List.mem_cons, List.not_mem_nil, or_false] at hq
  rcases hq with rfl | rfl | rfl
  · exact ⟨_, rfl, by decide, _, am_wd_in 80 (by decide +kernel), Or.inl rfl⟩
  · exact ⟨_, rfl, by decide, _, am_wd_in 85 (by decide +kernel), Or.inl rfl⟩
  · exact ⟨_, rfl, by decide, _, am_wd_in 88 (by decide +kernel), Or.inl rfl⟩
theorem flok_pu : ∀ q ∈ FL_pu, am_fok "EarSchool$Pupils" q := by
  intro q hq
  simp only [FL_pu, List.mem_cons, List.not_mem_nil, or_false] at hq
  rcases hq with rfl | rfl | rfl | rfl | rfl | rfl
  · exact ⟨_, rfl, by decide, _, am_wd_in 302 (by decide +kernel), Or.inl rfl⟩
  · exact ⟨_, rfl, by decide, _, am_wd_in 304 (by decide +kernel), Or.inl rfl⟩
  · exact ⟨_, rfl, by decide, _, am_wd_in 267 (by decide +kernel), Or.inl rfl⟩
  · exact ⟨_, rfl, by decide, _, am_wd_in 260 (by decide +kernel), Or.inl rfl⟩
  · exact ⟨_, rfl, by decide, _, am_wd_in 91 (by decide +kernel), Or.inl rfl⟩
  · exact ⟨_, rfl, by decide, _, am_wd_in 81 (by decide +kernel), Or.inl rfl⟩
theorem flok_ru : ∀ q ∈ FL_ru, am_fok "EarSchool$Rule" q := by
  intro q hq
  simp only [FL_ru, List.mem_cons, List.not_mem_nil, or_false] at hq
  rcases hq with rfl | rfl | rfl | rfl | rfl | rfl
  · exact ⟨_, rfl, by decide, _, am_wd_in 110 (by decide +kernel), Or.inl rfl⟩
  · exact ⟨_, rfl, by decide, _, am_wd_in 112 (by decide +kernel), Or.inl rfl⟩
  · exact ⟨_, rfl, by decide, _, am_wd_in 117 (by decide +kernel), Or.inl rfl⟩
  · exact ⟨_, rfl, by decide, _, am_wd_in 122 (by decide +kernel), Or.inl rfl⟩
  · exact ⟨_, rfl, by decide, _, am_wd_in 127 (by decide +kernel), Or.inl rfl⟩
  · exact ⟨_, rfl, by decide, _, am_wd_in 129 (by decide +kernel), Or.inl rfl⟩
theorem flok_wt : ∀ q ∈ FL_wt, am_fok "EarSchool$WeightTable" q := by
  intro q hq
  simp only [FL_wt, List.mem_cons, List.not_mem_nil, or_false] at hq
  rcases hq with rfl | rfl | rfl | rfl | rfl | rfl
  · exact ⟨_, rfl, by decide, _, am_wd_in 175 (by decide +kernel), Or.inl rfl⟩
  · exact ⟨_, rfl, by decide, "EarSchool$WeightTable", am_wd_in 157 (by decide +kernel), Or.inr (am_wd_in 158 (by decide +kernel))⟩
  · exact ⟨_, rfl, by decide, _, am_wd_in 115 (by decide +kernel), Or.inl rfl⟩
  · exact ⟨_, rfl, by decide, _, am_wd_in 93 (by decide +kernel), Or.inl rfl⟩
  · exact ⟨_, rfl, by decide, _, am_wd_in 125 (by decide +kernel), Or.inl rfl⟩
  · exact ⟨_, rfl, by decide, _, am_wd_in 119 (by decide +kernel), Or.inl rfl⟩
theorem flok_la : ∀ q ∈ FL_la, am_fok "EarSchoolLaw" q := fun q hq => absurd hq List.not_mem_nil
theorem flok_mo : ∀ q ∈ FL_mo, am_fok "EarSchoolModel" q := by
  intro q hq
  simp only [FL_mo, List.mem_cons, List.not_mem_nil, or_false] at hq
  rcases hq with rfl | rfl | rfl | rfl | rfl | rfl | rfl | rfl | rfl | rfl | rfl | rfl | rfl | rfl | rfl | rfl | rfl | rfl | rfl | rfl | rfl | rfl | rfl | rfl | rfl | rfl | rfl | rfl | rfl | rfl | rfl | rfl | rfl | rfl | rfl | rfl | rfl | rfl
  · exact ⟨_, rfl, by decide, _, am_wd_in 794 (by decide +kernel), Or.inl rfl⟩
  · exact ⟨_, rfl, by decide, _, am_wd_in 795 (by decide +kernel), Or.inl rfl⟩
  · exact ⟨_, rfl, by decide, _, am_wd_in 797 (by decide +kernel), Or.inl rfl⟩
  · exact ⟨_, rfl, by decide, _, am_wd_in 798 (by decide +kernel), Or.inl rfl⟩
  · exact ⟨_, rfl, by decide, _, am_wd_in 800 (by decide +kernel), Or.inl rfl⟩
  · exact ⟨_, rfl, by decide, _, am_wd_in 801 (by decide +kernel), Or.inl rfl⟩
  · exact ⟨_, rfl, by decide, _, am_wd_in 802 (by decide +kernel), Or.inl rfl⟩
  · exact ⟨_, rfl, by decide, _, am_wd_in 803 (by decide +kernel), Or.inl rfl⟩
  · exact ⟨_, rfl, by decide, _, am_wd_in 804 (by decide +kernel), Or.inl rfl⟩
  · exact ⟨_, rfl, by decide, _, am_wd_in 805 (by decide +kernel), Or.inl rfl⟩
  · exact ⟨_, rfl, by decide, _, am_wd_in 806 (by decide +kernel), Or.inl rfl⟩
  · exact ⟨_, rfl, by decide, _, am_wd_in 807 (by decide +kernel), Or.inl rfl⟩
  · exact ⟨_, rfl, by decide, _, am_wd_in 808 (by decide +kernel), Or.inl rfl⟩
  · exact ⟨_, rfl, by decide, _, am_wd_in 809 (by decide +kernel), Or.inl rfl⟩
  · exact ⟨_, rfl, by decide, _, am_wd_in 810 (by decide +kernel), Or.inl rfl⟩
  · exact ⟨_, rfl, by decide, _, am_wd_in 811 (by decide +kernel), Or.inl rfl⟩
  · exact ⟨_, rfl, by decide, _, am_wd_in 814 (by decide +kernel), Or.inl rfl⟩
  · exact ⟨_, rfl, by decide, _, am_wd_in 815 (by decide +kernel), Or.inl rfl⟩
  · exact ⟨_, rfl, by decide, _, am_wd_in 816 (by decide +kernel), Or.inl rfl⟩
  · exact ⟨_, rfl, by decide, _, am_wd_in 817 (by decide +kernel), Or.inl rfl⟩
  · exact ⟨_, rfl, by decide, _, am_wd_in 818 (by decide +kernel), Or.inl rfl⟩
  · exact ⟨_, rfl, by decide, _, am_wd_in 819 (by decide +kernel), Or.inl rfl⟩
  · exact ⟨_, rfl, by decide, _, am_wd_in 820 (by decide +kernel), Or.inl rfl⟩
  · exact ⟨_, rfl, by decide, _, am_wd_in 821 (by decide +kernel), Or.inl rfl⟩
  · exact ⟨_, rfl, by decide, _, am_wd_in 822 (by decide +kernel), Or.inl rfl⟩
  · exact ⟨_, rfl, by decide, _, am_wd_in 823 (by decide +kernel), Or.inl rfl⟩
  · exact ⟨_, rfl, by decide, _, am_wd_in 824 (by decide +kernel), Or.inl rfl⟩
  · exact ⟨_, rfl, by decide, _, am_wd_in 826 (by decide +kernel), Or.inl rfl⟩
  · exact ⟨_, rfl, by decide, _, am_wd_in 827 (by decide +kernel), Or.inl rfl⟩
  · exact ⟨_, rfl, by decide, _, am_wd_in 828 (by decide +kernel), Or.inl rfl⟩
  · exact ⟨_, rfl, by decide, _, am_wd_in 829 (by decide +kernel), Or.inl rfl⟩
  · exact ⟨_, rfl, by decide, _, am_wd_in 830 (by decide +kernel), Or.inl rfl⟩
  · exact ⟨_, rfl, by decide, _, am_wd_in 793 (by decide +kernel), Or.inl rfl⟩
  · exact ⟨_, rfl, by decide, _, am_wd_in 799 (by decide +kernel), Or.inl rfl⟩
  · exact ⟨_, rfl, by decide, _, am_wd_in 812 (by decide +kernel), Or.inl rfl⟩
  · exact ⟨_, rfl, by decide, _, am_wd_in 813 (by decide +kernel), Or.inl rfl⟩
  · exact ⟨_, rfl, by decide, _, am_wd_in 796 (by decide +kernel), Or.inl rfl⟩
  · exact ⟨_, rfl, by decide, _, am_wd_in 825 (by decide +kernel), Or.inl rfl⟩
theorem flok_ig : ∀ q ∈ FL_ig, am_fok "java/lang/Integer" q := fun q hq => absurd hq List.not_mem_nil
theorem flok_ma : ∀ q ∈ FL_ma, am_fok "java/lang/Math" q := fun q hq => absurd hq List.not_mem_nil
end
section
theorem ok_mo_in : am_yok Y_mo_in := ⟨⟨by decide +kernel, flok_mo⟩, by decide +kernel, by decide, am_wd_in 916 (by decide +kernel)⟩
theorem ok_mo_plus : am_yok Y_mo_plus := ⟨⟨by decide +kernel, flok_mo⟩, by decide +kernel, by decide, am_wd_in 974 (by decide +kernel)⟩
theorem ok_mo_note : am_yok Y_mo_note := ⟨⟨by decide +kernel, flok_mo⟩, by decide +kernel, by decide, am_wd_in 912 (by decide +kernel)⟩
theorem ok_mo_drop : am_yok Y_mo_drop := ⟨⟨by decide +kernel, flok_mo⟩, by decide +kernel, by decide, am_wd_in 921 (by decide +kernel)⟩
theorem ok_mo_at : am_yok Y_mo_at := ⟨⟨by decide +kernel, flok_mo⟩, by decide +kernel, by decide, am_wd_in 925 (by decide +kernel)⟩
theorem ok_mo_range : am_yok Y_mo_range := ⟨⟨by decide +kernel, flok_mo⟩, by decide +kernel, by decide, am_wd_in 929 (by decide +kernel)⟩
theorem ok_mo_bits : am_yok Y_mo_bits := ⟨⟨by decide +kernel, flok_mo⟩, by decide +kernel, by decide, am_wd_in 934 (by decide +kernel)⟩
theorem ok_mo_bound : am_yok Y_mo_bound := ⟨⟨by decide +kernel, flok_mo⟩, by decide +kernel, by decide, am_wd_in 941 (by decide +kernel)⟩
theorem ok_mo_hasClass : am_yok Y_mo_hasClass := ⟨⟨by decide +kernel, flok_mo⟩, by decide +kernel, by decide, am_wd_in 961 (by decide +kernel)⟩
theorem ok_mo_fits : am_yok Y_mo_fits := ⟨⟨by decide +kernel, flok_mo⟩, by decide +kernel, by decide, am_wd_in 958 (by decide +kernel)⟩
theorem ok_mo_behind : am_yok Y_mo_behind := ⟨⟨by decide +kernel, flok_mo⟩, by decide +kernel, by decide, am_wd_in 969 (by decide +kernel)⟩
theorem ok_mo_cellAt : am_yok Y_mo_cellAt := ⟨⟨by decide +kernel, flok_mo⟩, by decide +kernel, by decide, am_wd_in 954 (by decide +kernel)⟩
theorem ok_mo_countWays : am_yok Y_mo_countWays := ⟨⟨by decide +kernel, flok_mo⟩, by decide +kernel, by decide, am_wd_in 951 (by decide +kernel)⟩
theorem ok_mo_waysOn : am_yok Y_mo_waysOn := ⟨⟨by decide +kernel, flok_mo⟩, by decide +kernel, by decide, am_wd_in 965 (by decide +kernel)⟩
theorem ok_mo_melodies : am_yok Y_mo_melodies := ⟨⟨by decide +kernel, flok_mo⟩, by decide +kernel, by decide, am_wd_in 947 (by decide +kernel)⟩
theorem ok_mo_lay : am_yok Y_mo_lay := ⟨⟨by decide +kernel, flok_mo⟩, by decide +kernel, by decide, am_wd_in 984 (by decide +kernel)⟩
theorem ok_mo_laid : am_yok Y_mo_laid := ⟨⟨by decide +kernel, flok_mo⟩, by decide +kernel, by decide, am_wd_in 988 (by decide +kernel)⟩
theorem ok_mo_melody : am_yok Y_mo_melody := ⟨⟨by decide +kernel, flok_mo⟩, by decide +kernel, by decide, am_wd_in 979 (by decide +kernel)⟩
theorem ok_mo_place : am_yok Y_mo_place := ⟨⟨by decide +kernel, flok_mo⟩, by decide +kernel, by decide, am_wd_in 992 (by decide +kernel)⟩
theorem ok_mo_bars : am_yok Y_mo_bars := ⟨⟨by decide +kernel, flok_mo⟩, by decide +kernel, by decide, am_wd_in 997 (by decide +kernel)⟩
theorem ok_mo_some : am_yok Y_mo_some := ⟨⟨by decide +kernel, flok_mo⟩, by decide +kernel, by decide, am_wd_in 1002 (by decide +kernel)⟩
theorem ok_mo_goes : am_yok Y_mo_goes := ⟨⟨by decide +kernel, flok_mo⟩, by decide +kernel, by decide, am_wd_in 1014 (by decide +kernel)⟩
theorem ok_mo_countFills : am_yok Y_mo_countFills := ⟨⟨by decide +kernel, flok_mo⟩, by decide +kernel, by decide, am_wd_in 1010 (by decide +kernel)⟩
theorem ok_mo_rhythms : am_yok Y_mo_rhythms := ⟨⟨by decide +kernel, flok_mo⟩, by decide +kernel, by decide, am_wd_in 1006 (by decide +kernel)⟩
theorem ok_mo_rhythm : am_yok Y_mo_rhythm := ⟨⟨by decide +kernel, flok_mo⟩, by decide +kernel, by decide, am_wd_in 1018 (by decide +kernel)⟩
theorem ok_mo_mask : am_yok Y_mo_mask := ⟨⟨by decide +kernel, flok_mo⟩, by decide +kernel, by decide, am_wd_in 1023 (by decide +kernel)⟩
theorem ok_mo_clear : am_yok Y_mo_clear := ⟨⟨by decide +kernel, flok_mo⟩, by decide +kernel, by decide, am_wd_in 1027 (by decide +kernel)⟩
theorem ok_mo_voice : am_yok Y_mo_voice := ⟨⟨by decide +kernel, flok_mo⟩, by decide +kernel, by decide, am_wd_in 1031 (by decide +kernel)⟩
theorem ok_mo_pitchOf : am_yok Y_mo_pitchOf := ⟨⟨by decide +kernel, flok_mo⟩, by decide +kernel, by decide, am_wd_in 1052 (by decide +kernel)⟩
theorem ok_mo_findThrees : am_yok Y_mo_findThrees := ⟨⟨by decide +kernel, flok_mo⟩, by decide +kernel, by decide, am_wd_in 1044 (by decide +kernel)⟩
theorem ok_mo_follows : am_yok Y_mo_follows := ⟨⟨by decide +kernel, flok_mo⟩, by decide +kernel, by decide, am_wd_in 1048 (by decide +kernel)⟩
theorem ok_mo_countChords : am_yok Y_mo_countChords := ⟨⟨by decide +kernel, flok_mo⟩, by decide +kernel, by decide, am_wd_in 1040 (by decide +kernel)⟩
theorem ok_mo_chords : am_yok Y_mo_chords := ⟨⟨by decide +kernel, flok_mo⟩, by decide +kernel, by decide, am_wd_in 1036 (by decide +kernel)⟩
theorem ok_mo_chord : am_yok Y_mo_chord := ⟨⟨by decide +kernel, flok_mo⟩, by decide +kernel, by decide, am_wd_in 1056 (by decide +kernel)⟩
theorem ok_mo_meant : am_yok Y_mo_meant := ⟨⟨by decide +kernel, flok_mo⟩, by decide +kernel, by decide, am_wd_in 1062 (by decide +kernel)⟩
theorem ok_mo_costAt : am_yok Y_mo_costAt := ⟨⟨by decide +kernel, flok_mo⟩, by decide +kernel, by decide, am_wd_in 1069 (by decide +kernel)⟩
theorem ok_mo_hitCost : am_yok Y_mo_hitCost := ⟨⟨by decide +kernel, flok_mo⟩, by decide +kernel, by decide, am_wd_in 1081 (by decide +kernel)⟩
theorem ok_mo_moreCost : am_yok Y_mo_moreCost := ⟨⟨by decide +kernel, flok_mo⟩, by decide +kernel, by decide, am_wd_in 1085 (by decide +kernel)⟩
theorem ok_mo_by : am_yok Y_mo_by := ⟨⟨by decide +kernel, flok_mo⟩, by decide +kernel, by decide, am_wd_in 1077 (by decide +kernel)⟩
theorem ok_mo_leastAt : am_yok Y_mo_leastAt := ⟨⟨by decide +kernel, flok_mo⟩, by decide +kernel, by decide, am_wd_in 1073 (by decide +kernel)⟩
theorem ok_mo_layAct : am_yok Y_mo_layAct := ⟨⟨by decide +kernel, flok_mo⟩, by decide +kernel, by decide, am_wd_in 1089 (by decide +kernel)⟩
theorem ok_mo_judge : am_yok Y_mo_judge := ⟨⟨by decide +kernel, flok_mo⟩, by decide +kernel, by decide, am_wd_in 1066 (by decide +kernel)⟩
theorem ok_mo_act : am_yok Y_mo_act := ⟨⟨by decide +kernel, flok_mo⟩, by decide +kernel, by decide, am_wd_in 1093 (by decide +kernel)⟩
theorem ok_mo_learn : am_yok Y_mo_learn := ⟨⟨by decide +kernel, flok_mo⟩, by decide +kernel, by decide, am_wd_in 1097 (by decide +kernel)⟩
theorem ok_mo_weight : am_yok Y_mo_weight := ⟨⟨by decide +kernel, flok_mo⟩, by decide +kernel, by decide, am_wd_in 1106 (by decide +kernel)⟩
theorem ok_mo_table : am_yok Y_mo_table := ⟨⟨by decide +kernel, flok_mo⟩, by decide +kernel, by decide, am_wd_in 1102 (by decide +kernel)⟩
theorem ok_mo_bestOn : am_yok Y_mo_bestOn := ⟨⟨by decide +kernel, flok_mo⟩, by decide +kernel, by decide, am_wd_in 1114 (by decide +kernel)⟩
theorem ok_mo_goingOn : am_yok Y_mo_goingOn := ⟨⟨by decide +kernel, flok_mo⟩, by decide +kernel, by decide, am_wd_in 1118 (by decide +kernel)⟩
theorem ok_mo_drill : am_yok Y_mo_drill := ⟨⟨by decide +kernel, flok_mo⟩, by decide +kernel, by decide, am_wd_in 1110 (by decide +kernel)⟩
theorem ok_mo_count : am_yok Y_mo_count := ⟨⟨by decide +kernel, flok_mo⟩, by decide +kernel, by decide, am_wd_in 1122 (by decide +kernel)⟩
end
section
theorem ok_es_note : am_yok Y_es_note := ⟨⟨by decide +kernel, flok_es⟩, by decide +kernel, by decide, am_wd_in 342 (by decide +kernel)⟩
theorem ok_es_drop : am_yok Y_es_drop := ⟨⟨by decide +kernel, flok_es⟩, by decide +kernel, by decide, am_wd_in 357 (by decide +kernel)⟩
theorem ok_es_at : am_yok Y_es_at := ⟨⟨by decide +kernel, flok_es⟩, by decide +kernel, by decide, am_wd_in 361 (by decide +kernel)⟩
theorem ok_es_range : am_yok Y_es_range := ⟨⟨by decide +kernel, flok_es⟩, by decide +kernel, by decide, am_wd_in 365 (by decide +kernel)⟩
theorem ok_es_bits : am_yok Y_es_bits := ⟨⟨by decide +kernel, flok_es⟩, by decide +kernel, by decide, am_wd_in 375 (by decide +kernel)⟩
theorem ok_es_bound : am_yok Y_es_bound := ⟨⟨by decide +kernel, flok_es⟩, by decide +kernel, by decide, am_wd_in 380 (by decide +kernel)⟩
theorem ok_es_melodies : am_yok Y_es_melodies := ⟨⟨by decide +kernel, flok_es⟩, by decide +kernel, by decide, am_wd_in 384 (by decide +kernel)⟩
theorem ok_es_melody : am_yok Y_es_melody := ⟨⟨by decide +kernel, flok_es⟩, by decide +kernel, by decide, am_wd_in 498 (by decide +kernel)⟩
theorem ok_es_place : am_yok Y_es_place := ⟨⟨by decide +kernel, flok_es⟩, by decide +kernel, by decide, am_wd_in 519 (by decide +kernel)⟩
theorem ok_es_bars : am_yok Y_es_bars := ⟨⟨by decide +kernel, flok_es⟩, by decide +kernel, by decide, am_wd_in 528 (by decide +kernel)⟩
theorem ok_es_some : am_yok Y_es_some := ⟨⟨by decide +kernel, flok_es⟩, by decide +kernel, by decide, am_wd_in 532 (by decide +kernel)⟩
theorem ok_es_rhythms : am_yok Y_es_rhythms := ⟨⟨by decide +kernel, flok_es⟩, by decide +kernel, by decide, am_wd_in 548 (by decide +kernel)⟩
theorem ok_es_rhythm : am_yok Y_es_rhythm := ⟨⟨by decide +kernel, flok_es⟩, by decide +kernel, by decide, am_wd_in 574 (by decide +kernel)⟩
theorem ok_es_mask : am_yok Y_es_mask := ⟨⟨by decide +kernel, flok_es⟩, by decide +kernel, by decide, am_wd_in 583 (by decide +kernel)⟩
theorem ok_es_clear : am_yok Y_es_clear := ⟨⟨by decide +kernel, flok_es⟩, by decide +kernel, by decide, am_wd_in 593 (by decide +kernel)⟩
theorem ok_es_voice : am_yok Y_es_voice := ⟨⟨by decide +kernel, flok_es⟩, by decide +kernel, by decide, am_wd_in 597 (by decide +kernel)⟩
theorem ok_es_chords : am_yok Y_es_chords := ⟨⟨by decide +kernel, flok_es⟩, by decide +kernel, by decide, am_wd_in 601 (by decide +kernel)⟩
theorem ok_es_chord : am_yok Y_es_chord := ⟨⟨by decide +kernel, flok_es⟩, by decide +kernel, by decide, am_wd_in 644 (by decide +kernel)⟩
theorem ok_es_meant : am_yok Y_es_meant := ⟨⟨by decide +kernel, flok_es⟩, by decide +kernel, by decide, am_wd_in 653 (by decide +kernel)⟩
theorem ok_es_judge : am_yok Y_es_judge := ⟨⟨by decide +kernel, flok_es⟩, by decide +kernel, by decide, am_wd_in 662 (by decide +kernel)⟩
theorem ok_es_act : am_yok Y_es_act := ⟨⟨by decide +kernel, flok_es⟩, by decide +kernel, by decide, am_wd_in 729 (by decide +kernel)⟩
theorem ok_es_learn : am_yok Y_es_learn := ⟨⟨by decide +kernel, flok_es⟩, by decide +kernel, by decide, am_wd_in 733 (by decide +kernel)⟩
theorem ok_es_table : am_yok Y_es_table := ⟨⟨by decide +kernel, flok_es⟩, by decide +kernel, by decide, am_wd_in 748 (by decide +kernel)⟩
theorem ok_es_drill : am_yok Y_es_drill := ⟨⟨by decide +kernel, flok_es⟩, by decide +kernel, by decide, am_wd_in 756 (by decide +kernel)⟩
theorem ok_es_count : am_yok Y_es_count := ⟨⟨by decide +kernel, flok_es⟩, by decide +kernel, by decide, am_wd_in 785 (by decide +kernel)⟩
theorem ok_es_outside : am_yok Y_es_outside := ⟨⟨by decide +kernel, flok_es⟩, by decide +kernel, by decide, am_wd_in 345 (by decide +kernel)⟩
theorem ok_es_cappedSum : am_yok Y_es_cappedSum := ⟨⟨by decide +kernel, flok_es⟩, by decide +kernel, by decide, am_wd_in 477 (by decide +kernel)⟩
theorem ok_es_hasClass : am_yok Y_es_hasClass := ⟨⟨by decide +kernel, flok_es⟩, by decide +kernel, by decide, am_wd_in 401 (by decide +kernel)⟩
theorem ok_ct_ofNone : am_yok Y_ct_ofNone := ⟨⟨by decide +kernel, flok_ct⟩, by decide +kernel, by decide, am_wd_in 407 (by decide +kernel)⟩
theorem ok_ct_ofEnd : am_yok Y_ct_ofEnd := ⟨⟨by decide +kernel, flok_ct⟩, by decide +kernel, by decide, am_wd_in 430 (by decide +kernel)⟩
theorem ok_ct_together : am_yok Y_ct_together := ⟨⟨by decide +kernel, flok_ct⟩, by decide +kernel, by decide, am_wd_in 474 (by decide +kernel)⟩
theorem ok_ct_stepped : am_yok Y_ct_stepped := ⟨⟨by decide +kernel, flok_ct⟩, by decide +kernel, by decide, am_wd_in 461 (by decide +kernel)⟩
theorem ok_ct_spell : am_yok Y_ct_spell := ⟨⟨by decide +kernel, flok_ct⟩, by decide +kernel, by decide, am_wd_in 502 (by decide +kernel)⟩
theorem ok_ct_ahead : am_yok Y_ct_ahead := ⟨⟨by decide +kernel, flok_ct⟩, by decide +kernel, by decide, am_wd_in 524 (by decide +kernel)⟩
theorem ok_mt_forget : am_yok Y_mt_forget := ⟨⟨by decide +kernel, flok_mt⟩, by decide +kernel, by decide, am_wd_in 371 (by decide +kernel)⟩
theorem ok_mt_fill : am_yok Y_mt_fill := ⟨⟨by decide +kernel, flok_mt⟩, by decide +kernel, by decide, am_wd_in 390 (by decide +kernel)⟩
theorem ok_mt_fillPitch : am_yok Y_mt_fillPitch := ⟨⟨by decide +kernel, flok_mt⟩, by decide +kernel, by decide, am_wd_in 394 (by decide +kernel)⟩
theorem ok_mt_fillStates : am_yok Y_mt_fillStates := ⟨⟨by decide +kernel, flok_mt⟩, by decide +kernel, by decide, am_wd_in 415 (by decide +kernel)⟩
theorem ok_mt_index : am_yok Y_mt_index := ⟨⟨by decide +kernel, flok_mt⟩, by decide +kernel, by decide, am_wd_in 423 (by decide +kernel)⟩
theorem ok_mt_put : am_yok Y_mt_put := ⟨⟨by decide +kernel, flok_mt⟩, by decide +kernel, by decide, am_wd_in 419 (by decide +kernel)⟩
theorem ok_mt_from : am_yok Y_mt_from := ⟨⟨by decide +kernel, flok_mt⟩, by decide +kernel, by decide, am_wd_in 455 (by decide +kernel)⟩
theorem ok_mt_byStep : am_yok Y_mt_byStep := ⟨⟨by decide +kernel, flok_mt⟩, by decide +kernel, by decide, am_wd_in 437 (by decide +kernel)⟩
theorem ok_mt_onward : am_yok Y_mt_onward := ⟨⟨by decide +kernel, flok_mt⟩, by decide +kernel, by decide, am_wd_in 508 (by decide +kernel)⟩
theorem ok_mt_stateAt : am_yok Y_mt_stateAt := ⟨⟨by decide +kernel, flok_mt⟩, by decide +kernel, by decide, am_wd_in 514 (by decide +kernel)⟩
theorem ok_mt_total : am_yok Y_mt_total := ⟨⟨by decide +kernel, flok_mt⟩, by decide +kernel, by decide, am_wd_in 494 (by decide +kernel)⟩
theorem ok_no_push : am_yok Y_no_push := ⟨⟨by decide +kernel, flok_no⟩, by decide +kernel, by decide, am_wd_in 349 (by decide +kernel)⟩
theorem ok_no_copy : am_yok Y_no_copy := ⟨⟨by decide +kernel, flok_no⟩, by decide +kernel, by decide, am_wd_in 657 (by decide +kernel)⟩
theorem ok_ru_mayStand : am_yok Y_ru_mayStand := ⟨⟨by decide +kernel, flok_ru⟩, by decide +kernel, by decide, am_wd_in 398 (by decide +kernel)⟩
theorem ok_ru_mayStep : am_yok Y_ru_mayStep := ⟨⟨by decide +kernel, flok_ru⟩, by decide +kernel, by decide, am_wd_in 441 (by decide +kernel)⟩
theorem ok_ru_stateBehind : am_yok Y_ru_stateBehind := ⟨⟨by decide +kernel, flok_ru⟩, by decide +kernel, by decide, am_wd_in 446 (by decide +kernel)⟩
theorem ok_wt_ofNone : am_yok Y_wt_ofNone := ⟨⟨by decide +kernel, flok_wt⟩, by decide +kernel, by decide, am_wd_in 410 (by decide +kernel)⟩
theorem ok_wt_ofEnd : am_yok Y_wt_ofEnd := ⟨⟨by decide +kernel, flok_wt⟩, by decide +kernel, by decide, am_wd_in 433 (by decide +kernel)⟩
theorem ok_wt_together : am_yok Y_wt_together := ⟨⟨by decide +kernel, flok_wt⟩, by decide +kernel, by decide, am_wd_in 484 (by decide +kernel)⟩
theorem ok_wt_stepped : am_yok Y_wt_stepped := ⟨⟨by decide +kernel, flok_wt⟩, by decide +kernel, by decide, am_wd_in 464 (by decide +kernel)⟩
theorem ok_wt_spell : am_yok Y_wt_spell := ⟨⟨by decide +kernel, flok_wt⟩, by decide +kernel, by decide, am_wd_in 769 (by decide +kernel)⟩
theorem ok_ig_bitCount : am_yok Y_ig_bitCount := ⟨⟨by decide +kernel, flok_ig⟩, by decide +kernel, by decide, am_wd_in 586 (by decide +kernel)⟩
end
section
theorem ok_ha_fill : am_yok Y_ha_fill := ⟨⟨by decide +kernel, flok_ha⟩, by decide +kernel, by decide, am_wd_in 605 (by decide +kernel)⟩
theorem ok_ha_findThrees : am_yok Y_ha_findThrees := ⟨⟨by decide +kernel, flok_ha⟩, by decide +kernel, by decide, am_wd_in 609 (by decide +kernel)⟩
theorem ok_ha_findAbove : am_yok Y_ha_findAbove := ⟨⟨by decide +kernel, flok_ha⟩, by decide +kernel, by decide, am_wd_in 614 (by decide +kernel)⟩
theorem ok_ha_waysBehind : am_yok Y_ha_waysBehind := ⟨⟨by decide +kernel, flok_ha⟩, by decide +kernel, by decide, am_wd_in 621 (by decide +kernel)⟩
theorem ok_ha_mayFollow : am_yok Y_ha_mayFollow := ⟨⟨by decide +kernel, flok_ha⟩, by decide +kernel, by decide, am_wd_in 625 (by decide +kernel)⟩
theorem ok_ha_parallel : am_yok Y_ha_parallel := ⟨⟨by decide +kernel, flok_ha⟩, by decide +kernel, by decide, am_wd_in 635 (by decide +kernel)⟩
theorem ok_ha_pitchOf : am_yok Y_ha_pitchOf := ⟨⟨by decide +kernel, flok_ha⟩, by decide +kernel, by decide, am_wd_in 629 (by decide +kernel)⟩
theorem ok_ha_total : am_yok Y_ha_total := ⟨⟨by decide +kernel, flok_ha⟩, by decide +kernel, by decide, am_wd_in 640 (by decide +kernel)⟩
theorem ok_ha_threeOf : am_yok Y_ha_threeOf := ⟨⟨by decide +kernel, flok_ha⟩, by decide +kernel, by decide, am_wd_in 648 (by decide +kernel)⟩
theorem ok_ju_forget : am_yok Y_ju_forget := ⟨⟨by decide +kernel, flok_ju⟩, by decide +kernel, by decide, am_wd_in 353 (by decide +kernel)⟩
theorem ok_ju_settle : am_yok Y_ju_settle := ⟨⟨by decide +kernel, flok_ju⟩, by decide +kernel, by decide, am_wd_in 666 (by decide +kernel)⟩
theorem ok_ju_fillBorder : am_yok Y_ju_fillBorder := ⟨⟨by decide +kernel, flok_ju⟩, by decide +kernel, by decide, am_wd_in 670 (by decide +kernel)⟩
theorem ok_ju_fillInside : am_yok Y_ju_fillInside := ⟨⟨by decide +kernel, flok_ju⟩, by decide +kernel, by decide, am_wd_in 713 (by decide +kernel)⟩
theorem ok_ju_index : am_yok Y_ju_index := ⟨⟨by decide +kernel, flok_ju⟩, by decide +kernel, by decide, am_wd_in 674 (by decide +kernel)⟩
theorem ok_ju_from : am_yok Y_ju_from := ⟨⟨by decide +kernel, flok_ju⟩, by decide +kernel, by decide, am_wd_in 695 (by decide +kernel)⟩
theorem ok_ju_unshifted : am_yok Y_ju_unshifted := ⟨⟨by decide +kernel, flok_ju⟩, by decide +kernel, by decide, am_wd_in 678 (by decide +kernel)⟩
theorem ok_ju_byHit : am_yok Y_ju_byHit := ⟨⟨by decide +kernel, flok_ju⟩, by decide +kernel, by decide, am_wd_in 682 (by decide +kernel)⟩
theorem ok_ju_byLost : am_yok Y_ju_byLost := ⟨⟨by decide +kernel, flok_ju⟩, by decide +kernel, by decide, am_wd_in 700 (by decide +kernel)⟩
theorem ok_ju_byMore : am_yok Y_ju_byMore := ⟨⟨by decide +kernel, flok_ju⟩, by decide +kernel, by decide, am_wd_in 704 (by decide +kernel)⟩
theorem ok_ju_hitCost : am_yok Y_ju_hitCost := ⟨⟨by decide +kernel, flok_ju⟩, by decide +kernel, by decide, am_wd_in 687 (by decide +kernel)⟩
theorem ok_ju_lengthCost : am_yok Y_ju_lengthCost := ⟨⟨by decide +kernel, flok_ju⟩, by decide +kernel, by decide, am_wd_in 691 (by decide +kernel)⟩
theorem ok_ju_moreCost : am_yok Y_ju_moreCost := ⟨⟨by decide +kernel, flok_ju⟩, by decide +kernel, by decide, am_wd_in 708 (by decide +kernel)⟩
theorem ok_ju_readActs : am_yok Y_ju_readActs := ⟨⟨by decide +kernel, flok_ju⟩, by decide +kernel, by decide, am_wd_in 717 (by decide +kernel)⟩
theorem ok_ju_nextAct : am_yok Y_ju_nextAct := ⟨⟨by decide +kernel, flok_ju⟩, by decide +kernel, by decide, am_wd_in 721 (by decide +kernel)⟩
theorem ok_ju_push : am_yok Y_ju_push := ⟨⟨by decide +kernel, flok_ju⟩, by decide +kernel, by decide, am_wd_in 725 (by decide +kernel)⟩
theorem ok_ju_missed : am_yok Y_ju_missed := ⟨⟨by decide +kernel, flok_ju⟩, by decide +kernel, by decide, am_wd_in 744 (by decide +kernel)⟩
theorem ok_me_has : am_yok Y_me_has := ⟨⟨by decide +kernel, flok_me⟩, by decide +kernel, by decide, am_wd_in 536 (by decide +kernel)⟩
theorem ok_me_add : am_yok Y_me_add := ⟨⟨by decide +kernel, flok_me⟩, by decide +kernel, by decide, am_wd_in 540 (by decide +kernel)⟩
theorem ok_me_remove : am_yok Y_me_remove := ⟨⟨by decide +kernel, flok_me⟩, by decide +kernel, by decide, am_wd_in 544 (by decide +kernel)⟩
theorem ok_me_fill : am_yok Y_me_fill := ⟨⟨by decide +kernel, flok_me⟩, by decide +kernel, by decide, am_wd_in 552 (by decide +kernel)⟩
theorem ok_me_fillBar : am_yok Y_me_fillBar := ⟨⟨by decide +kernel, flok_me⟩, by decide +kernel, by decide, am_wd_in 556 (by decide +kernel)⟩
theorem ok_me_put : am_yok Y_me_put := ⟨⟨by decide +kernel, flok_me⟩, by decide +kernel, by decide, am_wd_in 566 (by decide +kernel)⟩
theorem ok_me_onward : am_yok Y_me_onward := ⟨⟨by decide +kernel, flok_me⟩, by decide +kernel, by decide, am_wd_in 560 (by decide +kernel)⟩
theorem ok_me_total : am_yok Y_me_total := ⟨⟨by decide +kernel, flok_me⟩, by decide +kernel, by decide, am_wd_in 570 (by decide +kernel)⟩
theorem ok_me_spell : am_yok Y_me_spell := ⟨⟨by decide +kernel, flok_me⟩, by decide +kernel, by decide, am_wd_in 578 (by decide +kernel)⟩
theorem ok_pu_weight : am_yok Y_pu_weight := ⟨⟨by decide +kernel, flok_pu⟩, by decide +kernel, by decide, am_wd_in 752 (by decide +kernel)⟩
theorem ok_pu_enter : am_yok Y_pu_enter := ⟨⟨by decide +kernel, flok_pu⟩, by decide +kernel, by decide, am_wd_in 737 (by decide +kernel)⟩
end
section
theorem lk_es_72 : am_lkS "EarSchool" 72 ⟨"EarSchool", "outside", "(III)Z"⟩ 3 := ⟨am_wd_in 343 (by decide +kernel), am_wd_in 344 (by decide +kernel), am_wd_in 53 (by decide +kernel), by decide +kernel, by decide +kernel⟩
theorem lk_es_80 : am_lkV "EarSchool" 80 "EarSchool$Notes" ⟨"EarSchool$Notes", "push", "(II)V"⟩ 2 := ⟨am_wd_in 346 (by decide +kernel), am_wd_in 347 (by decide +kernel), am_wd_in 348 (by decide +kernel), am_wd_in 54 (by decide +kernel), by decide +kernel, by decide +kernel⟩
theorem lk_es_84 : am_lkV "EarSchool" 84 "EarSchool$Judgement" ⟨"EarSchool$Judgement", "forget", "()V"⟩ 0 := ⟨am_wd_in 350 (by decide +kernel), am_wd_in 351 (by decide +kernel), am_wd_in 352 (by decide +kernel), am_wd_in 61 (by decide +kernel), by decide +kernel, by decide +kernel⟩
theorem lk_es_103_ct : am_lkU "EarSchool" 103 "EarSchool$CountTable" "EarSchool$MelodyTable" ⟨"EarSchool$CountTable", "forget", "()V"⟩ ⟨"EarSchool$MelodyTable", "forget", "()V"⟩ 0 := ⟨am_wd_in 366 (by decide +kernel), am_wd_in 367 (by decide +kernel), List.mem_of_getElem? (i := 358) (by decide +kernel), am_wd_in 369 (by decide +kernel), am_wd_in 370 (by decide +kernel), am_wd_in 56 (by decide +kernel), by decide +kernel, by decide +kernel⟩
theorem lk_es_114_ct : am_lkU "EarSchool" 114 "EarSchool$CountTable" "EarSchool$MelodyTable" ⟨"EarSchool$CountTable", "fill", "()V"⟩ ⟨"EarSchool$MelodyTable", "fill", "()V"⟩ 0 := ⟨am_wd_in 385 (by decide +kernel), am_wd_in 386 (by decide +kernel), List.mem_of_getElem? (i := 377) (by decide +kernel), am_wd_in 388 (by decide +kernel), am_wd_in 389 (by decide +kernel), am_wd_in 56 (by decide +kernel), by decide +kernel, by decide +kernel⟩
theorem lk_es_117_ct : am_lkU "EarSchool" 117 "EarSchool$CountTable" "EarSchool$MelodyTable" ⟨"EarSchool$CountTable", "total", "()J"⟩ ⟨"EarSchool$MelodyTable", "total", "()J"⟩ 0 := ⟨am_wd_in 489 (by decide +kernel), am_wd_in 490 (by decide +kernel), List.mem_of_getElem? (i := 481) (by decide +kernel), am_wd_in 492 (by decide +kernel), am_wd_in 493 (by decide +kernel), am_wd_in 56 (by decide +kernel), by decide +kernel, by decide +kernel⟩
theorem lk_es_121_ct : am_lkV "EarSchool" 121 "EarSchool$CountTable" ⟨"EarSchool$CountTable", "spell", "(JLEarSchool$Notes;)V"⟩ 2 := ⟨am_wd_in 499 (by decide +kernel), am_wd_in 500 (by decide +kernel), am_wd_in 501 (by decide +kernel), am_wd_in 57 (by decide +kernel), by decide +kernel, by decide +kernel⟩
theorem lk_es_127_ct : am_lkV "EarSchool" 127 "EarSchool$CountTable" ⟨"EarSchool$CountTable", "ahead", "(LEarSchool$Notes;)J"⟩ 1 := ⟨am_wd_in 521 (by decide +kernel), am_wd_in 522 (by decide +kernel), am_wd_in 523 (by decide +kernel), am_wd_in 57 (by decide +kernel), by decide +kernel, by decide +kernel⟩
theorem lk_es_141 : am_lkV "EarSchool" 141 "EarSchool$Metre" ⟨"EarSchool$Metre", "has", "(I)Z"⟩ 1 := ⟨am_wd_in 533 (by decide +kernel), am_wd_in 534 (by decide +kernel), am_wd_in 535 (by decide +kernel), am_wd_in 59 (by decide +kernel), by decide +kernel, by decide +kernel⟩
theorem lk_es_146 : am_lkV "EarSchool" 146 "EarSchool$Metre" ⟨"EarSchool$Metre", "add", "(I)V"⟩ 1 := ⟨am_wd_in 537 (by decide +kernel), am_wd_in 538 (by decide +kernel), am_wd_in 539 (by decide +kernel), am_wd_in 59 (by decide +kernel), by decide +kernel, by decide +kernel⟩
theorem lk_es_150 : am_lkV "EarSchool" 150 "EarSchool$Metre" ⟨"EarSchool$Metre", "remove", "(I)V"⟩ 1 := ⟨am_wd_in 541 (by decide +kernel), am_wd_in 542 (by decide +kernel), am_wd_in 543 (by decide +kernel), am_wd_in 59 (by decide +kernel), by decide +kernel, by decide +kernel⟩
theorem lk_es_153 : am_lkV "EarSchool" 153 "EarSchool$Metre" ⟨"EarSchool$Metre", "fill", "()V"⟩ 0 := ⟨am_wd_in 549 (by decide +kernel), am_wd_in 550 (by decide +kernel), am_wd_in 551 (by decide +kernel), am_wd_in 59 (by decide +kernel), by decide +kernel, by decide +kernel⟩
theorem lk_es_154 : am_lkV "EarSchool" 154 "EarSchool$Metre" ⟨"EarSchool$Metre", "total", "()J"⟩ 0 := ⟨am_wd_in 567 (by decide +kernel), am_wd_in 568 (by decide +kernel), am_wd_in 569 (by decide +kernel), am_wd_in 59 (by decide +kernel), by decide +kernel, by decide +kernel⟩
theorem lk_es_155 : am_lkV "EarSchool" 155 "EarSchool$Metre" ⟨"EarSchool$Metre", "spell", "(JLEarSchool$Notes;)V"⟩ 2 := ⟨am_wd_in 575 (by decide +kernel), am_wd_in 576 (by decide +kernel), am_wd_in 577 (by decide +kernel), am_wd_in 59 (by decide +kernel), by decide +kernel, by decide +kernel⟩
theorem lk_es_156 : am_lkS "EarSchool" 156 ⟨"java/lang/Integer", "bitCount", "(I)I"⟩ 1 := ⟨am_wd_in 584 (by decide +kernel), am_wd_in 585 (by decide +kernel), am_wd_in 65 (by decide +kernel), by decide +kernel, by decide +kernel⟩
theorem lk_es_173 : am_lkV "EarSchool" 173 "EarSchool$Harmony" ⟨"EarSchool$Harmony", "fill", "()V"⟩ 0 := ⟨am_wd_in 602 (by decide +kernel), am_wd_in 603 (by decide +kernel), am_wd_in 604 (by decide +kernel), am_wd_in 60 (by decide +kernel), by decide +kernel, by decide +kernel⟩
theorem lk_es_174 : am_lkV "EarSchool" 174 "EarSchool$Harmony" ⟨"EarSchool$Harmony", "total", "()J"⟩ 0 := ⟨am_wd_in 637 (by decide +kernel), am_wd_in 638 (by decide +kernel), am_wd_in 639 (by decide +kernel), am_wd_in 60 (by decide +kernel), by decide +kernel, by decide +kernel⟩
theorem lk_es_175 : am_lkV "EarSchool" 175 "EarSchool$Harmony" ⟨"EarSchool$Harmony", "threeOf", "(JI)I"⟩ 2 := ⟨am_wd_in 645 (by decide +kernel), am_wd_in 646 (by decide +kernel), am_wd_in 647 (by decide +kernel), am_wd_in 60 (by decide +kernel), by decide +kernel, by decide +kernel⟩
theorem lk_es_179 : am_lkV "EarSchool" 179 "EarSchool$Harmony" ⟨"EarSchool$Harmony", "pitchOf", "(III)I"⟩ 3 := ⟨am_wd_in 649 (by decide +kernel), am_wd_in 627 (by decide +kernel), am_wd_in 628 (by decide +kernel), am_wd_in 60 (by decide +kernel), by decide +kernel, by decide +kernel⟩
theorem lk_es_183 : am_lkV "EarSchool" 183 "EarSchool$Notes" ⟨"EarSchool$Notes", "copy", "(LEarSchool$Notes;)V"⟩ 1 := ⟨am_wd_in 654 (by decide +kernel), am_wd_in 655 (by decide +kernel), am_wd_in 656 (by decide +kernel), am_wd_in 54 (by decide +kernel), by decide +kernel, by decide +kernel⟩
theorem lk_es_187 : am_lkV "EarSchool" 187 "EarSchool$Judgement" ⟨"EarSchool$Judgement", "settle", "()V"⟩ 0 := ⟨am_wd_in 663 (by decide +kernel), am_wd_in 664 (by decide +kernel), am_wd_in 665 (by decide +kernel), am_wd_in 61 (by decide +kernel), by decide +kernel, by decide +kernel⟩
theorem lk_es_209 : am_lkV "EarSchool" 209 "EarSchool$Pupils" ⟨"EarSchool$Pupils", "enter", "(ILEarSchool$Judgement;LEarSchool$Notes;)I"⟩ 3 := ⟨am_wd_in 734 (by decide +kernel), am_wd_in 735 (by decide +kernel), am_wd_in 736 (by decide +kernel), am_wd_in 62 (by decide +kernel), by decide +kernel, by decide +kernel⟩
theorem lk_es_213 : am_lkV "EarSchool" 213 "EarSchool$Pupils" ⟨"EarSchool$Pupils", "weight", "(II)I"⟩ 2 := ⟨am_wd_in 749 (by decide +kernel), am_wd_in 750 (by decide +kernel), am_wd_in 751 (by decide +kernel), am_wd_in 62 (by decide +kernel), by decide +kernel, by decide +kernel⟩
theorem lk_es_227_wt : am_lkU "EarSchool" 227 "EarSchool$WeightTable" "EarSchool$MelodyTable" ⟨"EarSchool$WeightTable", "forget", "()V"⟩ ⟨"EarSchool$MelodyTable", "forget", "()V"⟩ 0 := ⟨am_wd_in 757 (by decide +kernel), am_wd_in 758 (by decide +kernel), List.mem_of_getElem? (i := 358) (by decide +kernel), am_wd_in 759 (by decide +kernel), am_wd_in 370 (by decide +kernel), am_wd_in 56 (by decide +kernel), by decide +kernel, by decide +kernel⟩
theorem lk_es_228_wt : am_lkU "EarSchool" 228 "EarSchool$WeightTable" "EarSchool$MelodyTable" ⟨"EarSchool$WeightTable", "fill", "()V"⟩ ⟨"EarSchool$MelodyTable", "fill", "()V"⟩ 0 := ⟨am_wd_in 760 (by decide +kernel), am_wd_in 761 (by decide +kernel), List.mem_of_getElem? (i := 377) (by decide +kernel), am_wd_in 762 (by decide +kernel), am_wd_in 389 (by decide +kernel), am_wd_in 56 (by decide +kernel), by decide +kernel, by decide +kernel⟩
theorem lk_es_229_wt : am_lkU "EarSchool" 229 "EarSchool$WeightTable" "EarSchool$MelodyTable" ⟨"EarSchool$WeightTable", "total", "()J"⟩ ⟨"EarSchool$MelodyTable", "total", "()J"⟩ 0 := ⟨am_wd_in 763 (by decide +kernel), am_wd_in 764 (by decide +kernel), List.mem_of_getElem? (i := 481) (by decide +kernel), am_wd_in 765 (by decide +kernel), am_wd_in 493 (by decide +kernel), am_wd_in 56 (by decide +kernel), by decide +kernel, by decide +kernel⟩
theorem lk_es_230_wt : am_lkV "EarSchool" 230 "EarSchool$WeightTable" ⟨"EarSchool$WeightTable", "spell", "(LEarSchool$Notes;)V"⟩ 1 := ⟨am_wd_in 766 (by decide +kernel), am_wd_in 767 (by decide +kernel), am_wd_in 768 (by decide +kernel), am_wd_in 58 (by decide +kernel), by decide +kernel, by decide +kernel⟩
theorem mk_es_234 : am_mtk "EarSchool" 234 Lib.MathLoose.min_long.x Lib.MathLoose.min_long.code 4 (some .long) := ⟨am_wd_in 479 (by decide +kernel), am_wd_in 480 (by decide +kernel), am_wd_in 64 (by decide +kernel), am_wd_in 481 (by decide +kernel)⟩
theorem lk_mo_114 : am_lkS "EarSchoolModel" 114 ⟨"EarSchoolModel", "in", "(JJJ)Z"⟩ 3 := ⟨am_wd_in 914 (by decide +kernel), am_wd_in 915 (by decide +kernel), am_wd_in 63 (by decide +kernel), by decide +kernel, by decide +kernel⟩
theorem lk_mo_139 : am_lkS "EarSchoolModel" 139 ⟨"EarSchoolModel", "hasClass", "(II)Z"⟩ 2 := ⟨am_wd_in 959 (by decide +kernel), am_wd_in 960 (by decide +kernel), am_wd_in 63 (by decide +kernel), by decide +kernel, by decide +kernel⟩
theorem lk_mo_147 : am_lkS "EarSchoolModel" 147 ⟨"EarSchoolModel", "cellAt", "(III)I"⟩ 3 := ⟨am_wd_in 952 (by decide +kernel), am_wd_in 953 (by decide +kernel), am_wd_in 63 (by decide +kernel), by decide +kernel, by decide +kernel⟩
theorem lk_mo_151 : am_lkV "EarSchoolModel" 151 "EarSchoolModel" ⟨"EarSchoolModel", "fits", "(II)Z"⟩ 2 := ⟨am_wd_in 955 (by decide +kernel), am_wd_in 957 (by decide +kernel), am_wd_in 33 (by decide +kernel), am_wd_in 63 (by decide +kernel), by decide +kernel, by decide +kernel⟩
theorem lk_mo_154 : am_lkV "EarSchoolModel" 154 "EarSchoolModel" ⟨"EarSchoolModel", "waysOn", "(III)J"⟩ 3 := ⟨am_wd_in 962 (by decide +kernel), am_wd_in 964 (by decide +kernel), am_wd_in 34 (by decide +kernel), am_wd_in 63 (by decide +kernel), by decide +kernel, by decide +kernel⟩
theorem lk_mo_158 : am_lkV "EarSchoolModel" 158 "EarSchoolModel" ⟨"EarSchoolModel", "behind", "(II)I"⟩ 2 := ⟨am_wd_in 966 (by decide +kernel), am_wd_in 968 (by decide +kernel), am_wd_in 35 (by decide +kernel), am_wd_in 63 (by decide +kernel), by decide +kernel, by decide +kernel⟩
theorem lk_mo_162 : am_lkS "EarSchoolModel" 162 ⟨"EarSchoolModel", "plus", "(JJ)J"⟩ 2 := ⟨am_wd_in 972 (by decide +kernel), am_wd_in 973 (by decide +kernel), am_wd_in 63 (by decide +kernel), by decide +kernel, by decide +kernel⟩
theorem lk_mo_166 : am_lkV "EarSchoolModel" 166 "EarSchoolModel" ⟨"EarSchoolModel", "countWays", "()V"⟩ 0 := ⟨am_wd_in 948 (by decide +kernel), am_wd_in 950 (by decide +kernel), am_wd_in 32 (by decide +kernel), am_wd_in 63 (by decide +kernel), by decide +kernel, by decide +kernel⟩
theorem lk_mo_169 : am_lkV "EarSchoolModel" 169 "EarSchoolModel" ⟨"EarSchoolModel", "melodies", "()J"⟩ 0 := ⟨am_wd_in 980 (by decide +kernel), am_wd_in 945 (by decide +kernel), am_wd_in 946 (by decide +kernel), am_wd_in 63 (by decide +kernel), by decide +kernel, by decide +kernel⟩
theorem lk_mo_173 : am_lkV "EarSchoolModel" 173 "EarSchoolModel" ⟨"EarSchoolModel", "lay", "(III)V"⟩ 3 := ⟨am_wd_in 981 (by decide +kernel), am_wd_in 983 (by decide +kernel), am_wd_in 36 (by decide +kernel), am_wd_in 63 (by decide +kernel), by decide +kernel, by decide +kernel⟩
theorem lk_mo_177 : am_lkV "EarSchoolModel" 177 "EarSchoolModel" ⟨"EarSchoolModel", "laid", "(I)V"⟩ 1 := ⟨am_wd_in 985 (by decide +kernel), am_wd_in 987 (by decide +kernel), am_wd_in 37 (by decide +kernel), am_wd_in 63 (by decide +kernel), by decide +kernel, by decide +kernel⟩
theorem lk_mo_188 : am_lkV "EarSchoolModel" 188 "EarSchoolModel" ⟨"EarSchoolModel", "goes", "(II)Z"⟩ 2 := ⟨am_wd_in 1011 (by decide +kernel), am_wd_in 1013 (by decide +kernel), am_wd_in 39 (by decide +kernel), am_wd_in 63 (by decide +kernel), by decide +kernel, by decide +kernel⟩
theorem lk_mo_191 : am_lkV "EarSchoolModel" 191 "EarSchoolModel" ⟨"EarSchoolModel", "countFills", "()V"⟩ 0 := ⟨am_wd_in 1007 (by decide +kernel), am_wd_in 1009 (by decide +kernel), am_wd_in 38 (by decide +kernel), am_wd_in 63 (by decide +kernel), by decide +kernel, by decide +kernel⟩
theorem lk_mo_194 : am_lkV "EarSchoolModel" 194 "EarSchoolModel" ⟨"EarSchoolModel", "rhythms", "()J"⟩ 0 := ⟨am_wd_in 1019 (by decide +kernel), am_wd_in 1004 (by decide +kernel), am_wd_in 1005 (by decide +kernel), am_wd_in 63 (by decide +kernel), by decide +kernel, by decide +kernel⟩
theorem lk_mo_202 : am_lkV "EarSchoolModel" 202 "EarSchoolModel" ⟨"EarSchoolModel", "pitchOf", "(III)I"⟩ 3 := ⟨am_wd_in 1049 (by decide +kernel), am_wd_in 1051 (by decide +kernel), am_wd_in 43 (by decide +kernel), am_wd_in 63 (by decide +kernel), by decide +kernel, by decide +kernel⟩
theorem lk_mo_205 : am_lkV "EarSchoolModel" 205 "EarSchoolModel" ⟨"EarSchoolModel", "findThrees", "(I)V"⟩ 1 := ⟨am_wd_in 1041 (by decide +kernel), am_wd_in 1043 (by decide +kernel), am_wd_in 41 (by decide +kernel), am_wd_in 63 (by decide +kernel), by decide +kernel, by decide +kernel⟩
theorem lk_mo_208 : am_lkV "EarSchoolModel" 208 "EarSchoolModel" ⟨"EarSchoolModel", "follows", "(III)Z"⟩ 3 := ⟨am_wd_in 1045 (by decide +kernel), am_wd_in 1047 (by decide +kernel), am_wd_in 42 (by decide +kernel), am_wd_in 63 (by decide +kernel), by decide +kernel, by decide +kernel⟩
theorem lk_mo_212 : am_lkV "EarSchoolModel" 212 "EarSchoolModel" ⟨"EarSchoolModel", "countChords", "()V"⟩ 0 := ⟨am_wd_in 1037 (by decide +kernel), am_wd_in 1039 (by decide +kernel), am_wd_in 40 (by decide +kernel), am_wd_in 63 (by decide +kernel), by decide +kernel, by decide +kernel⟩
theorem lk_mo_217 : am_lkV "EarSchoolModel" 217 "EarSchoolModel" ⟨"EarSchoolModel", "chords", "()J"⟩ 0 := ⟨am_wd_in 1058 (by decide +kernel), am_wd_in 1034 (by decide +kernel), am_wd_in 1035 (by decide +kernel), am_wd_in 63 (by decide +kernel), by decide +kernel, by decide +kernel⟩
theorem lk_mo_223 : am_lkV "EarSchoolModel" 223 "EarSchoolModel" ⟨"EarSchoolModel", "hitCost", "(III)I"⟩ 3 := ⟨am_wd_in 1078 (by decide +kernel), am_wd_in 1080 (by decide +kernel), am_wd_in 46 (by decide +kernel), am_wd_in 63 (by decide +kernel), by decide +kernel, by decide +kernel⟩
theorem lk_mo_226 : am_lkS "EarSchoolModel" 226 ⟨"EarSchoolModel", "costAt", "(IIII)I"⟩ 4 := ⟨am_wd_in 1067 (by decide +kernel), am_wd_in 1068 (by decide +kernel), am_wd_in 63 (by decide +kernel), by decide +kernel, by decide +kernel⟩
theorem lk_mo_230 : am_lkV "EarSchoolModel" 230 "EarSchoolModel" ⟨"EarSchoolModel", "moreCost", "(I)I"⟩ 1 := ⟨am_wd_in 1082 (by decide +kernel), am_wd_in 1084 (by decide +kernel), am_wd_in 47 (by decide +kernel), am_wd_in 63 (by decide +kernel), by decide +kernel, by decide +kernel⟩
theorem lk_mo_234 : am_lkV "EarSchoolModel" 234 "EarSchoolModel" ⟨"EarSchoolModel", "by", "(IIIII)I"⟩ 5 := ⟨am_wd_in 1074 (by decide +kernel), am_wd_in 1076 (by decide +kernel), am_wd_in 45 (by decide +kernel), am_wd_in 63 (by decide +kernel), by decide +kernel, by decide +kernel⟩
theorem lk_mo_241 : am_lkV "EarSchoolModel" 241 "EarSchoolModel" ⟨"EarSchoolModel", "leastAt", "(IIII)I"⟩ 4 := ⟨am_wd_in 1070 (by decide +kernel), am_wd_in 1072 (by decide +kernel), am_wd_in 44 (by decide +kernel), am_wd_in 63 (by decide +kernel), by decide +kernel, by decide +kernel⟩
theorem lk_mo_244 : am_lkV "EarSchoolModel" 244 "EarSchoolModel" ⟨"EarSchoolModel", "layAct", "(IIIII)V"⟩ 5 := ⟨am_wd_in 1086 (by decide +kernel), am_wd_in 1088 (by decide +kernel), am_wd_in 48 (by decide +kernel), am_wd_in 63 (by decide +kernel), by decide +kernel, by decide +kernel⟩
theorem lk_mo_250 : am_lkV "EarSchoolModel" 250 "EarSchoolModel" ⟨"EarSchoolModel", "weight", "(II)I"⟩ 2 := ⟨am_wd_in 1103 (by decide +kernel), am_wd_in 1105 (by decide +kernel), am_wd_in 49 (by decide +kernel), am_wd_in 63 (by decide +kernel), by decide +kernel, by decide +kernel⟩
theorem lk_mo_253 : am_lkV "EarSchoolModel" 253 "EarSchoolModel" ⟨"EarSchoolModel", "goingOn", "(IIIII)J"⟩ 5 := ⟨am_wd_in 1115 (by decide +kernel), am_wd_in 1117 (by decide +kernel), am_wd_in 51 (by decide +kernel), am_wd_in 63 (by decide +kernel), by decide +kernel, by decide +kernel⟩
theorem lk_mo_257 : am_lkV "EarSchoolModel" 257 "EarSchoolModel" ⟨"EarSchoolModel", "bestOn", "(IIII)J"⟩ 4 := ⟨am_wd_in 1111 (by decide +kernel), am_wd_in 1113 (by decide +kernel), am_wd_in 50 (by decide +kernel), am_wd_in 63 (by decide +kernel), by decide +kernel, by decide +kernel⟩
theorem lk_ct_9 : am_lkN "EarSchool$CountTable" 9 ⟨"EarSchool", "cappedSum", "(JJ)J"⟩ "EarSchool" 2 := ⟨List.mem_of_getElem? (i := 465) (by decide +kernel), am_wd_in 476 (by decide +kernel), am_wd_in 53 (by decide +kernel), by decide +kernel, by decide +kernel⟩
theorem lk_ct_33_ct : am_lkU "EarSchool$CountTable" 33 "EarSchool$CountTable" "EarSchool$MelodyTable" ⟨"EarSchool$CountTable", "onward", "(IIII)J"⟩ ⟨"EarSchool$MelodyTable", "onward", "(IIII)J"⟩ 4 := ⟨am_wd_in 503 (by decide +kernel), am_wd_in 504 (by decide +kernel), List.mem_of_getElem? (i := 495) (by decide +kernel), am_wd_in 506 (by decide +kernel), am_wd_in 507 (by decide +kernel), am_wd_in 56 (by decide +kernel), by decide +kernel, by decide +kernel⟩
theorem lk_ct_40_ct : am_lkU "EarSchool$CountTable" 40 "EarSchool$CountTable" "EarSchool$MelodyTable" ⟨"EarSchool$CountTable", "stateAt", "(IIII)I"⟩ ⟨"EarSchool$MelodyTable", "stateAt", "(IIII)I"⟩ 4 := ⟨am_wd_in 509 (by decide +kernel), am_wd_in 510 (by decide +kernel), List.mem_of_getElem? (i := 501) (by decide +kernel), am_wd_in 512 (by decide +kernel), am_wd_in 513 (by decide +kernel), am_wd_in 56 (by decide +kernel), by decide +kernel, by decide +kernel⟩
theorem lk_ct_44 : am_lkV "EarSchool$CountTable" 44 "EarSchool$Notes" ⟨"EarSchool$Notes", "push", "(II)V"⟩ 2 := ⟨am_wd_in 515 (by decide +kernel), am_wd_in 347 (by decide +kernel), am_wd_in 348 (by decide +kernel), am_wd_in 54 (by decide +kernel), by decide +kernel, by decide +kernel⟩
theorem lk_ha_39 : am_lkV "EarSchool$Harmony" 39 "EarSchool$Harmony" ⟨"EarSchool$Harmony", "findThrees", "(I)V"⟩ 1 := ⟨am_wd_in 606 (by decide +kernel), am_wd_in 608 (by decide +kernel), am_wd_in 13 (by decide +kernel), am_wd_in 60 (by decide +kernel), by decide +kernel, by decide +kernel⟩
theorem lk_ha_43 : am_lkV "EarSchool$Harmony" 43 "EarSchool$Harmony" ⟨"EarSchool$Harmony", "waysBehind", "(II)J"⟩ 2 := ⟨am_wd_in 618 (by decide +kernel), am_wd_in 620 (by decide +kernel), am_wd_in 15 (by decide +kernel), am_wd_in 60 (by decide +kernel), by decide +kernel, by decide +kernel⟩
theorem lk_ha_47 : am_lkN "EarSchool$Harmony" 47 ⟨"EarSchool", "hasClass", "(II)Z"⟩ "EarSchool" 2 := ⟨List.mem_of_getElem? (i := 600) (by decide +kernel), am_wd_in 400 (by decide +kernel), am_wd_in 53 (by decide +kernel), by decide +kernel, by decide +kernel⟩
theorem lk_ha_51 : am_lkV "EarSchool$Harmony" 51 "EarSchool$Harmony" ⟨"EarSchool$Harmony", "findAbove", "(II)V"⟩ 2 := ⟨am_wd_in 611 (by decide +kernel), am_wd_in 613 (by decide +kernel), am_wd_in 14 (by decide +kernel), am_wd_in 60 (by decide +kernel), by decide +kernel, by decide +kernel⟩
theorem mk_ha_55 : am_mtk "EarSchool$Harmony" 55 Lib.Math.max.name Lib.Math.max.code 2 (some .int) := ⟨am_wd_in 615 (by decide +kernel), am_wd_in 616 (by decide +kernel), am_wd_in 64 (by decide +kernel), am_wd_in 617 (by decide +kernel)⟩
theorem lk_ha_61 : am_lkV "EarSchool$Harmony" 61 "EarSchool$Harmony" ⟨"EarSchool$Harmony", "mayFollow", "(III)Z"⟩ 3 := ⟨am_wd_in 622 (by decide +kernel), am_wd_in 624 (by decide +kernel), am_wd_in 16 (by decide +kernel), am_wd_in 60 (by decide +kernel), by decide +kernel, by decide +kernel⟩
theorem lk_ha_65 : am_lkN "EarSchool$Harmony" 65 ⟨"EarSchool", "cappedSum", "(JJ)J"⟩ "EarSchool" 2 := ⟨List.mem_of_getElem? (i := 626) (by decide +kernel), am_wd_in 476 (by decide +kernel), am_wd_in 53 (by decide +kernel), by decide +kernel, by decide +kernel⟩
theorem lk_ha_69 : am_lkV "EarSchool$Harmony" 69 "EarSchool$Harmony" ⟨"EarSchool$Harmony", "pitchOf", "(III)I"⟩ 3 := ⟨am_wd_in 626 (by decide +kernel), am_wd_in 627 (by decide +kernel), am_wd_in 628 (by decide +kernel), am_wd_in 60 (by decide +kernel), by decide +kernel, by decide +kernel⟩
theorem mk_ha_73 : am_mtk "EarSchool$Harmony" 73 Lib.Math.abs.name Lib.Math.abs.code 1 (some .int) := ⟨am_wd_in 631 (by decide +kernel), am_wd_in 466 (by decide +kernel), am_wd_in 64 (by decide +kernel), am_wd_in 467 (by decide +kernel)⟩
theorem lk_ha_77 : am_lkV "EarSchool$Harmony" 77 "EarSchool$Harmony" ⟨"EarSchool$Harmony", "parallel", "(IIIII)Z"⟩ 5 := ⟨am_wd_in 632 (by decide +kernel), am_wd_in 634 (by decide +kernel), am_wd_in 17 (by decide +kernel), am_wd_in 60 (by decide +kernel), by decide +kernel, by decide +kernel⟩
theorem lk_ha_81 : am_lkN "EarSchool$Harmony" 81 ⟨"EarSchool", "outside", "(III)Z"⟩ "EarSchool" 3 := ⟨List.mem_of_getElem? (i := 620) (by decide +kernel), am_wd_in 344 (by decide +kernel), am_wd_in 53 (by decide +kernel), by decide +kernel, by decide +kernel⟩
theorem lk_ju_48 : am_lkV "EarSchool$Judgement" 48 "EarSchool$Judgement" ⟨"EarSchool$Judgement", "fillBorder", "(II)V"⟩ 2 := ⟨am_wd_in 667 (by decide +kernel), am_wd_in 669 (by decide +kernel), am_wd_in 18 (by decide +kernel), am_wd_in 61 (by decide +kernel), by decide +kernel, by decide +kernel⟩
theorem lk_ju_52 : am_lkV "EarSchool$Judgement" 52 "EarSchool$Judgement" ⟨"EarSchool$Judgement", "fillInside", "(II)V"⟩ 2 := ⟨am_wd_in 710 (by decide +kernel), am_wd_in 712 (by decide +kernel), am_wd_in 28 (by decide +kernel), am_wd_in 61 (by decide +kernel), by decide +kernel, by decide +kernel⟩
theorem lk_ju_55 : am_lkV "EarSchool$Judgement" 55 "EarSchool$Judgement" ⟨"EarSchool$Judgement", "readActs", "()V"⟩ 0 := ⟨am_wd_in 714 (by decide +kernel), am_wd_in 716 (by decide +kernel), am_wd_in 29 (by decide +kernel), am_wd_in 61 (by decide +kernel), by decide +kernel, by decide +kernel⟩
theorem lk_ju_58 : am_lkV "EarSchool$Judgement" 58 "EarSchool$Judgement" ⟨"EarSchool$Judgement", "from", "(III)I"⟩ 3 := ⟨am_wd_in 692 (by decide +kernel), am_wd_in 694 (by decide +kernel), am_wd_in 24 (by decide +kernel), am_wd_in 61 (by decide +kernel), by decide +kernel, by decide +kernel⟩
theorem lk_ju_62 : am_lkV "EarSchool$Judgement" 62 "EarSchool$Judgement" ⟨"EarSchool$Judgement", "index", "(III)I"⟩ 3 := ⟨am_wd_in 671 (by decide +kernel), am_wd_in 673 (by decide +kernel), am_wd_in 19 (by decide +kernel), am_wd_in 61 (by decide +kernel), by decide +kernel, by decide +kernel⟩
theorem lk_ju_65 : am_lkV "EarSchool$Judgement" 65 "EarSchool$Judgement" ⟨"EarSchool$Judgement", "unshifted", "(III)I"⟩ 3 := ⟨am_wd_in 675 (by decide +kernel), am_wd_in 677 (by decide +kernel), am_wd_in 20 (by decide +kernel), am_wd_in 61 (by decide +kernel), by decide +kernel, by decide +kernel⟩
theorem lk_ju_71 : am_lkV "EarSchool$Judgement" 71 "EarSchool$Judgement" ⟨"EarSchool$Judgement", "lengthCost", "(II)I"⟩ 2 := ⟨am_wd_in 688 (by decide +kernel), am_wd_in 690 (by decide +kernel), am_wd_in 23 (by decide +kernel), am_wd_in 61 (by decide +kernel), by decide +kernel, by decide +kernel⟩
theorem lk_ju_75 : am_lkV "EarSchool$Judgement" 75 "EarSchool$Judgement" ⟨"EarSchool$Judgement", "moreCost", "(I)I"⟩ 1 := ⟨am_wd_in 705 (by decide +kernel), am_wd_in 707 (by decide +kernel), am_wd_in 27 (by decide +kernel), am_wd_in 61 (by decide +kernel), by decide +kernel, by decide +kernel⟩
theorem mk_ju_80 : am_mtk "EarSchool$Judgement" 80 Lib.Math.min.name Lib.Math.min.code 2 (some .int) := ⟨am_wd_in 709 (by decide +kernel), am_wd_in 448 (by decide +kernel), am_wd_in 64 (by decide +kernel), am_wd_in 449 (by decide +kernel)⟩
theorem lk_ju_85 : am_lkN "EarSchool$Judgement" 85 ⟨"EarSchool", "outside", "(III)Z"⟩ "EarSchool" 3 := ⟨List.mem_of_getElem? (i := 686) (by decide +kernel), am_wd_in 344 (by decide +kernel), am_wd_in 53 (by decide +kernel), by decide +kernel, by decide +kernel⟩
theorem lk_ju_89 : am_lkV "EarSchool$Judgement" 89 "EarSchool$Judgement" ⟨"EarSchool$Judgement", "byHit", "(III)I"⟩ 3 := ⟨am_wd_in 679 (by decide +kernel), am_wd_in 681 (by decide +kernel), am_wd_in 21 (by decide +kernel), am_wd_in 61 (by decide +kernel), by decide +kernel, by decide +kernel⟩
theorem lk_ju_92 : am_lkV "EarSchool$Judgement" 92 "EarSchool$Judgement" ⟨"EarSchool$Judgement", "byLost", "(III)I"⟩ 3 := ⟨am_wd_in 697 (by decide +kernel), am_wd_in 699 (by decide +kernel), am_wd_in 25 (by decide +kernel), am_wd_in 61 (by decide +kernel), by decide +kernel, by decide +kernel⟩
theorem lk_ju_95 : am_lkV "EarSchool$Judgement" 95 "EarSchool$Judgement" ⟨"EarSchool$Judgement", "byMore", "(III)I"⟩ 3 := ⟨am_wd_in 701 (by decide +kernel), am_wd_in 703 (by decide +kernel), am_wd_in 26 (by decide +kernel), am_wd_in 61 (by decide +kernel), by decide +kernel, by decide +kernel⟩
theorem lk_ju_98 : am_lkV "EarSchool$Judgement" 98 "EarSchool$Judgement" ⟨"EarSchool$Judgement", "hitCost", "(III)I"⟩ 3 := ⟨am_wd_in 684 (by decide +kernel), am_wd_in 686 (by decide +kernel), am_wd_in 22 (by decide +kernel), am_wd_in 61 (by decide +kernel), by decide +kernel, by decide +kernel⟩
theorem lk_ju_104 : am_lkV "EarSchool$Judgement" 104 "EarSchool$Judgement" ⟨"EarSchool$Judgement", "nextAct", "(IIIZ)I"⟩ 4 := ⟨am_wd_in 718 (by decide +kernel), am_wd_in 720 (by decide +kernel), am_wd_in 30 (by decide +kernel), am_wd_in 61 (by decide +kernel), by decide +kernel, by decide +kernel⟩
theorem lk_ju_108 : am_lkV "EarSchool$Judgement" 108 "EarSchool$Judgement" ⟨"EarSchool$Judgement", "push", "(IIII)V"⟩ 4 := ⟨am_wd_in 722 (by decide +kernel), am_wd_in 724 (by decide +kernel), am_wd_in 31 (by decide +kernel), am_wd_in 61 (by decide +kernel), by decide +kernel, by decide +kernel⟩
theorem lk_mt_35_ct : am_lkV "EarSchool$MelodyTable" 35 "EarSchool$CountTable" ⟨"EarSchool$MelodyTable", "fillPitch", "(II)V"⟩ 2 := ⟨am_wd_in 391 (by decide +kernel), am_wd_in 393 (by decide +kernel), am_wd_in 0 (by decide +kernel), am_wd_in 56 (by decide +kernel), by decide +kernel, by decide +kernel⟩
theorem lk_mt_35_wt : am_lkV "EarSchool$MelodyTable" 35 "EarSchool$WeightTable" ⟨"EarSchool$MelodyTable", "fillPitch", "(II)V"⟩ 2 := ⟨am_wd_in 391 (by decide +kernel), am_wd_in 393 (by decide +kernel), am_wd_in 5 (by decide +kernel), am_wd_in 56 (by decide +kernel), by decide +kernel, by decide +kernel⟩
theorem lk_mt_39 : am_lkV "EarSchool$MelodyTable" 39 "EarSchool$Rule" ⟨"EarSchool$Rule", "mayStand", "(II)Z"⟩ 2 := ⟨am_wd_in 395 (by decide +kernel), am_wd_in 396 (by decide +kernel), am_wd_in 397 (by decide +kernel), am_wd_in 55 (by decide +kernel), by decide +kernel, by decide +kernel⟩
theorem lk_mt_43_ct : am_lkU "EarSchool$MelodyTable" 43 "EarSchool$CountTable" "EarSchool$MelodyTable" ⟨"EarSchool$MelodyTable", "ofNone", "()J"⟩ ⟨"EarSchool$CountTable", "ofNone", "()J"⟩ 0 := ⟨am_wd_in 402 (by decide +kernel), am_wd_in 404 (by decide +kernel), List.mem_of_getElem? (i := 393) (by decide +kernel), am_wd_in 405 (by decide +kernel), am_wd_in 406 (by decide +kernel), am_wd_in 57 (by decide +kernel), by decide +kernel, by decide +kernel⟩
theorem lk_mt_43_wt : am_lkU "EarSchool$MelodyTable" 43 "EarSchool$WeightTable" "EarSchool$MelodyTable" ⟨"EarSchool$MelodyTable", "ofNone", "()J"⟩ ⟨"EarSchool$WeightTable", "ofNone", "()J"⟩ 0 := ⟨am_wd_in 402 (by decide +kernel), am_wd_in 404 (by decide +kernel), List.mem_of_getElem? (i := 393) (by decide +kernel), am_wd_in 408 (by decide +kernel), am_wd_in 409 (by decide +kernel), am_wd_in 58 (by decide +kernel), by decide +kernel, by decide +kernel⟩
theorem lk_mt_47_ct : am_lkV "EarSchool$MelodyTable" 47 "EarSchool$CountTable" ⟨"EarSchool$MelodyTable", "fillStates", "(IIJ)V"⟩ 3 := ⟨am_wd_in 412 (by decide +kernel), am_wd_in 414 (by decide +kernel), am_wd_in 1 (by decide +kernel), am_wd_in 56 (by decide +kernel), by decide +kernel, by decide +kernel⟩
theorem lk_mt_47_wt : am_lkV "EarSchool$MelodyTable" 47 "EarSchool$WeightTable" ⟨"EarSchool$MelodyTable", "fillStates", "(IIJ)V"⟩ 3 := ⟨am_wd_in 412 (by decide +kernel), am_wd_in 414 (by decide +kernel), am_wd_in 6 (by decide +kernel), am_wd_in 56 (by decide +kernel), by decide +kernel, by decide +kernel⟩
theorem lk_mt_51_ct : am_lkU "EarSchool$MelodyTable" 51 "EarSchool$CountTable" "EarSchool$MelodyTable" ⟨"EarSchool$MelodyTable", "ofEnd", "()J"⟩ ⟨"EarSchool$CountTable", "ofEnd", "()J"⟩ 0 := ⟨am_wd_in 425 (by decide +kernel), am_wd_in 427 (by decide +kernel), List.mem_of_getElem? (i := 416) (by decide +kernel), am_wd_in 428 (by decide +kernel), am_wd_in 429 (by decide +kernel), am_wd_in 57 (by decide +kernel), by decide +kernel, by decide +kernel⟩
theorem lk_mt_51_wt : am_lkU "EarSchool$MelodyTable" 51 "EarSchool$WeightTable" "EarSchool$MelodyTable" ⟨"EarSchool$MelodyTable", "ofEnd", "()J"⟩ ⟨"EarSchool$WeightTable", "ofEnd", "()J"⟩ 0 := ⟨am_wd_in 425 (by decide +kernel), am_wd_in 427 (by decide +kernel), List.mem_of_getElem? (i := 416) (by decide +kernel), am_wd_in 431 (by decide +kernel), am_wd_in 432 (by decide +kernel), am_wd_in 58 (by decide +kernel), by decide +kernel, by decide +kernel⟩
theorem lk_mt_54_ct : am_lkV "EarSchool$MelodyTable" 54 "EarSchool$CountTable" ⟨"EarSchool$MelodyTable", "byStep", "(IIII)J"⟩ 4 := ⟨am_wd_in 434 (by decide +kernel), am_wd_in 436 (by decide +kernel), am_wd_in 4 (by decide +kernel), am_wd_in 56 (by decide +kernel), by decide +kernel, by decide +kernel⟩
theorem lk_mt_54_wt : am_lkV "EarSchool$MelodyTable" 54 "EarSchool$WeightTable" ⟨"EarSchool$MelodyTable", "byStep", "(IIII)J"⟩ 4 := ⟨am_wd_in 434 (by decide +kernel), am_wd_in 436 (by decide +kernel), am_wd_in 9 (by decide +kernel), am_wd_in 56 (by decide +kernel), by decide +kernel, by decide +kernel⟩
theorem lk_mt_58_ct : am_lkU "EarSchool$MelodyTable" 58 "EarSchool$CountTable" "EarSchool$MelodyTable" ⟨"EarSchool$MelodyTable", "together", "(JJ)J"⟩ ⟨"EarSchool$CountTable", "together", "(JJ)J"⟩ 2 := ⟨am_wd_in 469 (by decide +kernel), am_wd_in 471 (by decide +kernel), List.mem_of_getElem? (i := 460) (by decide +kernel), am_wd_in 472 (by decide +kernel), am_wd_in 473 (by decide +kernel), am_wd_in 57 (by decide +kernel), by decide +kernel, by decide +kernel⟩
theorem lk_mt_58_wt : am_lkU "EarSchool$MelodyTable" 58 "EarSchool$WeightTable" "EarSchool$MelodyTable" ⟨"EarSchool$MelodyTable", "together", "(JJ)J"⟩ ⟨"EarSchool$WeightTable", "together", "(JJ)J"⟩ 2 := ⟨am_wd_in 469 (by decide +kernel), am_wd_in 471 (by decide +kernel), List.mem_of_getElem? (i := 460) (by decide +kernel), am_wd_in 482 (by decide +kernel), am_wd_in 483 (by decide +kernel), am_wd_in 58 (by decide +kernel), by decide +kernel, by decide +kernel⟩
theorem mk_mt_65 : am_mtk "EarSchool$MelodyTable" 65 Lib.Math.min.name Lib.Math.min.code 2 (some .int) := ⟨am_wd_in 488 (by decide +kernel), am_wd_in 448 (by decide +kernel), am_wd_in 64 (by decide +kernel), am_wd_in 449 (by decide +kernel)⟩
theorem lk_mt_71_ct : am_lkV "EarSchool$MelodyTable" 71 "EarSchool$CountTable" ⟨"EarSchool$MelodyTable", "put", "(IIIJ)V"⟩ 4 := ⟨am_wd_in 416 (by decide +kernel), am_wd_in 418 (by decide +kernel), am_wd_in 2 (by decide +kernel), am_wd_in 56 (by decide +kernel), by decide +kernel, by decide +kernel⟩
theorem lk_mt_71_wt : am_lkV "EarSchool$MelodyTable" 71 "EarSchool$WeightTable" ⟨"EarSchool$MelodyTable", "put", "(IIIJ)V"⟩ 4 := ⟨am_wd_in 416 (by decide +kernel), am_wd_in 418 (by decide +kernel), am_wd_in 7 (by decide +kernel), am_wd_in 56 (by decide +kernel), by decide +kernel, by decide +kernel⟩
theorem lk_mt_75_ct : am_lkV "EarSchool$MelodyTable" 75 "EarSchool$CountTable" ⟨"EarSchool$MelodyTable", "index", "(III)I"⟩ 3 := ⟨am_wd_in 420 (by decide +kernel), am_wd_in 422 (by decide +kernel), am_wd_in 3 (by decide +kernel), am_wd_in 56 (by decide +kernel), by decide +kernel, by decide +kernel⟩
theorem lk_mt_75_wt : am_lkV "EarSchool$MelodyTable" 75 "EarSchool$WeightTable" ⟨"EarSchool$MelodyTable", "index", "(III)I"⟩ 3 := ⟨am_wd_in 420 (by decide +kernel), am_wd_in 422 (by decide +kernel), am_wd_in 8 (by decide +kernel), am_wd_in 56 (by decide +kernel), by decide +kernel, by decide +kernel⟩
theorem lk_mt_79 : am_lkN "EarSchool$MelodyTable" 79 ⟨"EarSchool", "outside", "(III)Z"⟩ "EarSchool" 3 := ⟨List.mem_of_getElem? (i := 414) (by decide +kernel), am_wd_in 344 (by decide +kernel), am_wd_in 53 (by decide +kernel), by decide +kernel, by decide +kernel⟩
theorem lk_mt_83 : am_lkV "EarSchool$MelodyTable" 83 "EarSchool$Rule" ⟨"EarSchool$Rule", "mayStep", "(II)Z"⟩ 2 := ⟨am_wd_in 438 (by decide +kernel), am_wd_in 439 (by decide +kernel), am_wd_in 440 (by decide +kernel), am_wd_in 55 (by decide +kernel), by decide +kernel, by decide +kernel⟩
theorem lk_mt_86 : am_lkV "EarSchool$MelodyTable" 86 "EarSchool$Rule" ⟨"EarSchool$Rule", "stateBehind", "(II)I"⟩ 2 := ⟨am_wd_in 443 (by decide +kernel), am_wd_in 444 (by decide +kernel), am_wd_in 445 (by decide +kernel), am_wd_in 55 (by decide +kernel), by decide +kernel, by decide +kernel⟩
theorem lk_mt_89_ct : am_lkU "EarSchool$MelodyTable" 89 "EarSchool$CountTable" "EarSchool$MelodyTable" ⟨"EarSchool$MelodyTable", "from", "(III)J"⟩ ⟨"EarSchool$MelodyTable", "from", "(III)J"⟩ 3 := ⟨am_wd_in 450 (by decide +kernel), am_wd_in 452 (by decide +kernel), List.mem_of_getElem? (i := 769) (by decide +kernel), am_wd_in 453 (by decide +kernel), am_wd_in 451 (by decide +kernel), am_wd_in 56 (by decide +kernel), by decide +kernel, by decide +kernel⟩
theorem lk_mt_89_wt : am_lkU "EarSchool$MelodyTable" 89 "EarSchool$WeightTable" "EarSchool$MelodyTable" ⟨"EarSchool$MelodyTable", "from", "(III)J"⟩ ⟨"EarSchool$MelodyTable", "from", "(III)J"⟩ 3 := ⟨am_wd_in 450 (by decide +kernel), am_wd_in 452 (by decide +kernel), List.mem_of_getElem? (i := 769) (by decide +kernel), am_wd_in 454 (by decide +kernel), am_wd_in 451 (by decide +kernel), am_wd_in 56 (by decide +kernel), by decide +kernel, by decide +kernel⟩
theorem lk_mt_93_ct : am_lkU "EarSchool$MelodyTable" 93 "EarSchool$CountTable" "EarSchool$MelodyTable" ⟨"EarSchool$MelodyTable", "stepped", "(IJ)J"⟩ ⟨"EarSchool$CountTable", "stepped", "(IJ)J"⟩ 2 := ⟨am_wd_in 456 (by decide +kernel), am_wd_in 458 (by decide +kernel), List.mem_of_getElem? (i := 447) (by decide +kernel), am_wd_in 459 (by decide +kernel), am_wd_in 460 (by decide +kernel), am_wd_in 57 (by decide +kernel), by decide +kernel, by decide +kernel⟩
theorem lk_mt_93_wt : am_lkU "EarSchool$MelodyTable" 93 "EarSchool$WeightTable" "EarSchool$MelodyTable" ⟨"EarSchool$MelodyTable", "stepped", "(IJ)J"⟩ ⟨"EarSchool$WeightTable", "stepped", "(IJ)J"⟩ 2 := ⟨am_wd_in 456 (by decide +kernel), am_wd_in 458 (by decide +kernel), List.mem_of_getElem? (i := 447) (by decide +kernel), am_wd_in 462 (by decide +kernel), am_wd_in 463 (by decide +kernel), am_wd_in 58 (by decide +kernel), by decide +kernel, by decide +kernel⟩
theorem lk_me_33 : am_lkV "EarSchool$Metre" 33 "EarSchool$Metre" ⟨"EarSchool$Metre", "fillBar", "(II)V"⟩ 2 := ⟨am_wd_in 553 (by decide +kernel), am_wd_in 555 (by decide +kernel), am_wd_in 10 (by decide +kernel), am_wd_in 59 (by decide +kernel), by decide +kernel, by decide +kernel⟩
theorem lk_me_37 : am_lkV "EarSchool$Metre" 37 "EarSchool$Metre" ⟨"EarSchool$Metre", "put", "(IIJ)V"⟩ 3 := ⟨am_wd_in 563 (by decide +kernel), am_wd_in 565 (by decide +kernel), am_wd_in 12 (by decide +kernel), am_wd_in 59 (by decide +kernel), by decide +kernel, by decide +kernel⟩
theorem lk_me_41 : am_lkV "EarSchool$Metre" 41 "EarSchool$Metre" ⟨"EarSchool$Metre", "onward", "(IIII)J"⟩ 4 := ⟨am_wd_in 557 (by decide +kernel), am_wd_in 559 (by decide +kernel), am_wd_in 11 (by decide +kernel), am_wd_in 59 (by decide +kernel), by decide +kernel, by decide +kernel⟩
theorem lk_me_45 : am_lkN "EarSchool$Metre" 45 ⟨"EarSchool", "cappedSum", "(JJ)J"⟩ "EarSchool" 2 := ⟨List.mem_of_getElem? (i := 552) (by decide +kernel), am_wd_in 476 (by decide +kernel), am_wd_in 53 (by decide +kernel), by decide +kernel, by decide +kernel⟩
theorem lk_me_49 : am_lkN "EarSchool$Metre" 49 ⟨"EarSchool", "outside", "(III)Z"⟩ "EarSchool" 3 := ⟨List.mem_of_getElem? (i := 551) (by decide +kernel), am_wd_in 344 (by decide +kernel), am_wd_in 53 (by decide +kernel), by decide +kernel, by decide +kernel⟩
theorem lk_me_56 : am_lkV "EarSchool$Metre" 56 "EarSchool$Notes" ⟨"EarSchool$Notes", "push", "(II)V"⟩ 2 := ⟨am_wd_in 579 (by decide +kernel), am_wd_in 347 (by decide +kernel), am_wd_in 348 (by decide +kernel), am_wd_in 54 (by decide +kernel), by decide +kernel, by decide +kernel⟩
theorem lk_no_22 : am_lkV "EarSchool$Notes" 22 "EarSchool$Notes" ⟨"EarSchool$Notes", "push", "(II)V"⟩ 2 := ⟨am_wd_in 658 (by decide +kernel), am_wd_in 347 (by decide +kernel), am_wd_in 348 (by decide +kernel), am_wd_in 54 (by decide +kernel), by decide +kernel, by decide +kernel⟩
theorem lk_pu_32 : am_lkN "EarSchool$Pupils" 32 ⟨"EarSchool", "outside", "(III)Z"⟩ "EarSchool" 3 := ⟨List.mem_of_getElem? (i := 728) (by decide +kernel), am_wd_in 344 (by decide +kernel), am_wd_in 53 (by decide +kernel), by decide +kernel, by decide +kernel⟩
theorem mk_pu_39 : am_mtk "EarSchool$Pupils" 39 Lib.Math.abs.name Lib.Math.abs.code 1 (some .int) := ⟨am_wd_in 739 (by decide +kernel), am_wd_in 466 (by decide +kernel), am_wd_in 64 (by decide +kernel), am_wd_in 467 (by decide +kernel)⟩
theorem mk_pu_45 : am_mtk "EarSchool$Pupils" 45 Lib.Math.min.name Lib.Math.min.code 2 (some .int) := ⟨am_wd_in 740 (by decide +kernel), am_wd_in 448 (by decide +kernel), am_wd_in 64 (by decide +kernel), am_wd_in 449 (by decide +kernel)⟩
theorem lk_pu_49 : am_lkV "EarSchool$Pupils" 49 "EarSchool$Judgement" ⟨"EarSchool$Judgement", "missed", "(I)Z"⟩ 1 := ⟨am_wd_in 741 (by decide +kernel), am_wd_in 742 (by decide +kernel), am_wd_in 743 (by decide +kernel), am_wd_in 61 (by decide +kernel), by decide +kernel, by decide +kernel⟩
theorem lk_ru_32 : am_lkN "EarSchool$Rule" 32 ⟨"EarSchool", "hasClass", "(II)Z"⟩ "EarSchool" 2 := ⟨List.mem_of_getElem? (i := 389) (by decide +kernel), am_wd_in 400 (by decide +kernel), am_wd_in 53 (by decide +kernel), by decide +kernel, by decide +kernel⟩
theorem lk_ru_36 : am_lkN "EarSchool$Rule" 36 ⟨"EarSchool", "outside", "(III)Z"⟩ "EarSchool" 3 := ⟨List.mem_of_getElem? (i := 432) (by decide +kernel), am_wd_in 344 (by decide +kernel), am_wd_in 53 (by decide +kernel), by decide +kernel, by decide +kernel⟩
theorem mk_ru_40 : am_mtk "EarSchool$Rule" 40 Lib.Math.min.name Lib.Math.min.code 2 (some .int) := ⟨am_wd_in 447 (by decide +kernel), am_wd_in 448 (by decide +kernel), am_wd_in 64 (by decide +kernel), am_wd_in 449 (by decide +kernel)⟩
theorem mk_wt_17 : am_mtk "EarSchool$WeightTable" 17 Lib.MathLoose.max_long.x Lib.MathLoose.max_long.code 4 (some .long) := ⟨am_wd_in 485 (by decide +kernel), am_wd_in 486 (by decide +kernel), am_wd_in 64 (by decide +kernel), am_wd_in 487 (by decide +kernel)⟩
theorem mk_wt_23 : am_mtk "EarSchool$WeightTable" 23 Lib.Math.abs.name Lib.Math.abs.code 1 (some .int) := ⟨am_wd_in 465 (by decide +kernel), am_wd_in 466 (by decide +kernel), am_wd_in 64 (by decide +kernel), am_wd_in 467 (by decide +kernel)⟩
theorem lk_wt_27_wt : am_lkV "EarSchool$WeightTable" 27 "EarSchool$WeightTable" ⟨"EarSchool$WeightTable", "ofNone", "()J"⟩ 0 := ⟨am_wd_in 468 (by decide +kernel), am_wd_in 409 (by decide +kernel), am_wd_in 1129 (by decide +kernel), am_wd_in 58 (by decide +kernel), by decide +kernel, by decide +kernel⟩
theorem lk_wt_31_wt : am_lkU "EarSchool$WeightTable" 31 "EarSchool$WeightTable" "EarSchool$MelodyTable" ⟨"EarSchool$WeightTable", "total", "()J"⟩ ⟨"EarSchool$MelodyTable", "total", "()J"⟩ 0 := ⟨am_wd_in 770 (by decide +kernel), am_wd_in 764 (by decide +kernel), List.mem_of_getElem? (i := 481) (by decide +kernel), am_wd_in 765 (by decide +kernel), am_wd_in 493 (by decide +kernel), am_wd_in 56 (by decide +kernel), by decide +kernel, by decide +kernel⟩
theorem lk_wt_55_wt : am_lkU "EarSchool$WeightTable" 55 "EarSchool$WeightTable" "EarSchool$MelodyTable" ⟨"EarSchool$WeightTable", "onward", "(IIII)J"⟩ ⟨"EarSchool$MelodyTable", "onward", "(IIII)J"⟩ 4 := ⟨am_wd_in 771 (by decide +kernel), am_wd_in 772 (by decide +kernel), List.mem_of_getElem? (i := 495) (by decide +kernel), am_wd_in 773 (by decide +kernel), am_wd_in 507 (by decide +kernel), am_wd_in 56 (by decide +kernel), by decide +kernel, by decide +kernel⟩
theorem lk_wt_59_wt : am_lkU "EarSchool$WeightTable" 59 "EarSchool$WeightTable" "EarSchool$MelodyTable" ⟨"EarSchool$WeightTable", "stateAt", "(IIII)I"⟩ ⟨"EarSchool$MelodyTable", "stateAt", "(IIII)I"⟩ 4 := ⟨am_wd_in 774 (by decide +kernel), am_wd_in 775 (by decide +kernel), List.mem_of_getElem? (i := 501) (by decide +kernel), am_wd_in 776 (by decide +kernel), am_wd_in 513 (by decide +kernel), am_wd_in 56 (by decide +kernel), by decide +kernel, by decide +kernel⟩
theorem lk_wt_63_wt : am_lkU "EarSchool$WeightTable" 63 "EarSchool$WeightTable" "EarSchool$MelodyTable" ⟨"EarSchool$WeightTable", "from", "(III)J"⟩ ⟨"EarSchool$MelodyTable", "from", "(III)J"⟩ 3 := ⟨am_wd_in 777 (by decide +kernel), am_wd_in 778 (by decide +kernel), List.mem_of_getElem? (i := 769) (by decide +kernel), am_wd_in 780 (by decide +kernel), am_wd_in 451 (by decide +kernel), am_wd_in 56 (by decide +kernel), by decide +kernel, by decide +kernel⟩
theorem lk_wt_67 : am_lkV "EarSchool$WeightTable" 67 "EarSchool$Notes" ⟨"EarSchool$Notes", "push", "(II)V"⟩ 2 := ⟨am_wd_in 781 (by decide +kernel), am_wd_in 347 (by decide +kernel), am_wd_in 348 (by decide +kernel), am_wd_in 54 (by decide +kernel), by decide +kernel, by decide +kernel⟩
theorem lk_la_13 : am_lkV "EarSchoolLaw" 13 "EarSchool" ⟨"EarSchool", "note", "(II)I"⟩ 2 := ⟨am_wd_in 339 (by decide +kernel), am_wd_in 340 (by decide +kernel), am_wd_in 341 (by decide +kernel), am_wd_in 53 (by decide +kernel), by decide +kernel, by decide +kernel⟩
theorem lk_la_17 : am_lkV "EarSchoolLaw" 17 "EarSchoolModel" ⟨"EarSchoolModel", "note", "(II)I"⟩ 2 := ⟨am_wd_in 909 (by decide +kernel), am_wd_in 910 (by decide +kernel), am_wd_in 911 (by decide +kernel), am_wd_in 63 (by decide +kernel), by decide +kernel, by decide +kernel⟩
theorem lk_la_18 : am_lkV "EarSchoolLaw" 18 "EarSchool" ⟨"EarSchool", "drop", "()I"⟩ 0 := ⟨am_wd_in 354 (by decide +kernel), am_wd_in 355 (by decide +kernel), am_wd_in 356 (by decide +kernel), am_wd_in 53 (by decide +kernel), by decide +kernel, by decide +kernel⟩
theorem lk_la_22 : am_lkV "EarSchoolLaw" 22 "EarSchoolModel" ⟨"EarSchoolModel", "drop", "()I"⟩ 0 := ⟨am_wd_in 918 (by decide +kernel), am_wd_in 919 (by decide +kernel), am_wd_in 920 (by decide +kernel), am_wd_in 63 (by decide +kernel), by decide +kernel, by decide +kernel⟩
theorem lk_la_23 : am_lkV "EarSchoolLaw" 23 "EarSchool" ⟨"EarSchool", "at", "(II)I"⟩ 2 := ⟨am_wd_in 358 (by decide +kernel), am_wd_in 359 (by decide +kernel), am_wd_in 360 (by decide +kernel), am_wd_in 53 (by decide +kernel), by decide +kernel, by decide +kernel⟩
theorem lk_la_26 : am_lkV "EarSchoolLaw" 26 "EarSchoolModel" ⟨"EarSchoolModel", "at", "(II)I"⟩ 2 := ⟨am_wd_in 922 (by decide +kernel), am_wd_in 923 (by decide +kernel), am_wd_in 924 (by decide +kernel), am_wd_in 63 (by decide +kernel), by decide +kernel, by decide +kernel⟩
theorem lk_la_27 : am_lkV "EarSchoolLaw" 27 "EarSchool" ⟨"EarSchool", "range", "(III)I"⟩ 3 := ⟨am_wd_in 362 (by decide +kernel), am_wd_in 363 (by decide +kernel), am_wd_in 364 (by decide +kernel), am_wd_in 53 (by decide +kernel), by decide +kernel, by decide +kernel⟩
theorem lk_la_31 : am_lkV "EarSchoolLaw" 31 "EarSchoolModel" ⟨"EarSchoolModel", "range", "(III)I"⟩ 3 := ⟨am_wd_in 926 (by decide +kernel), am_wd_in 927 (by decide +kernel), am_wd_in 928 (by decide +kernel), am_wd_in 63 (by decide +kernel), by decide +kernel, by decide +kernel⟩
theorem lk_la_32 : am_lkV "EarSchoolLaw" 32 "EarSchool" ⟨"EarSchool", "bits", "(II)I"⟩ 2 := ⟨am_wd_in 372 (by decide +kernel), am_wd_in 373 (by decide +kernel), am_wd_in 374 (by decide +kernel), am_wd_in 53 (by decide +kernel), by decide +kernel, by decide +kernel⟩
theorem lk_la_35 : am_lkV "EarSchoolLaw" 35 "EarSchoolModel" ⟨"EarSchoolModel", "bits", "(II)I"⟩ 2 := ⟨am_wd_in 931 (by decide +kernel), am_wd_in 932 (by decide +kernel), am_wd_in 933 (by decide +kernel), am_wd_in 63 (by decide +kernel), by decide +kernel, by decide +kernel⟩
theorem lk_la_36 : am_lkV "EarSchoolLaw" 36 "EarSchool" ⟨"EarSchool", "bound", "(II)I"⟩ 2 := ⟨am_wd_in 377 (by decide +kernel), am_wd_in 378 (by decide +kernel), am_wd_in 379 (by decide +kernel), am_wd_in 53 (by decide +kernel), by decide +kernel, by decide +kernel⟩
theorem lk_la_39 : am_lkV "EarSchoolLaw" 39 "EarSchoolModel" ⟨"EarSchoolModel", "bound", "(II)I"⟩ 2 := ⟨am_wd_in 938 (by decide +kernel), am_wd_in 939 (by decide +kernel), am_wd_in 940 (by decide +kernel), am_wd_in 63 (by decide +kernel), by decide +kernel, by decide +kernel⟩
theorem lk_la_40 : am_lkV "EarSchoolLaw" 40 "EarSchool" ⟨"EarSchool", "melodies", "()J"⟩ 0 := ⟨am_wd_in 381 (by decide +kernel), am_wd_in 382 (by decide +kernel), am_wd_in 383 (by decide +kernel), am_wd_in 53 (by decide +kernel), by decide +kernel, by decide +kernel⟩
theorem lk_la_44 : am_lkV "EarSchoolLaw" 44 "EarSchoolModel" ⟨"EarSchoolModel", "melodies", "()J"⟩ 0 := ⟨am_wd_in 944 (by decide +kernel), am_wd_in 945 (by decide +kernel), am_wd_in 946 (by decide +kernel), am_wd_in 63 (by decide +kernel), by decide +kernel, by decide +kernel⟩
theorem lk_la_47 : am_lkV "EarSchoolLaw" 47 "EarSchool" ⟨"EarSchool", "melody", "(J)I"⟩ 1 := ⟨am_wd_in 495 (by decide +kernel), am_wd_in 496 (by decide +kernel), am_wd_in 497 (by decide +kernel), am_wd_in 53 (by decide +kernel), by decide +kernel, by decide +kernel⟩
theorem lk_la_51 : am_lkV "EarSchoolLaw" 51 "EarSchoolModel" ⟨"EarSchoolModel", "melody", "(J)I"⟩ 1 := ⟨am_wd_in 976 (by decide +kernel), am_wd_in 977 (by decide +kernel), am_wd_in 978 (by decide +kernel), am_wd_in 63 (by decide +kernel), by decide +kernel, by decide +kernel⟩
theorem lk_la_52 : am_lkV "EarSchoolLaw" 52 "EarSchool" ⟨"EarSchool", "place", "()J"⟩ 0 := ⟨am_wd_in 516 (by decide +kernel), am_wd_in 517 (by decide +kernel), am_wd_in 518 (by decide +kernel), am_wd_in 53 (by decide +kernel), by decide +kernel, by decide +kernel⟩
theorem lk_la_55 : am_lkV "EarSchoolLaw" 55 "EarSchoolModel" ⟨"EarSchoolModel", "place", "()J"⟩ 0 := ⟨am_wd_in 989 (by decide +kernel), am_wd_in 990 (by decide +kernel), am_wd_in 991 (by decide +kernel), am_wd_in 63 (by decide +kernel), by decide +kernel, by decide +kernel⟩
theorem lk_la_56 : am_lkV "EarSchoolLaw" 56 "EarSchool" ⟨"EarSchool", "bars", "(II)I"⟩ 2 := ⟨am_wd_in 525 (by decide +kernel), am_wd_in 526 (by decide +kernel), am_wd_in 527 (by decide +kernel), am_wd_in 53 (by decide +kernel), by decide +kernel, by decide +kernel⟩
theorem lk_la_59 : am_lkV "EarSchoolLaw" 59 "EarSchoolModel" ⟨"EarSchoolModel", "bars", "(II)I"⟩ 2 := ⟨am_wd_in 994 (by decide +kernel), am_wd_in 995 (by decide +kernel), am_wd_in 996 (by decide +kernel), am_wd_in 63 (by decide +kernel), by decide +kernel, by decide +kernel⟩
theorem lk_la_60 : am_lkV "EarSchoolLaw" 60 "EarSchool" ⟨"EarSchool", "some", "(IZ)I"⟩ 2 := ⟨am_wd_in 529 (by decide +kernel), am_wd_in 530 (by decide +kernel), am_wd_in 531 (by decide +kernel), am_wd_in 53 (by decide +kernel), by decide +kernel, by decide +kernel⟩
theorem lk_la_64 : am_lkV "EarSchoolLaw" 64 "EarSchoolModel" ⟨"EarSchoolModel", "some", "(IZ)I"⟩ 2 := ⟨am_wd_in 999 (by decide +kernel), am_wd_in 1000 (by decide +kernel), am_wd_in 1001 (by decide +kernel), am_wd_in 63 (by decide +kernel), by decide +kernel, by decide +kernel⟩
theorem lk_la_65 : am_lkV "EarSchoolLaw" 65 "EarSchool" ⟨"EarSchool", "rhythms", "()J"⟩ 0 := ⟨am_wd_in 545 (by decide +kernel), am_wd_in 546 (by decide +kernel), am_wd_in 547 (by decide +kernel), am_wd_in 53 (by decide +kernel), by decide +kernel, by decide +kernel⟩
theorem lk_la_68 : am_lkV "EarSchoolLaw" 68 "EarSchoolModel" ⟨"EarSchoolModel", "rhythms", "()J"⟩ 0 := ⟨am_wd_in 1003 (by decide +kernel), am_wd_in 1004 (by decide +kernel), am_wd_in 1005 (by decide +kernel), am_wd_in 63 (by decide +kernel), by decide +kernel, by decide +kernel⟩
theorem lk_la_69 : am_lkV "EarSchoolLaw" 69 "EarSchool" ⟨"EarSchool", "rhythm", "(J)I"⟩ 1 := ⟨am_wd_in 571 (by decide +kernel), am_wd_in 572 (by decide +kernel), am_wd_in 573 (by decide +kernel), am_wd_in 53 (by decide +kernel), by decide +kernel, by decide +kernel⟩
theorem lk_la_72 : am_lkV "EarSchoolLaw" 72 "EarSchoolModel" ⟨"EarSchoolModel", "rhythm", "(J)I"⟩ 1 := ⟨am_wd_in 1015 (by decide +kernel), am_wd_in 1016 (by decide +kernel), am_wd_in 1017 (by decide +kernel), am_wd_in 63 (by decide +kernel), by decide +kernel, by decide +kernel⟩
theorem lk_la_73 : am_lkV "EarSchoolLaw" 73 "EarSchool" ⟨"EarSchool", "mask", "(I)I"⟩ 1 := ⟨am_wd_in 580 (by decide +kernel), am_wd_in 581 (by decide +kernel), am_wd_in 582 (by decide +kernel), am_wd_in 53 (by decide +kernel), by decide +kernel, by decide +kernel⟩
theorem lk_la_77 : am_lkV "EarSchoolLaw" 77 "EarSchoolModel" ⟨"EarSchoolModel", "mask", "(I)I"⟩ 1 := ⟨am_wd_in 1020 (by decide +kernel), am_wd_in 1021 (by decide +kernel), am_wd_in 1022 (by decide +kernel), am_wd_in 63 (by decide +kernel), by decide +kernel, by decide +kernel⟩
theorem lk_la_78 : am_lkV "EarSchoolLaw" 78 "EarSchool" ⟨"EarSchool", "clear", "()I"⟩ 0 := ⟨am_wd_in 590 (by decide +kernel), am_wd_in 591 (by decide +kernel), am_wd_in 592 (by decide +kernel), am_wd_in 53 (by decide +kernel), by decide +kernel, by decide +kernel⟩
theorem lk_la_81 : am_lkV "EarSchoolLaw" 81 "EarSchoolModel" ⟨"EarSchoolModel", "clear", "()I"⟩ 0 := ⟨am_wd_in 1024 (by decide +kernel), am_wd_in 1025 (by decide +kernel), am_wd_in 1026 (by decide +kernel), am_wd_in 63 (by decide +kernel), by decide +kernel, by decide +kernel⟩
theorem lk_la_82 : am_lkV "EarSchoolLaw" 82 "EarSchool" ⟨"EarSchool", "voice", "(II)I"⟩ 2 := ⟨am_wd_in 594 (by decide +kernel), am_wd_in 595 (by decide +kernel), am_wd_in 596 (by decide +kernel), am_wd_in 53 (by decide +kernel), by decide +kernel, by decide +kernel⟩
theorem lk_la_85 : am_lkV "EarSchoolLaw" 85 "EarSchoolModel" ⟨"EarSchoolModel", "voice", "(II)I"⟩ 2 := ⟨am_wd_in 1028 (by decide +kernel), am_wd_in 1029 (by decide +kernel), am_wd_in 1030 (by decide +kernel), am_wd_in 63 (by decide +kernel), by decide +kernel, by decide +kernel⟩
theorem lk_la_86 : am_lkV "EarSchoolLaw" 86 "EarSchool" ⟨"EarSchool", "chords", "()J"⟩ 0 := ⟨am_wd_in 598 (by decide +kernel), am_wd_in 599 (by decide +kernel), am_wd_in 600 (by decide +kernel), am_wd_in 53 (by decide +kernel), by decide +kernel, by decide +kernel⟩
theorem lk_la_89 : am_lkV "EarSchoolLaw" 89 "EarSchoolModel" ⟨"EarSchoolModel", "chords", "()J"⟩ 0 := ⟨am_wd_in 1033 (by decide +kernel), am_wd_in 1034 (by decide +kernel), am_wd_in 1035 (by decide +kernel), am_wd_in 63 (by decide +kernel), by decide +kernel, by decide +kernel⟩
theorem lk_la_90 : am_lkV "EarSchoolLaw" 90 "EarSchool" ⟨"EarSchool", "chord", "(JII)I"⟩ 3 := ⟨am_wd_in 641 (by decide +kernel), am_wd_in 642 (by decide +kernel), am_wd_in 643 (by decide +kernel), am_wd_in 53 (by decide +kernel), by decide +kernel, by decide +kernel⟩
theorem lk_la_94 : am_lkV "EarSchoolLaw" 94 "EarSchoolModel" ⟨"EarSchoolModel", "chord", "(JII)I"⟩ 3 := ⟨am_wd_in 1053 (by decide +kernel), am_wd_in 1054 (by decide +kernel), am_wd_in 1055 (by decide +kernel), am_wd_in 63 (by decide +kernel), by decide +kernel, by decide +kernel⟩
theorem lk_la_95 : am_lkV "EarSchoolLaw" 95 "EarSchool" ⟨"EarSchool", "meant", "()I"⟩ 0 := ⟨am_wd_in 650 (by decide +kernel), am_wd_in 651 (by decide +kernel), am_wd_in 652 (by decide +kernel), am_wd_in 53 (by decide +kernel), by decide +kernel, by decide +kernel⟩
theorem lk_la_98 : am_lkV "EarSchoolLaw" 98 "EarSchoolModel" ⟨"EarSchoolModel", "meant", "()I"⟩ 0 := ⟨am_wd_in 1059 (by decide +kernel), am_wd_in 1060 (by decide +kernel), am_wd_in 1061 (by decide +kernel), am_wd_in 63 (by decide +kernel), by decide +kernel, by decide +kernel⟩
theorem lk_la_99 : am_lkV "EarSchoolLaw" 99 "EarSchool" ⟨"EarSchool", "judge", "()I"⟩ 0 := ⟨am_wd_in 659 (by decide +kernel), am_wd_in 660 (by decide +kernel), am_wd_in 661 (by decide +kernel), am_wd_in 53 (by decide +kernel), by decide +kernel, by decide +kernel⟩
theorem lk_la_102 : am_lkV "EarSchoolLaw" 102 "EarSchoolModel" ⟨"EarSchoolModel", "judge", "()I"⟩ 0 := ⟨am_wd_in 1063 (by decide +kernel), am_wd_in 1064 (by decide +kernel), am_wd_in 1065 (by decide +kernel), am_wd_in 63 (by decide +kernel), by decide +kernel, by decide +kernel⟩
theorem lk_la_103 : am_lkV "EarSchoolLaw" 103 "EarSchool" ⟨"EarSchool", "act", "(II)I"⟩ 2 := ⟨am_wd_in 726 (by decide +kernel), am_wd_in 727 (by decide +kernel), am_wd_in 728 (by decide +kernel), am_wd_in 53 (by decide +kernel), by decide +kernel, by decide +kernel⟩
theorem lk_la_106 : am_lkV "EarSchoolLaw" 106 "EarSchoolModel" ⟨"EarSchoolModel", "act", "(II)I"⟩ 2 := ⟨am_wd_in 1090 (by decide +kernel), am_wd_in 1091 (by decide +kernel), am_wd_in 1092 (by decide +kernel), am_wd_in 63 (by decide +kernel), by decide +kernel, by decide +kernel⟩
theorem lk_la_107 : am_lkV "EarSchoolLaw" 107 "EarSchool" ⟨"EarSchool", "learn", "(I)I"⟩ 1 := ⟨am_wd_in 730 (by decide +kernel), am_wd_in 731 (by decide +kernel), am_wd_in 732 (by decide +kernel), am_wd_in 53 (by decide +kernel), by decide +kernel, by decide +kernel⟩
theorem lk_la_110 : am_lkV "EarSchoolLaw" 110 "EarSchoolModel" ⟨"EarSchoolModel", "learn", "(I)I"⟩ 1 := ⟨am_wd_in 1094 (by decide +kernel), am_wd_in 1095 (by decide +kernel), am_wd_in 1096 (by decide +kernel), am_wd_in 63 (by decide +kernel), by decide +kernel, by decide +kernel⟩
theorem lk_la_111 : am_lkV "EarSchoolLaw" 111 "EarSchool" ⟨"EarSchool", "table", "(III)I"⟩ 3 := ⟨am_wd_in 745 (by decide +kernel), am_wd_in 746 (by decide +kernel), am_wd_in 747 (by decide +kernel), am_wd_in 53 (by decide +kernel), by decide +kernel, by decide +kernel⟩
theorem lk_la_114 : am_lkV "EarSchoolLaw" 114 "EarSchoolModel" ⟨"EarSchoolModel", "table", "(III)I"⟩ 3 := ⟨am_wd_in 1099 (by decide +kernel), am_wd_in 1100 (by decide +kernel), am_wd_in 1101 (by decide +kernel), am_wd_in 63 (by decide +kernel), by decide +kernel, by decide +kernel⟩
theorem lk_la_115 : am_lkV "EarSchoolLaw" 115 "EarSchool" ⟨"EarSchool", "drill", "(I)I"⟩ 1 := ⟨am_wd_in 753 (by decide +kernel), am_wd_in 754 (by decide +kernel), am_wd_in 755 (by decide +kernel), am_wd_in 53 (by decide +kernel), by decide +kernel, by decide +kernel⟩
theorem lk_la_118 : am_lkV "EarSchoolLaw" 118 "EarSchoolModel" ⟨"EarSchoolModel", "drill", "(I)I"⟩ 1 := ⟨am_wd_in 1107 (by decide +kernel), am_wd_in 1108 (by decide +kernel), am_wd_in 1109 (by decide +kernel), am_wd_in 63 (by decide +kernel), by decide +kernel, by decide +kernel⟩
theorem lk_la_119 : am_lkV "EarSchoolLaw" 119 "EarSchool" ⟨"EarSchool", "count", "(I)I"⟩ 1 := ⟨am_wd_in 782 (by decide +kernel), am_wd_in 783 (by decide +kernel), am_wd_in 784 (by decide +kernel), am_wd_in 53 (by decide +kernel), by decide +kernel, by decide +kernel⟩
theorem lk_la_122 : am_lkV "EarSchoolLaw" 122 "EarSchoolModel" ⟨"EarSchoolModel", "count", "(I)I"⟩ 1 := ⟨am_wd_in 1119 (by decide +kernel), am_wd_in 1120 (by decide +kernel), am_wd_in 1121 (by decide +kernel), am_wd_in 63 (by decide +kernel), by decide +kernel, by decide +kernel⟩
end
section
def am_runp (n : Nat) (ss : List Nat) (y : am_Y) (pc : Nat) (lv : List (Nat × am_v)) (st : List am_v) (I : am_I) : am_R := match am_mem pc ss with
  | true => none
  | false => match am_step y pc lv st I with
    | none => none
    | some _ => am_run n ss y pc lv st I
theorem am_gp {d : Nat} {y : am_Y} {Po : Option am_v → am_I → Prop} {pc pc' : Nat} {lv lv' : List (Nat × am_v)} {st st' : List am_v} {I I' : am_I} {P : Option Prop} (n : Nat) (ss : List Nat) (h : am_runp n ss y pc lv st I = some (P, pc', lv', st', I')) (hp : am_p P) (k : am_V d y Po pc' lv' st' I') : am_V d y Po pc lv st I := by
  unfold am_runp at h
  split at h
  · cases h
  · split at h
    · cases h
    · exact am_go n ss h hp k
theorem am_bt {d : Nat} {y : am_Y} {Po : Option am_v → am_I → Prop} {pc tg nx : Nat} {lv : List (Nat × am_v)} {st r : List am_v} {I : am_I} {P C : Prop} (h : am_brf y pc st = some (P, C, tg, nx, r)) (hp : P) (hc : C) (kt : am_V d y Po tg lv r I) : am_V d y Po pc lv st I := am_br h hp (fun _ => kt) (fun z => absurd hc z)
theorem am_bf {d : Nat} {y : am_Y} {Po : Option am_v → am_I → Prop} {pc tg nx : Nat} {lv : List (Nat × am_v)} {st r : List am_v} {I : am_I} {P C : Prop} (h : am_brf y pc st = some (P, C, tg, nx, r)) (hp : P) (hc : ¬ C) (kf : am_V d y Po nx lv r I) : am_V d y Po pc lv st I := am_br h hp (fun z => absurd z hc) (fun _ => kf)
theorem am_u_at (I : am_I) (k j : Nat) (x : Int) : am_u I k j x k j = x := by rw [am_u_eq, am_up_eq]
theorem am_u_j {I : am_I} {k j i : Nat} {x : Int} (h : i ≠ j) : am_u I k j x k i = I k i := by rw [am_u_eq, am_up_ne h]
theorem am_and_rng (x y : Int) : -2147483648 ≤ am_and x y ∧ am_and x y < 2147483648 := by
  unfold am_and
  have h1 := Int32.le_toInt (Int32.ofInt x &&& Int32.ofInt y)
  have h2 := Int32.toInt_lt (Int32.ofInt x &&& Int32.ofInt y)
  omega
theorem am_or_rng (x y : Int) : -2147483648 ≤ am_or x y ∧ am_or x y < 2147483648 := by
  unfold am_or
  have h1 := Int32.le_toInt (Int32.ofInt x ||| Int32.ofInt y)
  have h2 := Int32.toInt_lt (Int32.ofInt x ||| Int32.ofInt y)
  omega
theorem am_and_1 (x : Int) : am_and x 1 = 0 ∨ am_and x 1 = 1 := by
  unfold am_and
  have h : ∀ z : Int32, (z &&& 1).toInt = 0 ∨ (z &&& 1).toInt = 1 := by
    intro z
    have e : (z &&& 1).toBitVec = z.toBitVec &&& 1#32 := rfl
    have h2 : (z &&& 1).toBitVec = 0#32 ∨ (z &&& 1).toBitVec = 1#32 := by
      rw [e]
      generalize z.toBitVec = b
      revert b
      intro b
      have : b &&& 1#32 = if b.getLsbD 0 then 1#32 else 0#32 := by
        ext i hi
        simp only [BitVec.getElem_and]
        cases i with
        | zero => cases hb : b.getLsbD 0 <;> simp [BitVec.getLsbD, ← BitVec.getLsbD_eq_getElem] at hb ⊢ <;> simp_all
        | succ i => cases b.getLsbD 0 <;> simp
      rw [this]
      split
      · exact Or.inr rfl
      · exact Or.inl rfl
    rcases h2 with h2 | h2
    · left; show (z &&& 1).toBitVec.toInt = 0; rw [h2]; rfl
    · right; show (z &&& 1).toBitVec.toInt = 1; rw [h2]; rfl
  exact h _
def am_swc (V : Nat → Prop) (x : Int) : Int → List Nat → Prop
  | _, [] => True
  | v, t :: l => (x = v → V t) ∧ am_swc V x (v + 1) l
theorem am_swc_at {V : Nat → Prop} {x : Int} : ∀ {l : List Nat} {v : Int}, am_swc V x v l → ∀ (j t : Nat), l[j]? = some t → x = v + (j : Int) → V t
  | [], v, h, j, t, hj, hx => by simp at hj
  | a :: l, v, h, 0, t, hj, hx => by
    simp at hj
    subst hj
    exact h.1 (by omega)
  | a :: l, v, h, j + 1, t, hj, hx => am_swc_at h.2 j t (by simpa using hj) (by omega)
theorem am_sw2 {d : Nat} {y : am_Y} {Po : Option am_v → am_I → Prop} {pc nx tg : Nat} {ax : Int} {lv : List (Nat × am_v)} {I : am_I} {dflt lo hi : Int} {offs : Array Int} {x : Int} {r : List am_v} (ts : List Nat) (dt : Nat) (hat : am_at y.2.2.2.2.1 pc = some (.tableswitch dflt lo hi offs, nx, ax, tg)) (hts : offs.toList = ts.map (fun (t : Nat) => (t : Int) - (pc : Int))) (hdt : dflt = (dt : Int) - (pc : Int)) (hlen : (ts.length : Int) = hi - lo + 1) (hx : -2147483648 ≤ x ∧ x < 2147483648)
    (kk : am_swc (fun t => am_V d y Po t lv r I) x lo ts) (kd : (x < lo ∨ hi < x) → am_V d y Po dt lv r I) : am_V d y Po pc lv (.inl x :: r) I := am_sw ts dt hat hts hdt hlen hx (am_swc_at kk) kd
def am_fr (I I' : am_I) (l : List Nat) : Prop := ∀ a : Nat, am_mem a l = false → I' a = I a
theorem am_fr.rf {I : am_I} {l : List Nat} : am_fr I I l := fun _ _ => rfl
theorem am_fr.u {I I' : am_I} {l : List Nat} (h : am_fr I I' l) {k : Nat} (j : Nat) (x : Int) (hk : am_mem k l = true) : am_fr I (am_u I' k j x) l := by
  intro a ha
  have hne : a ≠ k := fun e => by rw [e, hk] at ha; cases ha
  rw [am_u_ne hne]
  exact h a ha
theorem am_fr.tr {I I' I2 : am_I} {l : List Nat} (h : am_fr I I' l) (h2 : am_fr I' I2 l) : am_fr I I2 l := fun a ha => (h2 a ha).trans (h a ha)
theorem am_mem_app {a : Nat} : ∀ {l : List Nat}, am_mem a l = false → ∀ {k : Nat}, am_mem k l = true → a ≠ k := by
  intro l h k hk e
  rw [e, hk] at h
  cases h
end
section
theorem c_outside (d : Nat) (v a b : Int) (I : am_I) (hv : (-2147483648 ≤ v ∧ v < 2147483648)) (ha : (-2147483648 ≤ a ∧ a < 2147483648)) (hb : (-2147483648 ≤ b ∧ b < 2147483648)) : am_C d Y_es_outside [.inl v, .inl a, .inl b] I (fun r I' => I' = I ∧ ((r = some (.inl 1) ∧ (v < a ∨ b < v)) ∨ (r = some (.inl 0) ∧ a ≤ v ∧ v ≤ b))) := by
  refine am_enter ok_es_outside rfl ?_
  repeat' (first
    | (refine am_gp 80 [] rfl (by first | trivial | exact Or.inl rfl | exact Or.inr rfl | (simp (decide := true) only [am_p, am_u_at, am_u_j, am_u_ne]; omega) | (simp (decide := true) only [am_p, and_true, true_and, true_or, or_true, am_u_at, am_u_j, am_u_ne]; omega) | (simp (decide := true) [am_p, am_u_at, am_u_j, am_u_ne]; omega)) ?_)
    | (show am_V _ _ _ _ _ _ _; simp only [Int.reduceToNat])
    | (refine am_bt rfl (by first | omega | (simp (decide := true) only [am_u_at, am_u_j, am_u_ne]; omega)) (by first | omega | (simp (decide := true) only [am_u_at, am_u_j, am_u_ne]; omega)) ?_)
    | (refine am_bf rfl (by first | omega | (simp (decide := true) only [am_u_at, am_u_j, am_u_ne]; omega)) (by first | omega | (simp (decide := true) only [am_u_at, am_u_j, am_u_ne]; omega)) ?_)
    | (refine am_br rfl (by first | omega | (simp (decide := true) only [am_u_at, am_u_j, am_u_ne]; omega)) (fun h => ?_) (fun h => ?_))
    | (refine am_rt rfl (by first | trivial | exact Or.inl rfl | exact Or.inr rfl) ?_))
  · exact ⟨rfl, Or.inl ⟨rfl, by omega⟩⟩
  · exact ⟨rfl, Or.inr ⟨rfl, by omega⟩⟩
  · exact ⟨rfl, Or.inl ⟨rfl, by omega⟩⟩
theorem c_capped (d : Nat) (a b : Int) (I : am_I) (ha : 0 ≤ a ∧ a ≤ 1000000000000000000) (hb : 0 ≤ b ∧ b ≤ 1000000000000000000) : am_C (d + 1) Y_es_cappedSum [.inr (.inl a), .inr (.inl b)] I (fun r I' => I' = I ∧ r = some (.inr (.inl (min 1000000000000000000 (a + b))))) := by
  refine am_enter ok_es_cappedSum rfl ?_
  repeat' (first
    | (refine am_gp 80 [] rfl (by first | trivial | exact Or.inl rfl | exact Or.inr rfl | (simp (decide := true) only [am_p, am_u_at, am_u_j, am_u_ne]; omega) | (simp (decide := true) only [am_p, and_true, true_and, true_or, or_true, am_u_at, am_u_j, am_u_ne]; omega) | (simp (decide := true) [am_p, am_u_at, am_u_j, am_u_ne]; omega)) ?_)
    | (show am_V _ _ _ _ _ _ _; simp only [Int.reduceToNat])
    | (refine am_bt rfl (by first | omega | (simp (decide := true) only [am_u_at, am_u_j, am_u_ne]; omega)) (by first | omega | (simp (decide := true) only [am_u_at, am_u_j, am_u_ne]; omega)) ?_)
    | (refine am_bf rfl (by first | omega | (simp (decide := true) only [am_u_at, am_u_j, am_u_ne]; omega)) (by first | omega | (simp (decide := true) only [am_u_at, am_u_j, am_u_ne]; omega)) ?_)
    | (refine am_br rfl (by first | omega | (simp (decide := true) only [am_u_at, am_u_j, am_u_ne]; omega)) (fun h => ?_) (fun h => ?_))
    | (refine am_minl rfl mk_es_234 rfl (by first | omega | (simp (decide := true) only [am_u_at, am_u_j, am_u_ne]; omega)) ?_)
    | (refine am_rt rfl (by first | trivial | exact Or.inl rfl | exact Or.inr rfl) ?_))
  exact ⟨rfl, rfl⟩
def es_bit (b p : Int) : Int := am_and (am_shr b (p % 12)) 1
theorem es_bit_01 (b p : Int) : es_bit b p = 0 ∨ es_bit b p = 1 := am_and_1 _
theorem c_hasClass (d : Nat) (b p : Int) (I : am_I) (hp : 0 ≤ p ∧ p < 2147483648) : am_C d Y_es_hasClass [.inl b, .inl p] I (fun r I' => I' = I ∧ ((r = some (.inl 1) ∧ es_bit b p = 1) ∨ (r = some (.inl 0) ∧ es_bit b p = 0))) := by
  refine am_enter ok_es_hasClass rfl ?_
  have hb := es_bit_01 b p
  unfold es_bit at hb ⊢
  repeat' (first
    | (refine am_gp 80 [] rfl (by first | trivial | exact Or.inl rfl | exact Or.inr rfl | (simp (decide := true) only [am_p, am_u_at, am_u_j, am_u_ne]; omega) | (simp (decide := true) only [am_p, and_true, true_and, true_or, or_true, am_u_at, am_u_j, am_u_ne]; omega) | (simp (decide := true) [am_p, am_u_at, am_u_j, am_u_ne]; omega)) ?_)
    | (show am_V _ _ _ _ _ _ _; simp only [Int.reduceToNat])
    | (refine am_bt rfl (by first | omega | (simp (decide := true) only [am_u_at, am_u_j, am_u_ne]; omega)) (by first | omega | (simp (decide := true) only [am_u_at, am_u_j, am_u_ne]; omega)) ?_)
    | (refine am_bf rfl (by first | omega | (simp (decide := true) only [am_u_at, am_u_j, am_u_ne]; omega)) (by first | omega | (simp (decide := true) only [am_u_at, am_u_j, am_u_ne]; omega)) ?_)
    | (refine am_br rfl (by first | omega | (simp (decide := true) only [am_u_at, am_u_j, am_u_ne]; omega)) (fun h => ?_) (fun h => ?_))
    | (refine am_rt rfl (by first | trivial | exact Or.inl rfl | exact Or.inr rfl) ?_))
  · exact ⟨rfl, Or.inr ⟨rfl, by omega⟩⟩
  · exact ⟨rfl, Or.inl ⟨rfl, by omega⟩⟩
theorem c_push_row (d : Nat) (x z : Int) (I : am_I) (hn : 0 ≤ I 1 2 ∧ I 1 2 < 24) : am_C d Y_no_push [.inr (.inr 1), .inl x, .inl z] I (fun r I' => r = none ∧ I' = am_u (am_u (am_u I 2 (I 1 2).toNat x) 3 (I 1 2).toNat z) 1 2 (I 1 2 + 1)) := by
  refine am_enter ok_no_push rfl ?_
  repeat' (first
    | (refine am_gp 80 [] rfl (by first | trivial | exact Or.inl rfl | exact Or.inr rfl | (simp (decide := true) only [am_p, am_u_at, am_u_j, am_u_ne]; omega) | (simp (decide := true) only [am_p, and_true, true_and, true_or, or_true, am_u_at, am_u_j, am_u_ne]; omega) | (simp (decide := true) [am_p, am_u_at, am_u_j, am_u_ne]; omega)) ?_)
    | (show am_V _ _ _ _ _ _ _; simp only [Int.reduceToNat])
    | (refine am_bt rfl (by first | omega | (simp (decide := true) only [am_u_at, am_u_j, am_u_ne]; omega)) (by first | omega | (simp (decide := true) only [am_u_at, am_u_j, am_u_ne]; omega)) ?_)
    | (refine am_bf rfl (by first | omega | (simp (decide := true) only [am_u_at, am_u_j, am_u_ne]; omega)) (by first | omega | (simp (decide := true) only [am_u_at, am_u_j, am_u_ne]; omega)) ?_)
    | (refine am_br rfl (by first | omega | (simp (decide := true) only [am_u_at, am_u_j, am_u_ne]; omega)) (fun h => ?_) (fun h => ?_))
    | (refine am_rt rfl (by first | trivial | exact Or.inl rfl | exact Or.inr rfl) ?_))
  refine ⟨rfl, ?_⟩
  simp (decide := true) only [am_u_at, am_u_j, am_u_ne]
theorem c_push_int (d : Nat) (x z : Int) (I : am_I) (hn : 0 ≤ I 4 2 ∧ I 4 2 < 24) : am_C d Y_no_push [.inr (.inr 4), .inl x, .inl z] I (fun r I' => r = none ∧ I' = am_u (am_u (am_u I 5 (I 4 2).toNat x) 6 (I 4 2).toNat z) 4 2 (I 4 2 + 1)) := by
  refine am_enter ok_no_push rfl ?_
  repeat' (first
    | (refine am_gp 80 [] rfl (by first | trivial | exact Or.inl rfl | exact Or.inr rfl | (simp (decide := true) only [am_p, am_u_at, am_u_j, am_u_ne]; omega) | (simp (decide := true) only [am_p, and_true, true_and, true_or, or_true, am_u_at, am_u_j, am_u_ne]; omega) | (simp (decide := true) [am_p, am_u_at, am_u_j, am_u_ne]; omega)) ?_)
    | (show am_V _ _ _ _ _ _ _; simp only [Int.reduceToNat])
    | (refine am_bt rfl (by first | omega | (simp (decide := true) only [am_u_at, am_u_j, am_u_ne]; omega)) (by first | omega | (simp (decide := true) only [am_u_at, am_u_j, am_u_ne]; omega)) ?_)
    | (refine am_bf rfl (by first | omega | (simp (decide := true) only [am_u_at, am_u_j, am_u_ne]; omega)) (by first | omega | (simp (decide := true) only [am_u_at, am_u_j, am_u_ne]; omega)) ?_)
    | (refine am_br rfl (by first | omega | (simp (decide := true) only [am_u_at, am_u_j, am_u_ne]; omega)) (fun h => ?_) (fun h => ?_))
    | (refine am_rt rfl (by first | trivial | exact Or.inl rfl | exact Or.inr rfl) ?_))
  refine ⟨rfl, ?_⟩
  simp (decide := true) only [am_u_at, am_u_j, am_u_ne]
theorem c_ju_forget (d : Nat) (I : am_I) : am_C d Y_ju_forget [.inr (.inr 23)] I (fun r J => r = none ∧ J = am_u I 23 9 0) := by
  refine am_enter ok_ju_forget rfl ?_
  repeat' (first
    | (refine am_gp 80 [] rfl (by first | trivial | exact Or.inl rfl | exact Or.inr rfl | (simp (decide := true) only [am_p, am_u_at, am_u_j, am_u_ne]; omega) | (simp (decide := true) only [am_p, and_true, true_and, true_or, or_true, am_u_at, am_u_j, am_u_ne]; omega) | (simp (decide := true) [am_p, am_u_at, am_u_j, am_u_ne]; omega)) ?_)
    | (show am_V _ _ _ _ _ _ _; simp only [Int.reduceToNat])
    | (refine am_bt rfl (by first | omega | (simp (decide := true) only [am_u_at, am_u_j, am_u_ne]; omega)) (by first | omega | (simp (decide := true) only [am_u_at, am_u_j, am_u_ne]; omega)) ?_)
    | (refine am_bf rfl (by first | omega | (simp (decide := true) only [am_u_at, am_u_j, am_u_ne]; omega)) (by first | omega | (simp (decide := true) only [am_u_at, am_u_j, am_u_ne]; omega)) ?_)
    | (refine am_br rfl (by first | omega | (simp (decide := true) only [am_u_at, am_u_j, am_u_ne]; omega)) (fun h => ?_) (fun h => ?_))
    | (refine am_rt rfl (by first | trivial | exact Or.inl rfl | exact Or.inr rfl) ?_))
  exact ⟨rfl, rfl⟩
theorem c_ct_forget (d : Nat) (I : am_I) : am_C d Y_mt_forget [.inr (.inr 9)] I (fun r J => r = none ∧ J = am_u I 9 2 0) := by
  refine am_enter ok_mt_forget rfl ?_
  repeat' (first
    | (refine am_gp 80 [] rfl (by first | trivial | exact Or.inl rfl | exact Or.inr rfl | (simp (decide := true) only [am_p, am_u_at, am_u_j, am_u_ne]; omega) | (simp (decide := true) only [am_p, and_true, true_and, true_or, or_true, am_u_at, am_u_j, am_u_ne]; omega) | (simp (decide := true) [am_p, am_u_at, am_u_j, am_u_ne]; omega)) ?_)
    | (show am_V _ _ _ _ _ _ _; simp only [Int.reduceToNat])
    | (refine am_bt rfl (by first | omega | (simp (decide := true) only [am_u_at, am_u_j, am_u_ne]; omega)) (by first | omega | (simp (decide := true) only [am_u_at, am_u_j, am_u_ne]; omega)) ?_)
    | (refine am_bf rfl (by first | omega | (simp (decide := true) only [am_u_at, am_u_j, am_u_ne]; omega)) (by first | omega | (simp (decide := true) only [am_u_at, am_u_j, am_u_ne]; omega)) ?_)
    | (refine am_br rfl (by first | omega | (simp (decide := true) only [am_u_at, am_u_j, am_u_ne]; omega)) (fun h => ?_) (fun h => ?_))
    | (refine am_rt rfl (by first | trivial | exact Or.inl rfl | exact Or.inr rfl) ?_))
  exact ⟨rfl, rfl⟩
theorem c_wt_forget (d : Nat) (I : am_I) : am_C d Y_mt_forget [.inr (.inr 11)] I (fun r J => r = none ∧ J = am_u I 11 2 0) := by
  refine am_enter ok_mt_forget rfl ?_
  repeat' (first
    | (refine am_gp 80 [] rfl (by first | trivial | exact Or.inl rfl | exact Or.inr rfl | (simp (decide := true) only [am_p, am_u_at, am_u_j, am_u_ne]; omega) | (simp (decide := true) only [am_p, and_true, true_and, true_or, or_true, am_u_at, am_u_j, am_u_ne]; omega) | (simp (decide := true) [am_p, am_u_at, am_u_j, am_u_ne]; omega)) ?_)
    | (show am_V _ _ _ _ _ _ _; simp only [Int.reduceToNat])
    | (refine am_bt rfl (by first | omega | (simp (decide := true) only [am_u_at, am_u_j, am_u_ne]; omega)) (by first | omega | (simp (decide := true) only [am_u_at, am_u_j, am_u_ne]; omega)) ?_)
    | (refine am_bf rfl (by first | omega | (simp (decide := true) only [am_u_at, am_u_j, am_u_ne]; omega)) (by first | omega | (simp (decide := true) only [am_u_at, am_u_j, am_u_ne]; omega)) ?_)
    | (refine am_br rfl (by first | omega | (simp (decide := true) only [am_u_at, am_u_j, am_u_ne]; omega)) (fun h => ?_) (fun h => ?_))
    | (refine am_rt rfl (by first | trivial | exact Or.inl rfl | exact Or.inr rfl) ?_))
  exact ⟨rfl, rfl⟩
theorem c_mo_in (d : Nat) (v a b : Int) (I : am_I) (hv : -9223372036854775808 ≤ v ∧ v < 9223372036854775808) (ha : -9223372036854775808 ≤ a ∧ a < 9223372036854775808) (hb : -9223372036854775808 ≤ b ∧ b < 9223372036854775808) : am_C d Y_mo_in [.inr (.inl v), .inr (.inl a), .inr (.inl b)] I (fun r I' => I' = I ∧ ((r = some (.inl 1) ∧ a ≤ v ∧ v ≤ b) ∨ (r = some (.inl 0) ∧ (v < a ∨ b < v)))) := by
  refine am_enter ok_mo_in rfl ?_
  repeat' (first
    | (refine am_gp 80 [] rfl (by first | trivial | exact Or.inl rfl | exact Or.inr rfl | (simp (decide := true) only [am_p, am_u_at, am_u_j, am_u_ne]; omega) | (simp (decide := true) only [am_p, and_true, true_and, true_or, or_true, am_u_at, am_u_j, am_u_ne]; omega) | (simp (decide := true) [am_p, am_u_at, am_u_j, am_u_ne]; omega)) ?_)
    | (show am_V _ _ _ _ _ _ _; simp only [Int.reduceToNat])
    | (refine am_bt rfl (by first | omega | (simp (decide := true) only [am_u_at, am_u_j, am_u_ne]; omega)) (by first | omega | (simp (decide := true) only [am_u_at, am_u_j, am_u_ne]; omega)) ?_)
    | (refine am_bf rfl (by first | omega | (simp (decide := true) only [am_u_at, am_u_j, am_u_ne]; omega)) (by first | omega | (simp (decide := true) only [am_u_at, am_u_j, am_u_ne]; omega)) ?_)
    | (refine am_br rfl (by first | omega | (simp (decide := true) only [am_u_at, am_u_j, am_u_ne]; omega)) (fun h => ?_) (fun h => ?_))
    | (refine am_rt rfl (by first | trivial | exact Or.inl rfl | exact Or.inr rfl) ?_))
  · exact ⟨rfl, Or.inr ⟨rfl, by omega⟩⟩
  · exact ⟨rfl, Or.inr ⟨rfl, by omega⟩⟩
  · exact ⟨rfl, Or.inl ⟨rfl, by omega⟩⟩
theorem c_mo_plus (d : Nat) (a b : Int) (I : am_I) (ha : 0 ≤ a ∧ a ≤ 1000000000000000000) (hb : 0 ≤ b ∧ b ≤ 1000000000000000000) : am_C d Y_mo_plus [.inr (.inl a), .inr (.inl b)] I (fun r I' => I' = I ∧ r = some (.inr (.inl (min 1000000000000000000 (a + b))))) := by
  refine am_enter ok_mo_plus rfl ?_
  repeat' (first
    | (refine am_gp 80 [] rfl (by first | trivial | exact Or.inl rfl | exact Or.inr rfl | (simp (decide := true) only [am_p, am_u_at, am_u_j, am_u_ne]; omega) | (simp (decide := true) only [am_p, and_true, true_and, true_or, or_true, am_u_at, am_u_j, am_u_ne]; omega) | (simp (decide := true) [am_p, am_u_at, am_u_j, am_u_ne]; omega)) ?_)
    | (show am_V _ _ _ _ _ _ _; simp only [Int.reduceToNat])
    | (refine am_bt rfl (by first | omega | (simp (decide := true) only [am_u_at, am_u_j, am_u_ne]; omega)) (by first | omega | (simp (decide := true) only [am_u_at, am_u_j, am_u_ne]; omega)) ?_)
    | (refine am_bf rfl (by first | omega | (simp (decide := true) only [am_u_at, am_u_j, am_u_ne]; omega)) (by first | omega | (simp (decide := true) only [am_u_at, am_u_j, am_u_ne]; omega)) ?_)
    | (refine am_br rfl (by first | omega | (simp (decide := true) only [am_u_at, am_u_j, am_u_ne]; omega)) (fun h => ?_) (fun h => ?_))
    | (refine am_rt rfl (by first | trivial | exact Or.inl rfl | exact Or.inr rfl) ?_))
  · refine ⟨rfl, ?_⟩; congr 3; omega
  · refine ⟨rfl, ?_⟩; congr 3; omega
theorem c_mo_hasClass (d : Nat) (b p : Int) (I : am_I) (hp : 0 ≤ p ∧ p < 2147483648) : am_C d Y_mo_hasClass [.inl b, .inl p] I (fun r I' => I' = I ∧ ((r = some (.inl 1) ∧ es_bit b p = 1) ∨ (r = some (.inl 0) ∧ es_bit b p = 0))) := by
  refine am_enter ok_mo_hasClass rfl ?_
  have hb := es_bit_01 b p
  unfold es_bit at hb ⊢
  repeat' (first
    | (refine am_gp 80 [] rfl (by first | trivial | exact Or.inl rfl | exact Or.inr rfl | (simp (decide := true) only [am_p, am_u_at, am_u_j, am_u_ne]; omega) | (simp (decide := true) only [am_p, and_true, true_and, true_or, or_true, am_u_at, am_u_j, am_u_ne]; omega) | (simp (decide := true) [am_p, am_u_at, am_u_j, am_u_ne]; omega)) ?_)
    | (show am_V _ _ _ _ _ _ _; simp only [Int.reduceToNat])
    | (refine am_bt rfl (by first | omega | (simp (decide := true) only [am_u_at, am_u_j, am_u_ne]; omega)) (by first | omega | (simp (decide := true) only [am_u_at, am_u_j, am_u_ne]; omega)) ?_)
    | (refine am_bf rfl (by first | omega | (simp (decide := true) only [am_u_at, am_u_j, am_u_ne]; omega)) (by first | omega | (simp (decide := true) only [am_u_at, am_u_j, am_u_ne]; omega)) ?_)
    | (refine am_br rfl (by first | omega | (simp (decide := true) only [am_u_at, am_u_j, am_u_ne]; omega)) (fun h => ?_) (fun h => ?_))
    | (refine am_rt rfl (by first | trivial | exact Or.inl rfl | exact Or.inr rfl) ?_))
  · exact ⟨rfl, Or.inr ⟨rfl, by omega⟩⟩
  · exact ⟨rfl, Or.inl ⟨rfl, by omega⟩⟩
theorem c_cellAt (d : Nat) (i p s : Int) (I : am_I) : am_C d Y_mo_cellAt [.inl i, .inl p, .inl s] I (fun r I' => I' = I ∧ r = some (.inl ((37 * i + p) * 18 + s))) := by
  refine am_enter ok_mo_cellAt rfl ?_
  repeat' (first
    | (refine am_gp 80 [] rfl (by first | trivial | exact Or.inl rfl | exact Or.inr rfl | (simp (decide := true) only [am_p, am_u_at, am_u_j, am_u_ne]; omega) | (simp (decide := true) only [am_p, and_true, true_and, true_or, or_true, am_u_at, am_u_j, am_u_ne]; omega) | (simp (decide := true) [am_p, am_u_at, am_u_j, am_u_ne]; omega)) ?_)
    | (show am_V _ _ _ _ _ _ _; simp only [Int.reduceToNat])
    | (refine am_bt rfl (by first | omega | (simp (decide := true) only [am_u_at, am_u_j, am_u_ne]; omega)) (by first | omega | (simp (decide := true) only [am_u_at, am_u_j, am_u_ne]; omega)) ?_)
    | (refine am_bf rfl (by first | omega | (simp (decide := true) only [am_u_at, am_u_j, am_u_ne]; omega)) (by first | omega | (simp (decide := true) only [am_u_at, am_u_j, am_u_ne]; omega)) ?_)
    | (refine am_br rfl (by first | omega | (simp (decide := true) only [am_u_at, am_u_j, am_u_ne]; omega)) (fun h => ?_) (fun h => ?_))
    | (refine am_rt rfl (by first | trivial | exact Or.inl rfl | exact Or.inr rfl) ?_))
  exact ⟨rfl, rfl⟩
theorem c_costAt (d : Nat) (i j c t : Int) (I : am_I) : am_C d Y_mo_costAt [.inl i, .inl j, .inl c, .inl t] I (fun r I' => I' = I ∧ r = some (.inl (((25 * i + j) * 25 + c + 12) * 2 + t))) := by
  refine am_enter ok_mo_costAt rfl ?_
  repeat' (first
    | (refine am_gp 80 [] rfl (by first | trivial | exact Or.inl rfl | exact Or.inr rfl | (simp (decide := true) only [am_p, am_u_at, am_u_j, am_u_ne]; omega) | (simp (decide := true) only [am_p, and_true, true_and, true_or, or_true, am_u_at, am_u_j, am_u_ne]; omega) | (simp (decide := true) [am_p, am_u_at, am_u_j, am_u_ne]; omega)) ?_)
    | (show am_V _ _ _ _ _ _ _; simp only [Int.reduceToNat])
    | (refine am_bt rfl (by first | omega | (simp (decide := true) only [am_u_at, am_u_j, am_u_ne]; omega)) (by first | omega | (simp (decide := true) only [am_u_at, am_u_j, am_u_ne]; omega)) ?_)
    | (refine am_bf rfl (by first | omega | (simp (decide := true) only [am_u_at, am_u_j, am_u_ne]; omega)) (by first | omega | (simp (decide := true) only [am_u_at, am_u_j, am_u_ne]; omega)) ?_)
    | (refine am_br rfl (by first | omega | (simp (decide := true) only [am_u_at, am_u_j, am_u_ne]; omega)) (fun h => ?_) (fun h => ?_))
    | (refine am_rt rfl (by first | trivial | exact Or.inl rfl | exact Or.inr rfl) ?_))
  exact ⟨rfl, rfl⟩
theorem c_lay (d : Nat) (i p l : Int) (I : am_I) (hi : 0 ≤ i ∧ i < 24) : am_C d Y_mo_lay [.inr (.inr 44), .inl i, .inl p, .inl l] I (fun r I' => r = none ∧ I' = am_u (am_u I 45 i.toNat p) 46 i.toNat l) := by
  refine am_enter ok_mo_lay rfl ?_
  repeat' (first
    | (refine am_gp 80 [] rfl (by first | trivial | exact Or.inl rfl | exact Or.inr rfl | (simp (decide := true) only [am_p, am_u_at, am_u_j, am_u_ne]; omega) | (simp (decide := true) only [am_p, and_true, true_and, true_or, or_true, am_u_at, am_u_j, am_u_ne]; omega) | (simp (decide := true) [am_p, am_u_at, am_u_j, am_u_ne]; omega)) ?_)
    | (show am_V _ _ _ _ _ _ _; simp only [Int.reduceToNat])
    | (refine am_bt rfl (by first | omega | (simp (decide := true) only [am_u_at, am_u_j, am_u_ne]; omega)) (by first | omega | (simp (decide := true) only [am_u_at, am_u_j, am_u_ne]; omega)) ?_)
    | (refine am_bf rfl (by first | omega | (simp (decide := true) only [am_u_at, am_u_j, am_u_ne]; omega)) (by first | omega | (simp (decide := true) only [am_u_at, am_u_j, am_u_ne]; omega)) ?_)
    | (refine am_br rfl (by first | omega | (simp (decide := true) only [am_u_at, am_u_j, am_u_ne]; omega)) (fun h => ?_) (fun h => ?_))
    | (refine am_rt rfl (by first | trivial | exact Or.inl rfl | exact Or.inr rfl) ?_))
  exact ⟨rfl, rfl⟩
theorem c_laid (d : Nat) (k : Int) (I : am_I) : am_C d Y_mo_laid [.inr (.inr 44), .inl k] I (fun r I' => r = none ∧ I' = am_u (am_u I 44 0 k) 44 6 0) := by
  refine am_enter ok_mo_laid rfl ?_
  repeat' (first
    | (refine am_gp 80 [] rfl (by first | trivial | exact Or.inl rfl | exact Or.inr rfl | (simp (decide := true) only [am_p, am_u_at, am_u_j, am_u_ne]; omega) | (simp (decide := true) only [am_p, and_true, true_and, true_or, or_true, am_u_at, am_u_j, am_u_ne]; omega) | (simp (decide := true) [am_p, am_u_at, am_u_j, am_u_ne]; omega)) ?_)
    | (show am_V _ _ _ _ _ _ _; simp only [Int.reduceToNat])
    | (refine am_bt rfl (by first | omega | (simp (decide := true) only [am_u_at, am_u_j, am_u_ne]; omega)) (by first | omega | (simp (decide := true) only [am_u_at, am_u_j, am_u_ne]; omega)) ?_)
    | (refine am_bf rfl (by first | omega | (simp (decide := true) only [am_u_at, am_u_j, am_u_ne]; omega)) (by first | omega | (simp (decide := true) only [am_u_at, am_u_j, am_u_ne]; omega)) ?_)
    | (refine am_br rfl (by first | omega | (simp (decide := true) only [am_u_at, am_u_j, am_u_ne]; omega)) (fun h => ?_) (fun h => ?_))
    | (refine am_rt rfl (by first | trivial | exact Or.inl rfl | exact Or.inr rfl) ?_))
  exact ⟨rfl, rfl⟩
end
section
theorem c_es_note (d : Nat) (x z : Int) (I : am_I) (hx : (-2147483648 ≤ x ∧ x < 2147483648)) (hz : (-2147483648 ≤ z ∧ z < 2147483648)) (hn : 0 ≤ I 1 2 ∧ I 1 2 ≤ 24) :
    am_C (d + 1) Y_es_note [.inr (.inr 0), .inl x, .inl z] I (fun r I' => (¬ (0 ≤ x ∧ x ≤ 127 ∧ 1 ≤ z ∧ z ≤ 96) ∧ r = some (.inl (-2)) ∧ I' = I) ∨ (((0 ≤ x ∧ x ≤ 127 ∧ 1 ≤ z ∧ z ≤ 96) ∧ I 1 2 = 24) ∧ r = some (.inl (-4)) ∧ I' = I) ∨ (((0 ≤ x ∧ x ≤ 127 ∧ 1 ≤ z ∧ z ≤ 96) ∧ I 1 2 < 24) ∧ r = some (.inl (I 1 2 + 1)) ∧ I' = am_u (am_u (am_u (am_u I 2 (I 1 2).toNat x) 3 (I 1 2).toNat z) 1 2 (I 1 2 + 1)) 23 9 0)) := by
  refine am_enter ok_es_note rfl ?_
  repeat' (first
    | (refine am_gp 80 [] rfl (by first | trivial | exact Or.inl rfl | exact Or.inr rfl | (simp (decide := true) only [am_p, am_u_at, am_u_j, am_u_ne]; omega) | (simp (decide := true) only [am_p, and_true, true_and, true_or, or_true, am_u_at, am_u_j, am_u_ne]; omega) | (simp (decide := true) [am_p, am_u_at, am_u_j, am_u_ne]; omega)) ?_)
    | (show am_V _ _ _ _ _ _ _; simp only [Int.reduceToNat])
    | (refine am_bt rfl (by first | omega | (simp (decide := true) only [am_u_at, am_u_j, am_u_ne]; omega)) (by first | omega | (simp (decide := true) only [am_u_at, am_u_j, am_u_ne]; omega)) ?_)
    | (refine am_bf rfl (by first | omega | (simp (decide := true) only [am_u_at, am_u_j, am_u_ne]; omega)) (by first | omega | (simp (decide := true) only [am_u_at, am_u_j, am_u_ne]; omega)) ?_)
    | (refine am_br rfl (by first | omega | (simp (decide := true) only [am_u_at, am_u_j, am_u_ne]; omega)) (fun h => ?_) (fun h => ?_))
    | (refine am_cS (y' := Y_es_outside) rfl lk_es_72 ok_es_outside rfl rfl (c_outside _ _ _ _ _ (by first | omega | (simp (decide := true) only [am_u_at, am_u_j, am_u_ne]; omega)) (by first | omega | (simp (decide := true) only [am_u_at, am_u_j, am_u_ne]; omega)) (by first | omega | (simp (decide := true) only [am_u_at, am_u_j, am_u_ne]; omega))) ?_; rintro r I ⟨rfl, (⟨rfl, h⟩ | ⟨rfl, h⟩)⟩ <;> (try (exfalso; omega)))
    | (refine am_cV (y' := Y_no_push) rfl lk_es_80 ok_no_push rfl rfl rfl (c_push_row _ _ _ _ (by first | omega | (simp (decide := true) only [am_u_at, am_u_j, am_u_ne]; omega))) ?_; rintro r I ⟨rfl, rfl⟩)
    | (refine am_cV (y' := Y_ju_forget) rfl lk_es_84 ok_ju_forget rfl rfl rfl (c_ju_forget _ _) ?_; rintro r I ⟨rfl, rfl⟩)
    | (refine am_rt rfl (by first | trivial | exact Or.inl rfl | exact Or.inr rfl) ?_))
  all_goals try simp (decide := true) only [am_u_at, am_u_j, am_u_ne]
  all_goals first
    | (refine Or.inl ⟨by omega, ?_⟩; first | trivial | exact rfl | exact ⟨rfl, rfl⟩ | (refine ⟨?_, rfl⟩; congr 2; omega))
    | (refine Or.inr (Or.inl ⟨by omega, ?_⟩); first | trivial | exact rfl | exact ⟨rfl, rfl⟩ | (refine ⟨?_, rfl⟩; congr 2; omega))
    | (refine Or.inr (Or.inr (⟨by omega, ?_⟩)); first | trivial | exact rfl | exact ⟨rfl, rfl⟩ | (refine ⟨?_, rfl⟩; congr 2; omega))
theorem c_mo_note (d : Nat) (x z : Int) (I : am_I) (hx : (-2147483648 ≤ x ∧ x < 2147483648)) (hz : (-2147483648 ≤ z ∧ z < 2147483648)) (hn : 0 ≤ I 44 0 ∧ I 44 0 ≤ 24) :
    am_C (d + 1) Y_mo_note [.inr (.inr 44), .inl x, .inl z] I (fun r I' => (¬ (0 ≤ x ∧ x ≤ 127 ∧ 1 ≤ z ∧ z ≤ 96) ∧ r = some (.inl (-2)) ∧ I' = I) ∨ (((0 ≤ x ∧ x ≤ 127 ∧ 1 ≤ z ∧ z ≤ 96) ∧ I 44 0 = 24) ∧ r = some (.inl (-4)) ∧ I' = I) ∨ (((0 ≤ x ∧ x ≤ 127 ∧ 1 ≤ z ∧ z ≤ 96) ∧ I 44 0 < 24) ∧ r = some (.inl (I 44 0 + 1)) ∧ I' = am_u (am_u (am_u (am_u I 45 (I 44 0).toNat x) 46 (I 44 0).toNat z) 44 0 (I 44 0 + 1)) 44 6 0)) := by
  refine am_enter ok_mo_note rfl ?_
  repeat' (first
    | (refine am_gp 80 [] rfl (by first | trivial | exact Or.inl rfl | exact Or.inr rfl | (simp (decide := true) only [am_p, am_u_at, am_u_j, am_u_ne]; omega) | (simp (decide := true) only [am_p, and_true, true_and, true_or, or_true, am_u_at, am_u_j, am_u_ne]; omega) | (simp (decide := true) [am_p, am_u_at, am_u_j, am_u_ne]; omega)) ?_)
    | (show am_V _ _ _ _ _ _ _; simp only [Int.reduceToNat])
    | (refine am_bt rfl (by first | omega | (simp (decide := true) only [am_u_at, am_u_j, am_u_ne]; omega)) (by first | omega | (simp (decide := true) only [am_u_at, am_u_j, am_u_ne]; omega)) ?_)
    | (refine am_bf rfl (by first | omega | (simp (decide := true) only [am_u_at, am_u_j, am_u_ne]; omega)) (by first | omega | (simp (decide := true) only [am_u_at, am_u_j, am_u_ne]; omega)) ?_)
    | (refine am_br rfl (by first | omega | (simp (decide := true) only [am_u_at, am_u_j, am_u_ne]; omega)) (fun h => ?_) (fun h => ?_))
    | (refine am_cS (y' := Y_mo_in) rfl lk_mo_114 ok_mo_in rfl rfl (c_mo_in _ _ _ _ _ (by first | omega | (simp (decide := true) only [am_u_at, am_u_j, am_u_ne]; omega)) (by first | omega | (simp (decide := true) only [am_u_at, am_u_j, am_u_ne]; omega)) (by first | omega | (simp (decide := true) only [am_u_at, am_u_j, am_u_ne]; omega))) ?_; rintro r I ⟨rfl, (⟨rfl, h⟩ | ⟨rfl, h⟩)⟩ <;> (try (exfalso; omega)))
    | (refine am_rt rfl (by first | trivial | exact Or.inl rfl | exact Or.inr rfl) ?_))
  all_goals try simp (decide := true) only [am_u_at, am_u_j, am_u_ne]
  all_goals first
    | (refine Or.inl ⟨by omega, ?_⟩; first | trivial | exact rfl | exact ⟨rfl, rfl⟩ | (refine ⟨?_, rfl⟩; congr 2; omega))
    | (refine Or.inr (Or.inl ⟨by omega, ?_⟩); first | trivial | exact rfl | exact ⟨rfl, rfl⟩ | (refine ⟨?_, rfl⟩; congr 2; omega))
    | (refine Or.inr (Or.inr (⟨by omega, ?_⟩)); first | trivial | exact rfl | exact ⟨rfl, rfl⟩ | (refine ⟨?_, rfl⟩; congr 2; omega))
theorem c_es_drop (d : Nat) (I : am_I) : am_C (d + 1) Y_es_drop [.inr (.inr 0)] I (fun r I' => True ∧ r = some (.inl (I 1 2)) ∧ I' = am_u (am_u I 1 2 0) 23 9 0) := by
  refine am_enter ok_es_drop rfl ?_
  repeat' (first
    | (refine am_gp 80 [] rfl (by first | trivial | exact Or.inl rfl | exact Or.inr rfl | (simp (decide := true) only [am_p, am_u_at, am_u_j, am_u_ne]; omega) | (simp (decide := true) only [am_p, and_true, true_and, true_or, or_true, am_u_at, am_u_j, am_u_ne]; omega) | (simp (decide := true) [am_p, am_u_at, am_u_j, am_u_ne]; omega)) ?_)
    | (show am_V _ _ _ _ _ _ _; simp only [Int.reduceToNat])
    | (refine am_bt rfl (by first | omega | (simp (decide := true) only [am_u_at, am_u_j, am_u_ne]; omega)) (by first | omega | (simp (decide := true) only [am_u_at, am_u_j, am_u_ne]; omega)) ?_)
    | (refine am_bf rfl (by first | omega | (simp (decide := true) only [am_u_at, am_u_j, am_u_ne]; omega)) (by first | omega | (simp (decide := true) only [am_u_at, am_u_j, am_u_ne]; omega)) ?_)
    | (refine am_br rfl (by first | omega | (simp (decide := true) only [am_u_at, am_u_j, am_u_ne]; omega)) (fun h => ?_) (fun h => ?_))
    | (refine am_cV (y' := Y_ju_forget) rfl lk_es_84 ok_ju_forget rfl rfl rfl (c_ju_forget _ _) ?_; rintro r I ⟨rfl, rfl⟩)
    | (refine am_rt rfl (by first | trivial | exact Or.inl rfl | exact Or.inr rfl) ?_))
  exact ⟨trivial, rfl, rfl⟩
theorem c_mo_drop (d : Nat) (I : am_I) : am_C d Y_mo_drop [.inr (.inr 44)] I (fun r I' => True ∧ r = some (.inl (I 44 0)) ∧ I' = am_u (am_u I 44 0 0) 44 6 0) := by
  refine am_enter ok_mo_drop rfl ?_
  repeat' (first
    | (refine am_gp 80 [] rfl (by first | trivial | exact Or.inl rfl | exact Or.inr rfl | (simp (decide := true) only [am_p, am_u_at, am_u_j, am_u_ne]; omega) | (simp (decide := true) only [am_p, and_true, true_and, true_or, or_true, am_u_at, am_u_j, am_u_ne]; omega) | (simp (decide := true) [am_p, am_u_at, am_u_j, am_u_ne]; omega)) ?_)
    | (show am_V _ _ _ _ _ _ _; simp only [Int.reduceToNat])
    | (refine am_bt rfl (by first | omega | (simp (decide := true) only [am_u_at, am_u_j, am_u_ne]; omega)) (by first | omega | (simp (decide := true) only [am_u_at, am_u_j, am_u_ne]; omega)) ?_)
    | (refine am_bf rfl (by first | omega | (simp (decide := true) only [am_u_at, am_u_j, am_u_ne]; omega)) (by first | omega | (simp (decide := true) only [am_u_at, am_u_j, am_u_ne]; omega)) ?_)
    | (refine am_br rfl (by first | omega | (simp (decide := true) only [am_u_at, am_u_j, am_u_ne]; omega)) (fun h => ?_) (fun h => ?_))
    | (refine am_rt rfl (by first | trivial | exact Or.inl rfl | exact Or.inr rfl) ?_))
  exact ⟨trivial, rfl, rfl⟩
theorem c_es_at (d : Nat) (i w : Int) (I : am_I) (hi : (-2147483648 ≤ i ∧ i < 2147483648)) (hw : (-2147483648 ≤ w ∧ w < 2147483648)) (hn : 0 ≤ I 1 2 ∧ I 1 2 ≤ 24) : am_C (d + 1) Y_es_at [.inr (.inr 0), .inl i, .inl w] I (fun r I' => (¬ ((0 ≤ i ∧ i < I 1 2) ∧ (0 ≤ w ∧ w ≤ 1)) ∧ r = some (.inl (-2)) ∧ I' = I) ∨ (((0 ≤ i ∧ i < I 1 2) ∧ w = 0) ∧ r = some (.inl (I 2 i.toNat)) ∧ I' = I) ∨ (((0 ≤ i ∧ i < I 1 2) ∧ w = 1) ∧ r = some (.inl (I 3 i.toNat)) ∧ I' = I)) := by
  refine am_enter ok_es_at rfl ?_
  repeat' (first
    | (refine am_gp 80 [] rfl (by first | trivial | exact Or.inl rfl | exact Or.inr rfl | (simp (decide := true) only [am_p, am_u_at, am_u_j, am_u_ne]; omega) | (simp (decide := true) only [am_p, and_true, true_and, true_or, or_true, am_u_at, am_u_j, am_u_ne]; omega) | (simp (decide := true) [am_p, am_u_at, am_u_j, am_u_ne]; omega)) ?_)
    | (show am_V _ _ _ _ _ _ _; simp only [Int.reduceToNat])
    | (refine am_bt rfl (by first | omega | (simp (decide := true) only [am_u_at, am_u_j, am_u_ne]; omega)) (by first | omega | (simp (decide := true) only [am_u_at, am_u_j, am_u_ne]; omega)) ?_)
    | (refine am_bf rfl (by first | omega | (simp (decide := true) only [am_u_at, am_u_j, am_u_ne]; omega)) (by first | omega | (simp (decide := true) only [am_u_at, am_u_j, am_u_ne]; omega)) ?_)
    | (refine am_br rfl (by first | omega | (simp (decide := true) only [am_u_at, am_u_j, am_u_ne]; omega)) (fun h => ?_) (fun h => ?_))
    | (refine am_cS (y' := Y_es_outside) rfl lk_es_72 ok_es_outside rfl rfl (c_outside _ _ _ _ _ (by first | omega | (simp (decide := true) only [am_u_at, am_u_j, am_u_ne]; omega)) (by first | omega | (simp (decide := true) only [am_u_at, am_u_j, am_u_ne]; omega)) (by first | omega | (simp (decide := true) only [am_u_at, am_u_j, am_u_ne]; omega))) ?_; rintro r I ⟨rfl, (⟨rfl, h⟩ | ⟨rfl, h⟩)⟩ <;> (try (exfalso; omega)))
    | (refine am_rt rfl (by first | trivial | exact Or.inl rfl | exact Or.inr rfl) ?_))
  all_goals try simp (decide := true) only [am_u_at, am_u_j, am_u_ne]
  all_goals first
    | (refine Or.inl ⟨by omega, ?_⟩; first | trivial | exact rfl | exact ⟨rfl, rfl⟩ | (refine ⟨?_, rfl⟩; congr 2; omega))
    | (refine Or.inr (Or.inl ⟨by omega, ?_⟩); first | trivial | exact rfl | exact ⟨rfl, rfl⟩ | (refine ⟨?_, rfl⟩; congr 2; omega))
    | (refine Or.inr (Or.inr (⟨by omega, ?_⟩)); first | trivial | exact rfl | exact ⟨rfl, rfl⟩ | (refine ⟨?_, rfl⟩; congr 2; omega))
theorem c_mo_at (d : Nat) (i w : Int) (I : am_I) (hi : (-2147483648 ≤ i ∧ i < 2147483648)) (hw : (-2147483648 ≤ w ∧ w < 2147483648)) (hn : 0 ≤ I 44 0 ∧ I 44 0 ≤ 24) : am_C (d + 1) Y_mo_at [.inr (.inr 44), .inl i, .inl w] I (fun r I' => (¬ ((0 ≤ i ∧ i < I 44 0) ∧ (0 ≤ w ∧ w ≤ 1)) ∧ r = some (.inl (-2)) ∧ I' = I) ∨ (((0 ≤ i ∧ i < I 44 0) ∧ w = 0) ∧ r = some (.inl (I 45 i.toNat)) ∧ I' = I) ∨ (((0 ≤ i ∧ i < I 44 0) ∧ w = 1) ∧ r = some (.inl (I 46 i.toNat)) ∧ I' = I)) := by
  refine am_enter ok_mo_at rfl ?_
  repeat' (first
    | (refine am_gp 80 [] rfl (by first | trivial | exact Or.inl rfl | exact Or.inr rfl | (simp (decide := true) only [am_p, am_u_at, am_u_j, am_u_ne]; omega) | (simp (decide := true) only [am_p, and_true, true_and, true_or, or_true, am_u_at, am_u_j, am_u_ne]; omega) | (simp (decide := true) [am_p, am_u_at, am_u_j, am_u_ne]; omega)) ?_)
    | (show am_V _ _ _ _ _ _ _; simp only [Int.reduceToNat])
    | (refine am_bt rfl (by first | omega | (simp (decide := true) only [am_u_at, am_u_j, am_u_ne]; omega)) (by first | omega | (simp (decide := true) only [am_u_at, am_u_j, am_u_ne]; omega)) ?_)
    | (refine am_bf rfl (by first | omega | (simp (decide := true) only [am_u_at, am_u_j, am_u_ne]; omega)) (by first | omega | (simp (decide := true) only [am_u_at, am_u_j, am_u_ne]; omega)) ?_)
    | (refine am_br rfl (by first | omega | (simp (decide := true) only [am_u_at, am_u_j, am_u_ne]; omega)) (fun h => ?_) (fun h => ?_))
    | (refine am_cS (y' := Y_mo_in) rfl lk_mo_114 ok_mo_in rfl rfl (c_mo_in _ _ _ _ _ (by first | omega | (simp (decide := true) only [am_u_at, am_u_j, am_u_ne]; omega)) (by first | omega | (simp (decide := true) only [am_u_at, am_u_j, am_u_ne]; omega)) (by first | omega | (simp (decide := true) only [am_u_at, am_u_j, am_u_ne]; omega))) ?_; rintro r I ⟨rfl, (⟨rfl, h⟩ | ⟨rfl, h⟩)⟩ <;> (try (exfalso; omega)))
    | (refine am_rt rfl (by first | trivial | exact Or.inl rfl | exact Or.inr rfl) ?_))
  all_goals try simp (decide := true) only [am_u_at, am_u_j, am_u_ne]
  all_goals first
    | (refine Or.inl ⟨by omega, ?_⟩; first | trivial | exact rfl | exact ⟨rfl, rfl⟩ | (refine ⟨?_, rfl⟩; congr 2; omega))
    | (refine Or.inr (Or.inl ⟨by omega, ?_⟩); first | trivial | exact rfl | exact ⟨rfl, rfl⟩ | (refine ⟨?_, rfl⟩; congr 2; omega))
    | (refine Or.inr (Or.inr (⟨by omega, ?_⟩)); first | trivial | exact rfl | exact ⟨rfl, rfl⟩ | (refine ⟨?_, rfl⟩; congr 2; omega))
theorem c_es_range (d : Nat) (l h n : Int) (I : am_I) (hl : (-2147483648 ≤ l ∧ l < 2147483648)) (hh : (-2147483648 ≤ h ∧ h < 2147483648)) (hn : (-2147483648 ≤ n ∧ n < 2147483648)) : am_C (d + 1) Y_es_range [.inr (.inr 0), .inl l, .inl h, .inl n] I (fun r I' => (¬ ((0 ≤ l ∧ l ≤ 127) ∧ (l ≤ h ∧ h ≤ 127) ∧ h - l ≤ 36 ∧ (1 ≤ n ∧ n ≤ 16)) ∧ r = some (.inl (-2)) ∧ I' = I) ∨ (((0 ≤ l ∧ l ≤ 127) ∧ (l ≤ h ∧ h ≤ 127) ∧ h - l ≤ 36 ∧ (1 ≤ n ∧ n ≤ 16)) ∧ r = some (.inl 1) ∧ I' = am_u (am_u (am_u (am_u I 7 1 l) 7 2 h) 7 3 n) 9 2 0)) := by
  refine am_enter ok_es_range rfl ?_
  repeat' (first
    | (refine am_gp 80 [] rfl (by first | trivial | exact Or.inl rfl | exact Or.inr rfl | (simp (decide := true) only [am_p, am_u_at, am_u_j, am_u_ne]; omega) | (simp (decide := true) only [am_p, and_true, true_and, true_or, or_true, am_u_at, am_u_j, am_u_ne]; omega) | (simp (decide := true) [am_p, am_u_at, am_u_j, am_u_ne]; omega)) ?_)
    | (show am_V _ _ _ _ _ _ _; simp only [Int.reduceToNat])
    | (refine am_bt rfl (by first | omega | (simp (decide := true) only [am_u_at, am_u_j, am_u_ne]; omega)) (by first | omega | (simp (decide := true) only [am_u_at, am_u_j, am_u_ne]; omega)) ?_)
    | (refine am_bf rfl (by first | omega | (simp (decide := true) only [am_u_at, am_u_j, am_u_ne]; omega)) (by first | omega | (simp (decide := true) only [am_u_at, am_u_j, am_u_ne]; omega)) ?_)
    | (refine am_br rfl (by first | omega | (simp (decide := true) only [am_u_at, am_u_j, am_u_ne]; omega)) (fun h => ?_) (fun h => ?_))
    | (refine am_cS (y' := Y_es_outside) rfl lk_es_72 ok_es_outside rfl rfl (c_outside _ _ _ _ _ (by first | omega | (simp (decide := true) only [am_u_at, am_u_j, am_u_ne]; omega)) (by first | omega | (simp (decide := true) only [am_u_at, am_u_j, am_u_ne]; omega)) (by first | omega | (simp (decide := true) only [am_u_at, am_u_j, am_u_ne]; omega))) ?_; rintro r I ⟨rfl, (⟨rfl, h⟩ | ⟨rfl, h⟩)⟩ <;> (try (exfalso; omega)))
    | (refine am_cU (y' := Y_mt_forget) rfl lk_es_103_ct ok_mt_forget rfl rfl rfl (c_ct_forget _ _) ?_; rintro r I ⟨rfl, rfl⟩)
    | (refine am_rt rfl (by first | trivial | exact Or.inl rfl | exact Or.inr rfl) ?_))
  all_goals try simp (decide := true) only [am_u_at, am_u_j, am_u_ne]
  all_goals first
    | (refine Or.inl ⟨by omega, ?_⟩; first | trivial | exact rfl | exact ⟨rfl, rfl⟩ | (refine ⟨?_, rfl⟩; congr 2; omega))
    | (refine Or.inr (⟨by omega, ?_⟩); first | trivial | exact rfl | exact ⟨rfl, rfl⟩ | (refine ⟨?_, rfl⟩; congr 2; omega))
theorem c_mo_range (d : Nat) (l h n : Int) (I : am_I) (hl : (-2147483648 ≤ l ∧ l < 2147483648)) (hh : (-2147483648 ≤ h ∧ h < 2147483648)) (hn : (-2147483648 ≤ n ∧ n < 2147483648)) : am_C (d + 1) Y_mo_range [.inr (.inr 44), .inl l, .inl h, .inl n] I (fun r I' => (¬ ((0 ≤ l ∧ l ≤ 127) ∧ (l ≤ h ∧ h ≤ 127) ∧ h - l ≤ 36 ∧ (1 ≤ n ∧ n ≤ 16)) ∧ r = some (.inl (-2)) ∧ I' = I) ∨ (((0 ≤ l ∧ l ≤ 127) ∧ (l ≤ h ∧ h ≤ 127) ∧ h - l ≤ 36 ∧ (1 ≤ n ∧ n ≤ 16)) ∧ r = some (.inl 1) ∧ I' = am_u (am_u (am_u I 44 7 l) 44 8 h) 44 9 n)) := by
  refine am_enter ok_mo_range rfl ?_
  repeat' (first
    | (refine am_gp 80 [] rfl (by first | trivial | exact Or.inl rfl | exact Or.inr rfl | (simp (decide := true) only [am_p, am_u_at, am_u_j, am_u_ne]; omega) | (simp (decide := true) only [am_p, and_true, true_and, true_or, or_true, am_u_at, am_u_j, am_u_ne]; omega) | (simp (decide := true) [am_p, am_u_at, am_u_j, am_u_ne]; omega)) ?_)
    | (show am_V _ _ _ _ _ _ _; simp only [Int.reduceToNat])
    | (refine am_bt rfl (by first | omega | (simp (decide := true) only [am_u_at, am_u_j, am_u_ne]; omega)) (by first | omega | (simp (decide := true) only [am_u_at, am_u_j, am_u_ne]; omega)) ?_)
    | (refine am_bf rfl (by first | omega | (simp (decide := true) only [am_u_at, am_u_j, am_u_ne]; omega)) (by first | omega | (simp (decide := true) only [am_u_at, am_u_j, am_u_ne]; omega)) ?_)
    | (refine am_br rfl (by first | omega | (simp (decide := true) only [am_u_at, am_u_j, am_u_ne]; omega)) (fun h => ?_) (fun h => ?_))
    | (refine am_cS (y' := Y_mo_in) rfl lk_mo_114 ok_mo_in rfl rfl (c_mo_in _ _ _ _ _ (by first | omega | (simp (decide := true) only [am_u_at, am_u_j, am_u_ne]; omega)) (by first | omega | (simp (decide := true) only [am_u_at, am_u_j, am_u_ne]; omega)) (by first | omega | (simp (decide := true) only [am_u_at, am_u_j, am_u_ne]; omega))) ?_; rintro r I ⟨rfl, (⟨rfl, h⟩ | ⟨rfl, h⟩)⟩ <;> (try (exfalso; omega)))
    | (refine am_rt rfl (by first | trivial | exact Or.inl rfl | exact Or.inr rfl) ?_))
  all_goals try simp (decide := true) only [am_u_at, am_u_j, am_u_ne]
  all_goals first
    | (refine Or.inl ⟨by omega, ?_⟩; first | trivial | exact rfl | exact ⟨rfl, rfl⟩ | (refine ⟨?_, rfl⟩; congr 2; omega))
    | (refine Or.inr (⟨by omega, ?_⟩); first | trivial | exact rfl | exact ⟨rfl, rfl⟩ | (refine ⟨?_, rfl⟩; congr 2; omega))
theorem c_es_bits (d : Nat) (w v : Int) (I : am_I) (hw : (-2147483648 ≤ w ∧ w < 2147483648)) (hv : (-2147483648 ≤ v ∧ v < 2147483648)) : am_C (d + 1) Y_es_bits [.inr (.inr 0), .inl w, .inl v] I (fun r I' => (¬ ((0 ≤ w ∧ w ≤ 2 ∧ 0 ≤ v ∧ v ≤ 4095) ∨ (w = 3 ∧ 0 ≤ v ∧ v ≤ 33554431)) ∧ r = some (.inl (-2)) ∧ I' = I) ∨ (((0 ≤ w ∧ w ≤ 2 ∧ 0 ≤ v ∧ v ≤ 4095) ∨ (w = 3 ∧ 0 ≤ v ∧ v ≤ 33554431)) ∧ r = some (.inl (I 8 w.toNat)) ∧ I' = am_u (am_u I 8 w.toNat v) 9 2 0)) := by
  refine am_enter ok_es_bits rfl ?_
  repeat' (first
    | (refine am_gp 80 [] rfl (by first | trivial | exact Or.inl rfl | exact Or.inr rfl | (simp (decide := true) only [am_p, am_u_at, am_u_j, am_u_ne]; omega) | (simp (decide := true) only [am_p, and_true, true_and, true_or, or_true, am_u_at, am_u_j, am_u_ne]; omega) | (simp (decide := true) [am_p, am_u_at, am_u_j, am_u_ne]; omega)) ?_)
    | (show am_V _ _ _ _ _ _ _; simp only [Int.reduceToNat])
    | (refine am_bt rfl (by first | omega | (simp (decide := true) only [am_u_at, am_u_j, am_u_ne]; omega)) (by first | omega | (simp (decide := true) only [am_u_at, am_u_j, am_u_ne]; omega)) ?_)
    | (refine am_bf rfl (by first | omega | (simp (decide := true) only [am_u_at, am_u_j, am_u_ne]; omega)) (by first | omega | (simp (decide := true) only [am_u_at, am_u_j, am_u_ne]; omega)) ?_)
    | (refine am_br rfl (by first | omega | (simp (decide := true) only [am_u_at, am_u_j, am_u_ne]; omega)) (fun h => ?_) (fun h => ?_))
    | (refine am_cS (y' := Y_es_outside) rfl lk_es_72 ok_es_outside rfl rfl (c_outside _ _ _ _ _ (by first | omega | (simp (decide := true) only [am_u_at, am_u_j, am_u_ne]; omega)) (by first | omega | (simp (decide := true) only [am_u_at, am_u_j, am_u_ne]; omega)) (by first | omega | (simp (decide := true) only [am_u_at, am_u_j, am_u_ne]; omega))) ?_; rintro r I ⟨rfl, (⟨rfl, h⟩ | ⟨rfl, h⟩)⟩ <;> (try (exfalso; omega)))
    | (refine am_cU (y' := Y_mt_forget) rfl lk_es_103_ct ok_mt_forget rfl rfl rfl (c_ct_forget _ _) ?_; rintro r I ⟨rfl, rfl⟩)
    | (refine am_rt rfl (by first | trivial | exact Or.inl rfl | exact Or.inr rfl) ?_))
  all_goals try simp (decide := true) only [am_u_at, am_u_j, am_u_ne]
  all_goals first
    | (refine Or.inl ⟨by omega, ?_⟩; first | trivial | exact rfl | exact ⟨rfl, rfl⟩ | (refine ⟨?_, rfl⟩; congr 2; omega))
    | (refine Or.inr (⟨by omega, ?_⟩); first | trivial | exact rfl | exact ⟨rfl, rfl⟩ | (refine ⟨?_, rfl⟩; congr 2; omega))
theorem c_mo_bits (d : Nat) (w v : Int) (I : am_I) (hw : (-2147483648 ≤ w ∧ w < 2147483648)) (hv : (-2147483648 ≤ v ∧ v < 2147483648)) : am_C (d + 1) Y_mo_bits [.inr (.inr 44), .inl w, .inl v] I (fun r I' => (¬ ((0 ≤ w ∧ w ≤ 2 ∧ 0 ≤ v ∧ v ≤ 4095) ∨ (w = 3 ∧ 0 ≤ v ∧ v ≤ 33554431)) ∧ r = some (.inl (-2)) ∧ I' = I) ∨ ((w = 0 ∧ 0 ≤ v ∧ v ≤ 4095) ∧ r = some (.inl (I 44 10)) ∧ I' = am_u I 44 10 v) ∨ ((w = 1 ∧ 0 ≤ v ∧ v ≤ 4095) ∧ r = some (.inl (I 44 11)) ∧ I' = am_u I 44 11 v) ∨ ((w = 2 ∧ 0 ≤ v ∧ v ≤ 4095) ∧ r = some (.inl (I 44 12)) ∧ I' = am_u I 44 12 v) ∨ ((w = 3 ∧ 0 ≤ v ∧ v ≤ 33554431) ∧ r = some (.inl (I 44 13)) ∧ I' = am_u I 44 13 v)) := by
  refine am_enter ok_mo_bits rfl ?_
  repeat' (first
    | (refine am_gp 80 [] rfl (by first | trivial | exact Or.inl rfl | exact Or.inr rfl | (simp (decide := true) only [am_p, am_u_at, am_u_j, am_u_ne]; omega) | (simp (decide := true) only [am_p, and_true, true_and, true_or, or_true, am_u_at, am_u_j, am_u_ne]; omega) | (simp (decide := true) [am_p, am_u_at, am_u_j, am_u_ne]; omega)) ?_)
    | (show am_V _ _ _ _ _ _ _; simp only [Int.reduceToNat])
    | (refine am_bt rfl (by first | omega | (simp (decide := true) only [am_u_at, am_u_j, am_u_ne]; omega)) (by first | omega | (simp (decide := true) only [am_u_at, am_u_j, am_u_ne]; omega)) ?_)
    | (refine am_bf rfl (by first | omega | (simp (decide := true) only [am_u_at, am_u_j, am_u_ne]; omega)) (by first | omega | (simp (decide := true) only [am_u_at, am_u_j, am_u_ne]; omega)) ?_)
    | (refine am_br rfl (by first | omega | (simp (decide := true) only [am_u_at, am_u_j, am_u_ne]; omega)) (fun h => ?_) (fun h => ?_))
    | (refine am_cS (y' := Y_mo_in) rfl lk_mo_114 ok_mo_in rfl rfl (c_mo_in _ _ _ _ _ (by first | omega | (simp (decide := true) only [am_u_at, am_u_j, am_u_ne]; omega)) (by first | omega | (simp (decide := true) only [am_u_at, am_u_j, am_u_ne]; omega)) (by first | omega | (simp (decide := true) only [am_u_at, am_u_j, am_u_ne]; omega))) ?_; rintro r I ⟨rfl, (⟨rfl, h⟩ | ⟨rfl, h⟩)⟩ <;> (try (exfalso; omega)))
    | (refine am_rt rfl (by first | trivial | exact Or.inl rfl | exact Or.inr rfl) ?_))
  all_goals try simp (decide := true) only [am_u_at, am_u_j, am_u_ne]
  all_goals first
    | (refine Or.inl ⟨by omega, ?_⟩; first | trivial | exact rfl | exact ⟨rfl, rfl⟩ | (refine ⟨?_, rfl⟩; congr 2; omega))
    | (refine Or.inr (Or.inl ⟨by omega, ?_⟩); first | trivial | exact rfl | exact ⟨rfl, rfl⟩ | (refine ⟨?_, rfl⟩; congr 2; omega))
    | (refine Or.inr (Or.inr (Or.inl ⟨by omega, ?_⟩)); first | trivial | exact rfl | exact ⟨rfl, rfl⟩ | (refine ⟨?_, rfl⟩; congr 2; omega))
    | (refine Or.inr (Or.inr (Or.inr (Or.inl ⟨by omega, ?_⟩))); first | trivial | exact rfl | exact ⟨rfl, rfl⟩ | (refine ⟨?_, rfl⟩; congr 2; omega))
    | (refine Or.inr (Or.inr (Or.inr (Or.inr (⟨by omega, ?_⟩)))); first | trivial | exact rfl | exact ⟨rfl, rfl⟩ | (refine ⟨?_, rfl⟩; congr 2; omega))
theorem c_es_bound (d : Nat) (w v : Int) (I : am_I) (hw : (-2147483648 ≤ w ∧ w < 2147483648)) (hv : (-2147483648 ≤ v ∧ v < 2147483648)) : am_C (d + 1) Y_es_bound [.inr (.inr 0), .inl w, .inl v] I (fun r I' => (¬ ((w = 0 ∧ 1 ≤ v ∧ v ≤ 13) ∨ (w = 1 ∧ 0 ≤ v ∧ v ≤ 15)) ∧ r = some (.inl (-2)) ∧ I' = I) ∨ ((w = 0 ∧ 1 ≤ v ∧ v ≤ 13) ∧ r = some (.inl (I 7 4)) ∧ I' = am_u (am_u I 7 4 v) 9 2 0) ∨ ((w = 1 ∧ 0 ≤ v ∧ v ≤ 15) ∧ r = some (.inl (I 7 5)) ∧ I' = am_u (am_u I 7 5 v) 9 2 0)) := by
  refine am_enter ok_es_bound rfl ?_
  repeat' (first
    | (refine am_gp 80 [] rfl (by first | trivial | exact Or.inl rfl | exact Or.inr rfl | (simp (decide := true) only [am_p, am_u_at, am_u_j, am_u_ne]; omega) | (simp (decide := true) only [am_p, and_true, true_and, true_or, or_true, am_u_at, am_u_j, am_u_ne]; omega) | (simp (decide := true) [am_p, am_u_at, am_u_j, am_u_ne]; omega)) ?_)
    | (show am_V _ _ _ _ _ _ _; simp only [Int.reduceToNat])
    | (refine am_bt rfl (by first | omega | (simp (decide := true) only [am_u_at, am_u_j, am_u_ne]; omega)) (by first | omega | (simp (decide := true) only [am_u_at, am_u_j, am_u_ne]; omega)) ?_)
    | (refine am_bf rfl (by first | omega | (simp (decide := true) only [am_u_at, am_u_j, am_u_ne]; omega)) (by first | omega | (simp (decide := true) only [am_u_at, am_u_j, am_u_ne]; omega)) ?_)
    | (refine am_br rfl (by first | omega | (simp (decide := true) only [am_u_at, am_u_j, am_u_ne]; omega)) (fun h => ?_) (fun h => ?_))
    | (refine am_cS (y' := Y_es_outside) rfl lk_es_72 ok_es_outside rfl rfl (c_outside _ _ _ _ _ (by first | omega | (simp (decide := true) only [am_u_at, am_u_j, am_u_ne]; omega)) (by first | omega | (simp (decide := true) only [am_u_at, am_u_j, am_u_ne]; omega)) (by first | omega | (simp (decide := true) only [am_u_at, am_u_j, am_u_ne]; omega))) ?_; rintro r I ⟨rfl, (⟨rfl, h⟩ | ⟨rfl, h⟩)⟩ <;> (try (exfalso; omega)))
    | (refine am_cU (y' := Y_mt_forget) rfl lk_es_103_ct ok_mt_forget rfl rfl rfl (c_ct_forget _ _) ?_; rintro r I ⟨rfl, rfl⟩)
    | (refine am_rt rfl (by first | trivial | exact Or.inl rfl | exact Or.inr rfl) ?_))
  all_goals try simp (decide := true) only [am_u_at, am_u_j, am_u_ne]
  all_goals first
    | (refine Or.inl ⟨by omega, ?_⟩; first | trivial | exact rfl | exact ⟨rfl, rfl⟩ | (refine ⟨?_, rfl⟩; congr 2; omega))
    | (refine Or.inr (Or.inl ⟨by omega, ?_⟩); first | trivial | exact rfl | exact ⟨rfl, rfl⟩ | (refine ⟨?_, rfl⟩; congr 2; omega))
    | (refine Or.inr (Or.inr (⟨by omega, ?_⟩)); first | trivial | exact rfl | exact ⟨rfl, rfl⟩ | (refine ⟨?_, rfl⟩; congr 2; omega))
theorem c_mo_bound (d : Nat) (w v : Int) (I : am_I) (hw : (-2147483648 ≤ w ∧ w < 2147483648)) (hv : (-2147483648 ≤ v ∧ v < 2147483648)) : am_C (d + 1) Y_mo_bound [.inr (.inr 44), .inl w, .inl v] I (fun r I' => (¬ ((w = 0 ∧ 1 ≤ v ∧ v ≤ 13) ∨ (w = 1 ∧ 0 ≤ v ∧ v ≤ 15)) ∧ r = some (.inl (-2)) ∧ I' = I) ∨ ((w = 0 ∧ 1 ≤ v ∧ v ≤ 13) ∧ r = some (.inl (I 44 14)) ∧ I' = am_u I 44 14 v) ∨ ((w = 1 ∧ 0 ≤ v ∧ v ≤ 15) ∧ r = some (.inl (I 44 15)) ∧ I' = am_u I 44 15 v)) := by
  refine am_enter ok_mo_bound rfl ?_
  repeat' (first
    | (refine am_gp 80 [] rfl (by first | trivial | exact Or.inl rfl | exact Or.inr rfl | (simp (decide := true) only [am_p, am_u_at, am_u_j, am_u_ne]; omega) | (simp (decide := true) only [am_p, and_true, true_and, true_or, or_true, am_u_at, am_u_j, am_u_ne]; omega) | (simp (decide := true) [am_p, am_u_at, am_u_j, am_u_ne]; omega)) ?_)
    | (show am_V _ _ _ _ _ _ _; simp only [Int.reduceToNat])
    | (refine am_bt rfl (by first | omega | (simp (decide := true) only [am_u_at, am_u_j, am_u_ne]; omega)) (by first | omega | (simp (decide := true) only [am_u_at, am_u_j, am_u_ne]; omega)) ?_)
    | (refine am_bf rfl (by first | omega | (simp (decide := true) only [am_u_at, am_u_j, am_u_ne]; omega)) (by first | omega | (simp (decide := true) only [am_u_at, am_u_j, am_u_ne]; omega)) ?_)
    | (refine am_br rfl (by first | omega | (simp (decide := true) only [am_u_at, am_u_j, am_u_ne]; omega)) (fun h => ?_) (fun h => ?_))
    | (refine am_cS (y' := Y_mo_in) rfl lk_mo_114 ok_mo_in rfl rfl (c_mo_in _ _ _ _ _ (by first | omega | (simp (decide := true) only [am_u_at, am_u_j, am_u_ne]; omega)) (by first | omega | (simp (decide := true) only [am_u_at, am_u_j, am_u_ne]; omega)) (by first | omega | (simp (decide := true) only [am_u_at, am_u_j, am_u_ne]; omega))) ?_; rintro r I ⟨rfl, (⟨rfl, h⟩ | ⟨rfl, h⟩)⟩ <;> (try (exfalso; omega)))
    | (refine am_rt rfl (by first | trivial | exact Or.inl rfl | exact Or.inr rfl) ?_))
  all_goals try simp (decide := true) only [am_u_at, am_u_j, am_u_ne]
  all_goals first
    | (refine Or.inl ⟨by omega, ?_⟩; first | trivial | exact rfl | exact ⟨rfl, rfl⟩ | (refine ⟨?_, rfl⟩; congr 2; omega))
    | (refine Or.inr (Or.inl ⟨by omega, ?_⟩); first | trivial | exact rfl | exact ⟨rfl, rfl⟩ | (refine ⟨?_, rfl⟩; congr 2; omega))
    | (refine Or.inr (Or.inr (⟨by omega, ?_⟩)); first | trivial | exact rfl | exact ⟨rfl, rfl⟩ | (refine ⟨?_, rfl⟩; congr 2; omega))
theorem c_es_bars (d : Nat) (a b : Int) (I : am_I) (ha : (-2147483648 ≤ a ∧ a < 2147483648)) (hb : (-2147483648 ≤ b ∧ b < 2147483648)) : am_C (d + 1) Y_es_bars [.inr (.inr 0), .inl a, .inl b] I (fun r I' => (¬ ((1 ≤ a ∧ a ≤ 6) ∧ (1 ≤ b ∧ b ≤ 96)) ∧ r = some (.inl (-2)) ∧ I' = I) ∨ (((1 ≤ a ∧ a ≤ 6) ∧ (1 ≤ b ∧ b ≤ 96)) ∧ r = some (.inl 1) ∧ I' = am_u (am_u (am_u I 14 2 a) 14 3 b) 14 4 0)) := by
  refine am_enter ok_es_bars rfl ?_
  repeat' (first
    | (refine am_gp 80 [] rfl (by first | trivial | exact Or.inl rfl | exact Or.inr rfl | (simp (decide := true) only [am_p, am_u_at, am_u_j, am_u_ne]; omega) | (simp (decide := true) only [am_p, and_true, true_and, true_or, or_true, am_u_at, am_u_j, am_u_ne]; omega) | (simp (decide := true) [am_p, am_u_at, am_u_j, am_u_ne]; omega)) ?_)
    | (show am_V _ _ _ _ _ _ _; simp only [Int.reduceToNat])
    | (refine am_bt rfl (by first | omega | (simp (decide := true) only [am_u_at, am_u_j, am_u_ne]; omega)) (by first | omega | (simp (decide := true) only [am_u_at, am_u_j, am_u_ne]; omega)) ?_)
    | (refine am_bf rfl (by first | omega | (simp (decide := true) only [am_u_at, am_u_j, am_u_ne]; omega)) (by first | omega | (simp (decide := true) only [am_u_at, am_u_j, am_u_ne]; omega)) ?_)
    | (refine am_br rfl (by first | omega | (simp (decide := true) only [am_u_at, am_u_j, am_u_ne]; omega)) (fun h => ?_) (fun h => ?_))
    | (refine am_cS (y' := Y_es_outside) rfl lk_es_72 ok_es_outside rfl rfl (c_outside _ _ _ _ _ (by first | omega | (simp (decide := true) only [am_u_at, am_u_j, am_u_ne]; omega)) (by first | omega | (simp (decide := true) only [am_u_at, am_u_j, am_u_ne]; omega)) (by first | omega | (simp (decide := true) only [am_u_at, am_u_j, am_u_ne]; omega))) ?_; rintro r I ⟨rfl, (⟨rfl, h⟩ | ⟨rfl, h⟩)⟩ <;> (try (exfalso; omega)))
    | (refine am_rt rfl (by first | trivial | exact Or.inl rfl | exact Or.inr rfl) ?_))
  all_goals try simp (decide := true) only [am_u_at, am_u_j, am_u_ne]
  all_goals first
    | (refine Or.inl ⟨by omega, ?_⟩; first | trivial | exact rfl | exact ⟨rfl, rfl⟩ | (refine ⟨?_, rfl⟩; congr 2; omega))
    | (refine Or.inr (⟨by omega, ?_⟩); first | trivial | exact rfl | exact ⟨rfl, rfl⟩ | (refine ⟨?_, rfl⟩; congr 2; omega))
theorem c_mo_bars (d : Nat) (a b : Int) (I : am_I) (ha : (-2147483648 ≤ a ∧ a < 2147483648)) (hb : (-2147483648 ≤ b ∧ b < 2147483648)) : am_C (d + 1) Y_mo_bars [.inr (.inr 44), .inl a, .inl b] I (fun r I' => (¬ ((1 ≤ a ∧ a ≤ 6) ∧ (1 ≤ b ∧ b ≤ 96)) ∧ r = some (.inl (-2)) ∧ I' = I) ∨ (((1 ≤ a ∧ a ≤ 6) ∧ (1 ≤ b ∧ b ≤ 96)) ∧ r = some (.inl 1) ∧ I' = am_u (am_u I 44 16 a) 44 17 b)) := by
  refine am_enter ok_mo_bars rfl ?_
  repeat' (first
    | (refine am_gp 80 [] rfl (by first | trivial | exact Or.inl rfl | exact Or.inr rfl | (simp (decide := true) only [am_p, am_u_at, am_u_j, am_u_ne]; omega) | (simp (decide := true) only [am_p, and_true, true_and, true_or, or_true, am_u_at, am_u_j, am_u_ne]; omega) | (simp (decide := true) [am_p, am_u_at, am_u_j, am_u_ne]; omega)) ?_)
    | (show am_V _ _ _ _ _ _ _; simp only [Int.reduceToNat])
    | (refine am_bt rfl (by first | omega | (simp (decide := true) only [am_u_at, am_u_j, am_u_ne]; omega)) (by first | omega | (simp (decide := true) only [am_u_at, am_u_j, am_u_ne]; omega)) ?_)
    | (refine am_bf rfl (by first | omega | (simp (decide := true) only [am_u_at, am_u_j, am_u_ne]; omega)) (by first | omega | (simp (decide := true) only [am_u_at, am_u_j, am_u_ne]; omega)) ?_)
    | (refine am_br rfl (by first | omega | (simp (decide := true) only [am_u_at, am_u_j, am_u_ne]; omega)) (fun h => ?_) (fun h => ?_))
    | (refine am_cS (y' := Y_mo_in) rfl lk_mo_114 ok_mo_in rfl rfl (c_mo_in _ _ _ _ _ (by first | omega | (simp (decide := true) only [am_u_at, am_u_j, am_u_ne]; omega)) (by first | omega | (simp (decide := true) only [am_u_at, am_u_j, am_u_ne]; omega)) (by first | omega | (simp (decide := true) only [am_u_at, am_u_j, am_u_ne]; omega))) ?_; rintro r I ⟨rfl, (⟨rfl, h⟩ | ⟨rfl, h⟩)⟩ <;> (try (exfalso; omega)))
    | (refine am_rt rfl (by first | trivial | exact Or.inl rfl | exact Or.inr rfl) ?_))
  all_goals try simp (decide := true) only [am_u_at, am_u_j, am_u_ne]
  all_goals first
    | (refine Or.inl ⟨by omega, ?_⟩; first | trivial | exact rfl | exact ⟨rfl, rfl⟩ | (refine ⟨?_, rfl⟩; congr 2; omega))
    | (refine Or.inr (⟨by omega, ?_⟩); first | trivial | exact rfl | exact ⟨rfl, rfl⟩ | (refine ⟨?_, rfl⟩; congr 2; omega))
theorem c_es_clear (d : Nat) (I : am_I) : am_C d Y_es_clear [.inr (.inr 0)] I (fun r I' => True ∧ r = some (.inl (I 17 2)) ∧ I' = am_u (am_u I 17 2 0) 17 4 0) := by
  refine am_enter ok_es_clear rfl ?_
  repeat' (first
    | (refine am_gp 80 [] rfl (by first | trivial | exact Or.inl rfl | exact Or.inr rfl | (simp (decide := true) only [am_p, am_u_at, am_u_j, am_u_ne]; omega) | (simp (decide := true) only [am_p, and_true, true_and, true_or, or_true, am_u_at, am_u_j, am_u_ne]; omega) | (simp (decide := true) [am_p, am_u_at, am_u_j, am_u_ne]; omega)) ?_)
    | (show am_V _ _ _ _ _ _ _; simp only [Int.reduceToNat])
    | (refine am_bt rfl (by first | omega | (simp (decide := true) only [am_u_at, am_u_j, am_u_ne]; omega)) (by first | omega | (simp (decide := true) only [am_u_at, am_u_j, am_u_ne]; omega)) ?_)
    | (refine am_bf rfl (by first | omega | (simp (decide := true) only [am_u_at, am_u_j, am_u_ne]; omega)) (by first | omega | (simp (decide := true) only [am_u_at, am_u_j, am_u_ne]; omega)) ?_)
    | (refine am_br rfl (by first | omega | (simp (decide := true) only [am_u_at, am_u_j, am_u_ne]; omega)) (fun h => ?_) (fun h => ?_))
    | (refine am_rt rfl (by first | trivial | exact Or.inl rfl | exact Or.inr rfl) ?_))
  exact ⟨trivial, rfl, rfl⟩
theorem c_mo_clear (d : Nat) (I : am_I) : am_C d Y_mo_clear [.inr (.inr 44)] I (fun r I' => True ∧ r = some (.inl (I 44 20)) ∧ I' = am_u I 44 20 0) := by
  refine am_enter ok_mo_clear rfl ?_
  repeat' (first
    | (refine am_gp 80 [] rfl (by first | trivial | exact Or.inl rfl | exact Or.inr rfl | (simp (decide := true) only [am_p, am_u_at, am_u_j, am_u_ne]; omega) | (simp (decide := true) only [am_p, and_true, true_and, true_or, or_true, am_u_at, am_u_j, am_u_ne]; omega) | (simp (decide := true) [am_p, am_u_at, am_u_j, am_u_ne]; omega)) ?_)
    | (show am_V _ _ _ _ _ _ _; simp only [Int.reduceToNat])
    | (refine am_bt rfl (by first | omega | (simp (decide := true) only [am_u_at, am_u_j, am_u_ne]; omega)) (by first | omega | (simp (decide := true) only [am_u_at, am_u_j, am_u_ne]; omega)) ?_)
    | (refine am_bf rfl (by first | omega | (simp (decide := true) only [am_u_at, am_u_j, am_u_ne]; omega)) (by first | omega | (simp (decide := true) only [am_u_at, am_u_j, am_u_ne]; omega)) ?_)
    | (refine am_br rfl (by first | omega | (simp (decide := true) only [am_u_at, am_u_j, am_u_ne]; omega)) (fun h => ?_) (fun h => ?_))
    | (refine am_rt rfl (by first | trivial | exact Or.inl rfl | exact Or.inr rfl) ?_))
  exact ⟨trivial, rfl, rfl⟩
theorem c_es_voice (d : Nat) (w v : Int) (I : am_I) (hw : (-2147483648 ≤ w ∧ w < 2147483648)) (hv : (-2147483648 ≤ v ∧ v < 2147483648)) : am_C (d + 1) Y_es_voice [.inr (.inr 0), .inl w, .inl v] I (fun r I' => (¬ ((w = 3 ∧ 0 ≤ v ∧ v ≤ 12) ∨ ((0 ≤ w ∧ w ≤ 2) ∧ 0 ≤ v ∧ v ≤ 116)) ∧ r = some (.inl (-2)) ∧ I' = I) ∨ ((w = 3 ∧ 0 ≤ v ∧ v ≤ 12) ∧ r = some (.inl (I 17 3)) ∧ I' = am_u (am_u I 17 3 v) 17 4 0) ∨ (((0 ≤ w ∧ w ≤ 2) ∧ 0 ≤ v ∧ v ≤ 116) ∧ r = some (.inl (I 19 w.toNat)) ∧ I' = am_u (am_u I 19 w.toNat v) 17 4 0)) := by
  refine am_enter ok_es_voice rfl ?_
  repeat' (first
    | (refine am_gp 80 [] rfl (by first | trivial | exact Or.inl rfl | exact Or.inr rfl | (simp (decide := true) only [am_p, am_u_at, am_u_j, am_u_ne]; omega) | (simp (decide := true) only [am_p, and_true, true_and, true_or, or_true, am_u_at, am_u_j, am_u_ne]; omega) | (simp (decide := true) [am_p, am_u_at, am_u_j, am_u_ne]; omega)) ?_)
    | (show am_V _ _ _ _ _ _ _; simp only [Int.reduceToNat])
    | (refine am_bt rfl (by first | omega | (simp (decide := true) only [am_u_at, am_u_j, am_u_ne]; omega)) (by first | omega | (simp (decide := true) only [am_u_at, am_u_j, am_u_ne]; omega)) ?_)
    | (refine am_bf rfl (by first | omega | (simp (decide := true) only [am_u_at, am_u_j, am_u_ne]; omega)) (by first | omega | (simp (decide := true) only [am_u_at, am_u_j, am_u_ne]; omega)) ?_)
    | (refine am_br rfl (by first | omega | (simp (decide := true) only [am_u_at, am_u_j, am_u_ne]; omega)) (fun h => ?_) (fun h => ?_))
    | (refine am_cS (y' := Y_es_outside) rfl lk_es_72 ok_es_outside rfl rfl (c_outside _ _ _ _ _ (by first | omega | (simp (decide := true) only [am_u_at, am_u_j, am_u_ne]; omega)) (by first | omega | (simp (decide := true) only [am_u_at, am_u_j, am_u_ne]; omega)) (by first | omega | (simp (decide := true) only [am_u_at, am_u_j, am_u_ne]; omega))) ?_; rintro r I ⟨rfl, (⟨rfl, h⟩ | ⟨rfl, h⟩)⟩ <;> (try (exfalso; omega)))
    | (refine am_rt rfl (by first | trivial | exact Or.inl rfl | exact Or.inr rfl) ?_))
  all_goals try simp (decide := true) only [am_u_at, am_u_j, am_u_ne]
  all_goals first
    | (refine Or.inl ⟨by omega, ?_⟩; first | trivial | exact rfl | exact ⟨rfl, rfl⟩ | (refine ⟨?_, rfl⟩; congr 2; omega))
    | (refine Or.inr (Or.inl ⟨by omega, ?_⟩); first | trivial | exact rfl | exact ⟨rfl, rfl⟩ | (refine ⟨?_, rfl⟩; congr 2; omega))
    | (refine Or.inr (Or.inr (⟨by omega, ?_⟩)); first | trivial | exact rfl | exact ⟨rfl, rfl⟩ | (refine ⟨?_, rfl⟩; congr 2; omega))
theorem c_mo_voice (d : Nat) (w v : Int) (I : am_I) (hw : (-2147483648 ≤ w ∧ w < 2147483648)) (hv : (-2147483648 ≤ v ∧ v < 2147483648)) : am_C (d + 1) Y_mo_voice [.inr (.inr 44), .inl w, .inl v] I (fun r I' => (¬ ((w = 3 ∧ 0 ≤ v ∧ v ≤ 12) ∨ ((0 ≤ w ∧ w ≤ 2) ∧ 0 ≤ v ∧ v ≤ 116)) ∧ r = some (.inl (-2)) ∧ I' = I) ∨ ((w = 3 ∧ 0 ≤ v ∧ v ≤ 12) ∧ r = some (.inl (I 44 23)) ∧ I' = am_u I 44 23 v) ∨ (((0 ≤ w ∧ w ≤ 2) ∧ 0 ≤ v ∧ v ≤ 116) ∧ r = some (.inl (I 51 w.toNat)) ∧ I' = am_u I 51 w.toNat v)) := by
  refine am_enter ok_mo_voice rfl ?_
  repeat' (first
    | (refine am_gp 80 [] rfl (by first | trivial | exact Or.inl rfl | exact Or.inr rfl | (simp (decide := true) only [am_p, am_u_at, am_u_j, am_u_ne]; omega) | (simp (decide := true) only [am_p, and_true, true_and, true_or, or_true, am_u_at, am_u_j, am_u_ne]; omega) | (simp (decide := true) [am_p, am_u_at, am_u_j, am_u_ne]; omega)) ?_)
    | (show am_V _ _ _ _ _ _ _; simp only [Int.reduceToNat])
    | (refine am_bt rfl (by first | omega | (simp (decide := true) only [am_u_at, am_u_j, am_u_ne]; omega)) (by first | omega | (simp (decide := true) only [am_u_at, am_u_j, am_u_ne]; omega)) ?_)
    | (refine am_bf rfl (by first | omega | (simp (decide := true) only [am_u_at, am_u_j, am_u_ne]; omega)) (by first | omega | (simp (decide := true) only [am_u_at, am_u_j, am_u_ne]; omega)) ?_)
    | (refine am_br rfl (by first | omega | (simp (decide := true) only [am_u_at, am_u_j, am_u_ne]; omega)) (fun h => ?_) (fun h => ?_))
    | (refine am_cS (y' := Y_mo_in) rfl lk_mo_114 ok_mo_in rfl rfl (c_mo_in _ _ _ _ _ (by first | omega | (simp (decide := true) only [am_u_at, am_u_j, am_u_ne]; omega)) (by first | omega | (simp (decide := true) only [am_u_at, am_u_j, am_u_ne]; omega)) (by first | omega | (simp (decide := true) only [am_u_at, am_u_j, am_u_ne]; omega))) ?_; rintro r I ⟨rfl, (⟨rfl, h⟩ | ⟨rfl, h⟩)⟩ <;> (try (exfalso; omega)))
    | (refine am_rt rfl (by first | trivial | exact Or.inl rfl | exact Or.inr rfl) ?_))
  all_goals try simp (decide := true) only [am_u_at, am_u_j, am_u_ne]
  all_goals first
    | (refine Or.inl ⟨by omega, ?_⟩; first | trivial | exact rfl | exact ⟨rfl, rfl⟩ | (refine ⟨?_, rfl⟩; congr 2; omega))
    | (refine Or.inr (Or.inl ⟨by omega, ?_⟩); first | trivial | exact rfl | exact ⟨rfl, rfl⟩ | (refine ⟨?_, rfl⟩; congr 2; omega))
    | (refine Or.inr (Or.inr (⟨by omega, ?_⟩)); first | trivial | exact rfl | exact ⟨rfl, rfl⟩ | (refine ⟨?_, rfl⟩; congr 2; omega))
end
section
theorem c_copy (d : Nat) (I0 : am_I) (hn : 0 ≤ I0 1 2 ∧ I0 1 2 ≤ 24) : am_C (d + 1) Y_no_copy [.inr (.inr 4), .inr (.inr 1)] I0 (fun r I' => r = none ∧ am_fr I0 I' [4, 5, 6] ∧ I' 4 2 = I0 1 2 ∧ ∀ j : Nat, (j : Int) < I0 1 2 → I' 5 j = I0 2 j ∧ I' 6 j = I0 3 j) := by
  refine am_enter ok_no_copy rfl ?_
  have loop : ∀ (m : Nat) (i : Int) (I : am_I), 0 ≤ i → i ≤ I0 1 2 → I0 1 2 - i < m → am_fr I0 I [4, 5, 6] → I 4 2 = i → (∀ j : Nat, (j : Int) < i → I 5 j = I0 2 j ∧ I 6 j = I0 3 j) → am_V (d + 1) Y_no_copy (fun r I' => r = none ∧ am_fr I0 I' [4, 5, 6] ∧ I' 4 2 = I0 1 2 ∧ ∀ j : Nat, (j : Int) < I0 1 2 → I' 5 j = I0 2 j ∧ I' 6 j = I0 3 j) 7 [(0, .inr (.inr 4)), (1, .inr (.inr 1)), (2, .inl i)] [] I := by
    intro m
    induction m with
    | zero => intro i I h1 h2 h3; omega
    | succ m ih =>
      intro i I h1 h2 h3 hf h4 h5
      have e1 : I 1 2 = I0 1 2 := by rw [hf 1 rfl]
      have e2 : I 2 = I0 2 := hf 2 rfl
      have e3 : I 3 = I0 3 := hf 3 rfl
      refine am_go 1 [] rfl trivial ?_
      repeat' (first
        | (refine am_gp 80 [7] rfl (by first | trivial | exact Or.inl rfl | exact Or.inr rfl | (simp (decide := true) only [am_p, am_u_at, am_u_j, am_u_ne]; omega) | (simp (decide := true) only [am_p, and_true, true_and, true_or, or_true, am_u_at, am_u_j, am_u_ne]; omega) | (simp (decide := true) [am_p, am_u_at, am_u_j, am_u_ne]; omega)) ?_)
        | (show am_V _ _ _ _ _ _ _; simp only [Int.reduceToNat])
        | (refine am_bt rfl (by first | omega | (simp (decide := true) only [am_u_at, am_u_j, am_u_ne]; omega)) (by first | omega | (simp (decide := true) only [am_u_at, am_u_j, am_u_ne]; omega)) ?_)
        | (refine am_bf rfl (by first | omega | (simp (decide := true) only [am_u_at, am_u_j, am_u_ne]; omega)) (by first | omega | (simp (decide := true) only [am_u_at, am_u_j, am_u_ne]; omega)) ?_)
        | (refine am_br rfl (by first | omega | (simp (decide := true) only [am_u_at, am_u_j, am_u_ne]; omega)) (fun h => ?_) (fun h => ?_))
        | (refine am_cV (y' := Y_no_push) rfl lk_no_22 ok_no_push rfl rfl rfl (c_push_int _ _ _ _ (by first | omega | (simp (decide := true) only [am_u_at, am_u_j, am_u_ne]; omega))) ?_; rintro r I ⟨rfl, rfl⟩)
        | (refine am_rt rfl (by first | trivial | exact Or.inl rfl | exact Or.inr rfl) ?_))
      · exact ⟨rfl, hf, by omega, fun j hj => h5 j (by omega)⟩
      · refine ih (i + 1) _ (by omega) (by omega) (by omega) (((hf.u _ _ rfl).u _ _ rfl).u _ _ rfl) ?_ ?_
        · simp (decide := true) only [am_u_at, am_u_j, am_u_ne]; omega
        · intro j hj
          simp (decide := true) only [am_u_at, am_u_j, am_u_ne]
          rw [am_u_eq, am_u_eq, e2, e3]
          by_cases c : j = (I 4 2).toNat
          · subst c
            rw [am_up_eq, am_up_eq, h4]
            exact ⟨rfl, rfl⟩
          · rw [am_up_ne c, am_up_ne c]
            exact h5 j (by omega)
  repeat' (first
    | (refine am_gp 80 [7] rfl (by first | trivial | exact Or.inl rfl | exact Or.inr rfl | (simp (decide := true) only [am_p, am_u_at, am_u_j, am_u_ne]; omega) | (simp (decide := true) only [am_p, and_true, true_and, true_or, or_true, am_u_at, am_u_j, am_u_ne]; omega) | (simp (decide := true) [am_p, am_u_at, am_u_j, am_u_ne]; omega)) ?_)
    | (show am_V _ _ _ _ _ _ _; simp only [Int.reduceToNat])
    | (refine am_bt rfl (by first | omega | (simp (decide := true) only [am_u_at, am_u_j, am_u_ne]; omega)) (by first | omega | (simp (decide := true) only [am_u_at, am_u_j, am_u_ne]; omega)) ?_)
    | (refine am_bf rfl (by first | omega | (simp (decide := true) only [am_u_at, am_u_j, am_u_ne]; omega)) (by first | omega | (simp (decide := true) only [am_u_at, am_u_j, am_u_ne]; omega)) ?_)
    | (refine am_br rfl (by first | omega | (simp (decide := true) only [am_u_at, am_u_j, am_u_ne]; omega)) (fun h => ?_) (fun h => ?_))
    | (refine am_rt rfl (by first | trivial | exact Or.inl rfl | exact Or.inr rfl) ?_))
  refine loop 25 0 _ (by omega) (by omega) (by omega) (am_fr.rf.u _ _ rfl) ?_ (fun j hj => by omega)
  simp (decide := true) only [am_u_at, am_u_j, am_u_ne]
theorem c_es_meant (d : Nat) (I0 : am_I) (hn : 0 ≤ I0 1 2 ∧ I0 1 2 ≤ 24) : am_C (d + 2) Y_es_meant [.inr (.inr 0)] I0 (fun r I' => r = some (.inl (I0 1 2)) ∧ am_fr I0 I' [4, 5, 6, 23] ∧ I' 4 2 = I0 1 2 ∧ I' 23 9 = 0 ∧ ∀ j : Nat, (j : Int) < I0 1 2 → I' 5 j = I0 2 j ∧ I' 6 j = I0 3 j) := by
  refine am_enter ok_es_meant rfl ?_
  repeat' (first
    | (refine am_gp 80 [] rfl (by first | trivial | exact Or.inl rfl | exact Or.inr rfl | (simp (decide := true) only [am_p, am_u_at, am_u_j, am_u_ne]; omega) | (simp (decide := true) only [am_p, and_true, true_and, true_or, or_true, am_u_at, am_u_j, am_u_ne]; omega) | (simp (decide := true) [am_p, am_u_at, am_u_j, am_u_ne]; omega)) ?_)
    | (show am_V _ _ _ _ _ _ _; simp only [Int.reduceToNat])
    | (refine am_bt rfl (by first | omega | (simp (decide := true) only [am_u_at, am_u_j, am_u_ne]; omega)) (by first | omega | (simp (decide := true) only [am_u_at, am_u_j, am_u_ne]; omega)) ?_)
    | (refine am_bf rfl (by first | omega | (simp (decide := true) only [am_u_at, am_u_j, am_u_ne]; omega)) (by first | omega | (simp (decide := true) only [am_u_at, am_u_j, am_u_ne]; omega)) ?_)
    | (refine am_br rfl (by first | omega | (simp (decide := true) only [am_u_at, am_u_j, am_u_ne]; omega)) (fun h => ?_) (fun h => ?_))
    | (refine am_cV (y' := Y_no_copy) rfl lk_es_183 ok_no_copy rfl rfl rfl (c_copy _ _ (by first | omega | (simp (decide := true) only [am_u_at, am_u_j, am_u_ne]; omega))) ?_; rintro r I ⟨rfl, hfr, hsz, hcp⟩)
    | (refine am_cV (y' := Y_ju_forget) rfl lk_es_84 ok_ju_forget rfl rfl rfl (c_ju_forget _ _) ?_; rintro r I ⟨rfl, rfl⟩)
    | (refine am_rt rfl (by first | trivial | exact Or.inl rfl | exact Or.inr rfl) ?_))
  simp (decide := true) only [am_u_at, am_u_j, am_u_ne]
  refine ⟨by rw [hsz], ?_, hsz, trivial, hcp⟩
  intro a ha
  rw [am_u_ne (am_mem_app ha rfl)]
  refine hfr a ?_
  simp only [am_mem] at ha ⊢
  split at ha
  · cases ha
  · split at ha
    · cases ha
    · split at ha
      · cases ha
      · simp_all
theorem c_mo_meant (d : Nat) (I0 : am_I) (hn : 0 ≤ I0 44 0 ∧ I0 44 0 ≤ 24) : am_C d Y_mo_meant [.inr (.inr 44)] I0 (fun r I' => r = some (.inl (I0 44 0)) ∧ am_fr I0 I' [44, 47, 48] ∧ I' 44 = am_up (am_up (I0 44) 3 (I0 44 0)) 6 0 ∧ ∀ j : Nat, (j : Int) < I0 44 0 → I' 47 j = I0 45 j ∧ I' 48 j = I0 46 j) := by
  refine am_enter ok_mo_meant rfl ?_
  have loop : ∀ (m : Nat) (i : Int) (I : am_I), 0 ≤ i → i ≤ I0 44 0 → I0 44 0 - i < m → am_fr I0 I [44, 47, 48] → I 44 = am_up (I0 44) 3 (I0 44 0) → (∀ j : Nat, (j : Int) < i → I 47 j = I0 45 j ∧ I 48 j = I0 46 j) → am_V d Y_mo_meant (fun r I' => r = some (.inl (I0 44 0)) ∧ am_fr I0 I' [44, 47, 48] ∧ I' 44 = am_up (am_up (I0 44) 3 (I0 44 0)) 6 0 ∧ ∀ j : Nat, (j : Int) < I0 44 0 → I' 47 j = I0 45 j ∧ I' 48 j = I0 46 j) 10 [(0, .inr (.inr 44)), (1, .inl i)] [] I := by
    intro m
    induction m with
    | zero => intro i I h1 h2 h3; omega
    | succ m ih =>
      intro i I h1 h2 h3 hf h4 h5
      have e0 : I 44 0 = I0 44 0 := by rw [h4, am_up_ne (by decide)]
      have e2 : I 45 = I0 45 := hf 45 rfl
      have e3 : I 46 = I0 46 := hf 46 rfl
      refine am_go 1 [] rfl trivial ?_
      repeat' (first
        | (refine am_gp 80 [10] rfl (by first | trivial | exact Or.inl rfl | exact Or.inr rfl | (simp (decide := true) only [am_p, am_u_at, am_u_j, am_u_ne]; omega) | (simp (decide := true) only [am_p, and_true, true_and, true_or, or_true, am_u_at, am_u_j, am_u_ne]; omega) | (simp (decide := true) [am_p, am_u_at, am_u_j, am_u_ne]; omega)) ?_)
        | (show am_V _ _ _ _ _ _ _; simp only [Int.reduceToNat])
        | (refine am_bt rfl (by first | omega | (simp (decide := true) only [am_u_at, am_u_j, am_u_ne]; omega)) (by first | omega | (simp (decide := true) only [am_u_at, am_u_j, am_u_ne]; omega)) ?_)
        | (refine am_bf rfl (by first | omega | (simp (decide := true) only [am_u_at, am_u_j, am_u_ne]; omega)) (by first | omega | (simp (decide := true) only [am_u_at, am_u_j, am_u_ne]; omega)) ?_)
        | (refine am_br rfl (by first | omega | (simp (decide := true) only [am_u_at, am_u_j, am_u_ne]; omega)) (fun h => ?_) (fun h => ?_))
        | (refine am_rt rfl (by first | trivial | exact Or.inl rfl | exact Or.inr rfl) ?_))
      · simp (decide := true) only [am_u_at, am_u_j, am_u_ne]
        refine ⟨by rw [e0], hf.u _ _ rfl, by rw [am_u_eq, h4], fun j hj => h5 j (by omega)⟩
      · refine ih (i + 1) _ (by omega) (by omega) (by omega) ((hf.u _ _ rfl).u _ _ rfl) ?_ ?_
        · simp (decide := true) only [am_u_at, am_u_j, am_u_ne]; exact h4
        · intro j hj
          simp (decide := true) only [am_u_at, am_u_j, am_u_ne]
          rw [am_u_eq, am_u_eq, e2, e3]
          by_cases c : j = i.toNat
          · subst c
            rw [am_up_eq, am_up_eq]
            exact ⟨rfl, rfl⟩
          · rw [am_up_ne c, am_up_ne c]
            exact h5 j (by omega)
  repeat' (first
    | (refine am_gp 80 [10] rfl (by first | trivial | exact Or.inl rfl | exact Or.inr rfl | (simp (decide := true) only [am_p, am_u_at, am_u_j, am_u_ne]; omega) | (simp (decide := true) only [am_p, and_true, true_and, true_or, or_true, am_u_at, am_u_j, am_u_ne]; omega) | (simp (decide := true) [am_p, am_u_at, am_u_j, am_u_ne]; omega)) ?_)
    | (show am_V _ _ _ _ _ _ _; simp only [Int.reduceToNat])
    | (refine am_bt rfl (by first | omega | (simp (decide := true) only [am_u_at, am_u_j, am_u_ne]; omega)) (by first | omega | (simp (decide := true) only [am_u_at, am_u_j, am_u_ne]; omega)) ?_)
    | (refine am_bf rfl (by first | omega | (simp (decide := true) only [am_u_at, am_u_j, am_u_ne]; omega)) (by first | omega | (simp (decide := true) only [am_u_at, am_u_j, am_u_ne]; omega)) ?_)
    | (refine am_br rfl (by first | omega | (simp (decide := true) only [am_u_at, am_u_j, am_u_ne]; omega)) (fun h => ?_) (fun h => ?_))
    | (refine am_rt rfl (by first | trivial | exact Or.inl rfl | exact Or.inr rfl) ?_))
  refine loop 25 0 _ (by omega) (by omega) (by omega) (am_fr.rf.u _ _ rfl) ?_ (fun j hj => by omega)
  rw [am_u_eq]
end
section
theorem c_es_act (d : Nat) (i w : Int) (I : am_I) (hi : (-2147483648 ≤ i ∧ i < 2147483648)) (hw : (-2147483648 ≤ w ∧ w < 2147483648)) (hn : 0 ≤ I 23 7 ∧ I 23 7 ≤ 96) (hj : I 23 9 = 0 ∨ I 23 9 = 1) : am_C (d + 1) Y_es_act [.inr (.inr 0), .inl i, .inl w] I (fun r I' => (¬ (0 ≤ w ∧ w ≤ 3) ∧ r = some (.inl (-2)) ∧ I' = I) ∨ (((0 ≤ w ∧ w ≤ 3) ∧ I 23 9 = 0) ∧ r = some (.inl (-3)) ∧ I' = I) ∨ (((0 ≤ w ∧ w ≤ 3) ∧ I 23 9 = 1 ∧ ¬ (0 ≤ i ∧ i < I 23 7)) ∧ r = some (.inl (-2)) ∧ I' = I) ∨ ((w = 0 ∧ I 23 9 = 1 ∧ (0 ≤ i ∧ i < I 23 7)) ∧ r = some (.inl (I 25 i.toNat)) ∧ I' = I) ∨ ((w = 1 ∧ I 23 9 = 1 ∧ (0 ≤ i ∧ i < I 23 7)) ∧ r = some (.inl (I 26 i.toNat)) ∧ I' = I) ∨ ((w = 2 ∧ I 23 9 = 1 ∧ (0 ≤ i ∧ i < I 23 7)) ∧ r = some (.inl (I 27 i.toNat)) ∧ I' = I) ∨ ((w = 3 ∧ I 23 9 = 1 ∧ (0 ≤ i ∧ i < I 23 7)) ∧ r = some (.inl (I 28 i.toNat)) ∧ I' = I)) := by
  refine am_enter ok_es_act rfl ?_
  repeat' (first
    | (refine am_gp 80 [] rfl (by first | trivial | exact Or.inl rfl | exact Or.inr rfl | (simp (decide := true) only [am_p, am_u_at, am_u_j, am_u_ne]; omega) | (simp (decide := true) only [am_p, and_true, true_and, true_or, or_true, am_u_at, am_u_j, am_u_ne]; omega) | (simp (decide := true) [am_p, am_u_at, am_u_j, am_u_ne]; omega)) ?_)
    | (show am_V _ _ _ _ _ _ _; simp only [Int.reduceToNat])
    | (refine am_bt rfl (by first | omega | (simp (decide := true) only [am_u_at, am_u_j, am_u_ne]; omega)) (by first | omega | (simp (decide := true) only [am_u_at, am_u_j, am_u_ne]; omega)) ?_)
    | (refine am_bf rfl (by first | omega | (simp (decide := true) only [am_u_at, am_u_j, am_u_ne]; omega)) (by first | omega | (simp (decide := true) only [am_u_at, am_u_j, am_u_ne]; omega)) ?_)
    | (refine am_br rfl (by first | omega | (simp (decide := true) only [am_u_at, am_u_j, am_u_ne]; omega)) (fun h => ?_) (fun h => ?_))
    | (refine am_sw2 [72, 82, 92] 102 rfl rfl rfl rfl (by first | omega | (simp (decide := true) only [am_u_at, am_u_j, am_u_ne]; omega)) ?_ (fun h => ?_))
    | (unfold am_swc; refine ⟨fun h => ?_, ?_⟩)
    | (unfold am_swc; exact trivial)
    | (refine am_cS (y' := Y_es_outside) rfl lk_es_72 ok_es_outside rfl rfl (c_outside _ _ _ _ _ (by first | omega | (simp (decide := true) only [am_u_at, am_u_j, am_u_ne]; omega)) (by first | omega | (simp (decide := true) only [am_u_at, am_u_j, am_u_ne]; omega)) (by first | omega | (simp (decide := true) only [am_u_at, am_u_j, am_u_ne]; omega))) ?_; rintro r I ⟨rfl, (⟨rfl, h⟩ | ⟨rfl, h⟩)⟩ <;> (try (exfalso; omega)))
    | (refine am_rt rfl (by first | trivial | exact Or.inl rfl | exact Or.inr rfl) ?_))
  all_goals try simp (decide := true) only [am_u_at, am_u_j, am_u_ne]
  all_goals first
    | (refine Or.inl ⟨by omega, ?_⟩; first | trivial | exact rfl | exact ⟨rfl, rfl⟩ | (refine ⟨?_, rfl⟩; congr 2; omega))
    | (refine Or.inr (Or.inl ⟨by omega, ?_⟩); first | trivial | exact rfl | exact ⟨rfl, rfl⟩ | (refine ⟨?_, rfl⟩; congr 2; omega))
    | (refine Or.inr (Or.inr (Or.inl ⟨by omega, ?_⟩)); first | trivial | exact rfl | exact ⟨rfl, rfl⟩ | (refine ⟨?_, rfl⟩; congr 2; omega))
    | (refine Or.inr (Or.inr (Or.inr (Or.inl ⟨by omega, ?_⟩))); first | trivial | exact rfl | exact ⟨rfl, rfl⟩ | (refine ⟨?_, rfl⟩; congr 2; omega))
    | (refine Or.inr (Or.inr (Or.inr (Or.inr (Or.inl ⟨by omega, ?_⟩)))); first | trivial | exact rfl | exact ⟨rfl, rfl⟩ | (refine ⟨?_, rfl⟩; congr 2; omega))
    | (refine Or.inr (Or.inr (Or.inr (Or.inr (Or.inr (Or.inl ⟨by omega, ?_⟩))))); first | trivial | exact rfl | exact ⟨rfl, rfl⟩ | (refine ⟨?_, rfl⟩; congr 2; omega))
    | (refine Or.inr (Or.inr (Or.inr (Or.inr (Or.inr (Or.inr (⟨by omega, ?_⟩)))))); first | trivial | exact rfl | exact ⟨rfl, rfl⟩ | (refine ⟨?_, rfl⟩; congr 2; omega))
theorem c_mo_act (d : Nat) (i w : Int) (I : am_I) (hi : (-2147483648 ≤ i ∧ i < 2147483648)) (hw : (-2147483648 ≤ w ∧ w < 2147483648)) (hn : 0 ≤ I 44 32 ∧ I 44 32 ≤ 96) (hj : I 44 6 = 0 ∨ I 44 6 = 1) : am_C (d + 1) Y_mo_act [.inr (.inr 44), .inl i, .inl w] I (fun r I' => (¬ (0 ≤ w ∧ w ≤ 3) ∧ r = some (.inl (-2)) ∧ I' = I) ∨ (((0 ≤ w ∧ w ≤ 3) ∧ I 44 6 = 0) ∧ r = some (.inl (-3)) ∧ I' = I) ∨ (((0 ≤ w ∧ w ≤ 3) ∧ I 44 6 = 1 ∧ ¬ (0 ≤ i ∧ i < I 44 32)) ∧ r = some (.inl (-2)) ∧ I' = I) ∨ ((w = 0 ∧ I 44 6 = 1 ∧ (0 ≤ i ∧ i < I 44 32)) ∧ r = some (.inl (I 60 i.toNat)) ∧ I' = I) ∨ ((w = 1 ∧ I 44 6 = 1 ∧ (0 ≤ i ∧ i < I 44 32)) ∧ r = some (.inl (I 61 i.toNat)) ∧ I' = I) ∨ ((w = 2 ∧ I 44 6 = 1 ∧ (0 ≤ i ∧ i < I 44 32)) ∧ r = some (.inl (I 62 i.toNat)) ∧ I' = I) ∨ ((w = 3 ∧ I 44 6 = 1 ∧ (0 ≤ i ∧ i < I 44 32)) ∧ r = some (.inl (I 63 i.toNat)) ∧ I' = I)) := by
  refine am_enter ok_mo_act rfl ?_
  repeat' (first
    | (refine am_gp 80 [] rfl (by first | trivial | exact Or.inl rfl | exact Or.inr rfl | (simp (decide := true) only [am_p, am_u_at, am_u_j, am_u_ne]; omega) | (simp (decide := true) only [am_p, and_true, true_and, true_or, or_true, am_u_at, am_u_j, am_u_ne]; omega) | (simp (decide := true) [am_p, am_u_at, am_u_j, am_u_ne]; omega)) ?_)
    | (show am_V _ _ _ _ _ _ _; simp only [Int.reduceToNat])
    | (refine am_bt rfl (by first | omega | (simp (decide := true) only [am_u_at, am_u_j, am_u_ne]; omega)) (by first | omega | (simp (decide := true) only [am_u_at, am_u_j, am_u_ne]; omega)) ?_)
    | (refine am_bf rfl (by first | omega | (simp (decide := true) only [am_u_at, am_u_j, am_u_ne]; omega)) (by first | omega | (simp (decide := true) only [am_u_at, am_u_j, am_u_ne]; omega)) ?_)
    | (refine am_br rfl (by first | omega | (simp (decide := true) only [am_u_at, am_u_j, am_u_ne]; omega)) (fun h => ?_) (fun h => ?_))
    | (refine am_cS (y' := Y_mo_in) rfl lk_mo_114 ok_mo_in rfl rfl (c_mo_in _ _ _ _ _ (by first | omega | (simp (decide := true) only [am_u_at, am_u_j, am_u_ne]; omega)) (by first | omega | (simp (decide := true) only [am_u_at, am_u_j, am_u_ne]; omega)) (by first | omega | (simp (decide := true) only [am_u_at, am_u_j, am_u_ne]; omega))) ?_; rintro r I ⟨rfl, (⟨rfl, h⟩ | ⟨rfl, h⟩)⟩ <;> (try (exfalso; omega)))
    | (refine am_rt rfl (by first | trivial | exact Or.inl rfl | exact Or.inr rfl) ?_))
  all_goals try simp (decide := true) only [am_u_at, am_u_j, am_u_ne]
  all_goals first
    | (refine Or.inl ⟨by omega, ?_⟩; first | trivial | exact rfl | exact ⟨rfl, rfl⟩ | (refine ⟨?_, rfl⟩; congr 2; omega))
    | (refine Or.inr (Or.inl ⟨by omega, ?_⟩); first | trivial | exact rfl | exact ⟨rfl, rfl⟩ | (refine ⟨?_, rfl⟩; congr 2; omega))
    | (refine Or.inr (Or.inr (Or.inl ⟨by omega, ?_⟩)); first | trivial | exact rfl | exact ⟨rfl, rfl⟩ | (refine ⟨?_, rfl⟩; congr 2; omega))
    | (refine Or.inr (Or.inr (Or.inr (Or.inl ⟨by omega, ?_⟩))); first | trivial | exact rfl | exact ⟨rfl, rfl⟩ | (refine ⟨?_, rfl⟩; congr 2; omega))
    | (refine Or.inr (Or.inr (Or.inr (Or.inr (Or.inl ⟨by omega, ?_⟩)))); first | trivial | exact rfl | exact ⟨rfl, rfl⟩ | (refine ⟨?_, rfl⟩; congr 2; omega))
    | (refine Or.inr (Or.inr (Or.inr (Or.inr (Or.inr (Or.inl ⟨by omega, ?_⟩))))); first | trivial | exact rfl | exact ⟨rfl, rfl⟩ | (refine ⟨?_, rfl⟩; congr 2; omega))
    | (refine Or.inr (Or.inr (Or.inr (Or.inr (Or.inr (Or.inr (⟨by omega, ?_⟩)))))); first | trivial | exact rfl | exact ⟨rfl, rfl⟩ | (refine ⟨?_, rfl⟩; congr 2; omega))
theorem c_es_count (d : Nat) (w : Int) (I : am_I) (hw : (-2147483648 ≤ w ∧ w < 2147483648)) (hj : I 23 9 = 0 ∨ I 23 9 = 1) : am_C d Y_es_count [.inr (.inr 0), .inl w] I (fun r I' => (¬ (0 ≤ w ∧ w ≤ 5) ∧ r = some (.inl (-2)) ∧ I' = I) ∨ (w = 0 ∧ r = some (.inl (I 1 2)) ∧ I' = I) ∨ (w = 1 ∧ r = some (.inl (I 4 2)) ∧ I' = I) ∨ ((w = 2 ∧ I 23 9 = 1) ∧ r = some (.inl (I 23 7)) ∧ I' = I) ∨ ((w = 2 ∧ I 23 9 = 0) ∧ r = some (.inl (-1)) ∧ I' = I) ∨ (w = 3 ∧ r = some (.inl (I 17 2)) ∧ I' = I) ∨ (w = 4 ∧ r = some (.inl (I 14 1)) ∧ I' = I) ∨ (w = 5 ∧ r = some (.inl (I 7 3)) ∧ I' = I)) := by
  refine am_enter ok_es_count rfl ?_
  repeat' (first
    | (refine am_gp 80 [] rfl (by first | trivial | exact Or.inl rfl | exact Or.inr rfl | (simp (decide := true) only [am_p, am_u_at, am_u_j, am_u_ne]; omega) | (simp (decide := true) only [am_p, and_true, true_and, true_or, or_true, am_u_at, am_u_j, am_u_ne]; omega) | (simp (decide := true) [am_p, am_u_at, am_u_j, am_u_ne]; omega)) ?_)
    | (show am_V _ _ _ _ _ _ _; simp only [Int.reduceToNat])
    | (refine am_bt rfl (by first | omega | (simp (decide := true) only [am_u_at, am_u_j, am_u_ne]; omega)) (by first | omega | (simp (decide := true) only [am_u_at, am_u_j, am_u_ne]; omega)) ?_)
    | (refine am_bf rfl (by first | omega | (simp (decide := true) only [am_u_at, am_u_j, am_u_ne]; omega)) (by first | omega | (simp (decide := true) only [am_u_at, am_u_j, am_u_ne]; omega)) ?_)
    | (refine am_br rfl (by first | omega | (simp (decide := true) only [am_u_at, am_u_j, am_u_ne]; omega)) (fun h => ?_) (fun h => ?_))
    | (refine am_sw2 [40, 48, 56, 78, 86, 94] 102 rfl rfl rfl rfl (by first | omega | (simp (decide := true) only [am_u_at, am_u_j, am_u_ne]; omega)) ?_ (fun h => ?_))
    | (unfold am_swc; refine ⟨fun h => ?_, ?_⟩)
    | (unfold am_swc; exact trivial)
    | (refine am_rt rfl (by first | trivial | exact Or.inl rfl | exact Or.inr rfl) ?_))
  all_goals try simp (decide := true) only [am_u_at, am_u_j, am_u_ne]
  all_goals first
    | (refine Or.inl ⟨by omega, ?_⟩; first | trivial | exact rfl | exact ⟨rfl, rfl⟩ | (refine ⟨?_, rfl⟩; congr 2; omega))
    | (refine Or.inr (Or.inl ⟨by omega, ?_⟩); first | trivial | exact rfl | exact ⟨rfl, rfl⟩ | (refine ⟨?_, rfl⟩; congr 2; omega))
    | (refine Or.inr (Or.inr (Or.inl ⟨by omega, ?_⟩)); first | trivial | exact rfl | exact ⟨rfl, rfl⟩ | (refine ⟨?_, rfl⟩; congr 2; omega))
    | (refine Or.inr (Or.inr (Or.inr (Or.inl ⟨by omega, ?_⟩))); first | trivial | exact rfl | exact ⟨rfl, rfl⟩ | (refine ⟨?_, rfl⟩; congr 2; omega))
    | (refine Or.inr (Or.inr (Or.inr (Or.inr (Or.inl ⟨by omega, ?_⟩)))); first | trivial | exact rfl | exact ⟨rfl, rfl⟩ | (refine ⟨?_, rfl⟩; congr 2; omega))
    | (refine Or.inr (Or.inr (Or.inr (Or.inr (Or.inr (Or.inl ⟨by omega, ?_⟩))))); first | trivial | exact rfl | exact ⟨rfl, rfl⟩ | (refine ⟨?_, rfl⟩; congr 2; omega))
    | (refine Or.inr (Or.inr (Or.inr (Or.inr (Or.inr (Or.inr (Or.inl ⟨by omega, ?_⟩)))))); first | trivial | exact rfl | exact ⟨rfl, rfl⟩ | (refine ⟨?_, rfl⟩; congr 2; omega))
    | (refine Or.inr (Or.inr (Or.inr (Or.inr (Or.inr (Or.inr (Or.inr (⟨by omega, ?_⟩))))))); first | trivial | exact rfl | exact ⟨rfl, rfl⟩ | (refine ⟨?_, rfl⟩; congr 2; omega))
theorem c_mo_count (d : Nat) (w : Int) (I : am_I) (hw : (-2147483648 ≤ w ∧ w < 2147483648)) (hj : I 44 6 = 0 ∨ I 44 6 = 1) : am_C d Y_mo_count [.inr (.inr 44), .inl w] I (fun r I' => (¬ (0 ≤ w ∧ w ≤ 5) ∧ r = some (.inl (-2)) ∧ I' = I) ∨ (w = 0 ∧ r = some (.inl (I 44 0)) ∧ I' = I) ∨ (w = 1 ∧ r = some (.inl (I 44 3)) ∧ I' = I) ∨ ((w = 2 ∧ I 44 6 = 1) ∧ r = some (.inl (I 44 32)) ∧ I' = I) ∨ ((w = 2 ∧ I 44 6 = 0) ∧ r = some (.inl (-1)) ∧ I' = I) ∨ (w = 3 ∧ r = some (.inl (I 44 20)) ∧ I' = I) ∨ (w = 4 ∧ r = some (.inl (I 44 19)) ∧ I' = I) ∨ (w = 5 ∧ r = some (.inl (I 44 9)) ∧ I' = I)) := by
  refine am_enter ok_mo_count rfl ?_
  repeat' (first
    | (refine am_gp 80 [] rfl (by first | trivial | exact Or.inl rfl | exact Or.inr rfl | (simp (decide := true) only [am_p, am_u_at, am_u_j, am_u_ne]; omega) | (simp (decide := true) only [am_p, and_true, true_and, true_or, or_true, am_u_at, am_u_j, am_u_ne]; omega) | (simp (decide := true) [am_p, am_u_at, am_u_j, am_u_ne]; omega)) ?_)
    | (show am_V _ _ _ _ _ _ _; simp only [Int.reduceToNat])
    | (refine am_bt rfl (by first | omega | (simp (decide := true) only [am_u_at, am_u_j, am_u_ne]; omega)) (by first | omega | (simp (decide := true) only [am_u_at, am_u_j, am_u_ne]; omega)) ?_)
    | (refine am_bf rfl (by first | omega | (simp (decide := true) only [am_u_at, am_u_j, am_u_ne]; omega)) (by first | omega | (simp (decide := true) only [am_u_at, am_u_j, am_u_ne]; omega)) ?_)
    | (refine am_br rfl (by first | omega | (simp (decide := true) only [am_u_at, am_u_j, am_u_ne]; omega)) (fun h => ?_) (fun h => ?_))
    | (refine am_sw2 [40, 45, 50, 66, 71, 76] 81 rfl rfl rfl rfl (by first | omega | (simp (decide := true) only [am_u_at, am_u_j, am_u_ne]; omega)) ?_ (fun h => ?_))
    | (unfold am_swc; refine ⟨fun h => ?_, ?_⟩)
    | (unfold am_swc; exact trivial)
    | (refine am_rt rfl (by first | trivial | exact Or.inl rfl | exact Or.inr rfl) ?_))
  all_goals try simp (decide := true) only [am_u_at, am_u_j, am_u_ne]
  all_goals first
    | (refine Or.inl ⟨by omega, ?_⟩; first | trivial | exact rfl | exact ⟨rfl, rfl⟩ | (refine ⟨?_, rfl⟩; congr 2; omega))
    | (refine Or.inr (Or.inl ⟨by omega, ?_⟩); first | trivial | exact rfl | exact ⟨rfl, rfl⟩ | (refine ⟨?_, rfl⟩; congr 2; omega))
    | (refine Or.inr (Or.inr (Or.inl ⟨by omega, ?_⟩)); first | trivial | exact rfl | exact ⟨rfl, rfl⟩ | (refine ⟨?_, rfl⟩; congr 2; omega))
    | (refine Or.inr (Or.inr (Or.inr (Or.inl ⟨by omega, ?_⟩))); first | trivial | exact rfl | exact ⟨rfl, rfl⟩ | (refine ⟨?_, rfl⟩; congr 2; omega))
    | (refine Or.inr (Or.inr (Or.inr (Or.inr (Or.inl ⟨by omega, ?_⟩)))); first | trivial | exact rfl | exact ⟨rfl, rfl⟩ | (refine ⟨?_, rfl⟩; congr 2; omega))
    | (refine Or.inr (Or.inr (Or.inr (Or.inr (Or.inr (Or.inl ⟨by omega, ?_⟩))))); first | trivial | exact rfl | exact ⟨rfl, rfl⟩ | (refine ⟨?_, rfl⟩; congr 2; omega))
    | (refine Or.inr (Or.inr (Or.inr (Or.inr (Or.inr (Or.inr (Or.inl ⟨by omega, ?_⟩)))))); first | trivial | exact rfl | exact ⟨rfl, rfl⟩ | (refine ⟨?_, rfl⟩; congr 2; omega))
    | (refine Or.inr (Or.inr (Or.inr (Or.inr (Or.inr (Or.inr (Or.inr (⟨by omega, ?_⟩))))))); first | trivial | exact rfl | exact ⟨rfl, rfl⟩ | (refine ⟨?_, rfl⟩; congr 2; omega))
def es_wt (a m : Int) : Int := if a = 0 then 6 else 1 + 10 * m / a
theorem c_mo_weight (d : Nat) (p s : Int) (I : am_I) (hp : 0 ≤ p ∧ p ≤ 5) (hs : 0 ≤ s ∧ s ≤ 12) (ha : 0 ≤ I 52 (13 * p + s).toNat ∧ I 52 (13 * p + s).toNat ≤ 100000) (hm : 0 ≤ I 53 (13 * p + s).toNat ∧ I 53 (13 * p + s).toNat ≤ 100000) : am_C d Y_mo_weight [.inr (.inr 44), .inl p, .inl s] I (fun r I' => I' = I ∧ r = some (.inl (es_wt (I 52 (13 * p + s).toNat) (I 53 (13 * p + s).toNat)))) := by
  refine am_enter ok_mo_weight rfl ?_
  unfold es_wt
  repeat' (first
    | (refine am_gp 80 [] rfl (by first | trivial | exact Or.inl rfl | exact Or.inr rfl | (simp (decide := true) only [am_p, am_u_at, am_u_j, am_u_ne]; omega) | (simp (decide := true) only [am_p, and_true, true_and, true_or, or_true, am_u_at, am_u_j, am_u_ne]; omega) | (simp (decide := true) [am_p, am_u_at, am_u_j, am_u_ne]; omega)) ?_)
    | (show am_V _ _ _ _ _ _ _; simp only [Int.reduceToNat])
    | (refine am_bt rfl (by first | omega | (simp (decide := true) only [am_u_at, am_u_j, am_u_ne]; omega)) (by first | omega | (simp (decide := true) only [am_u_at, am_u_j, am_u_ne]; omega)) ?_)
    | (refine am_bf rfl (by first | omega | (simp (decide := true) only [am_u_at, am_u_j, am_u_ne]; omega)) (by first | omega | (simp (decide := true) only [am_u_at, am_u_j, am_u_ne]; omega)) ?_)
    | (refine am_br rfl (by first | omega | (simp (decide := true) only [am_u_at, am_u_j, am_u_ne]; omega)) (fun h => ?_) (fun h => ?_))
    | (refine am_rt rfl (by first | trivial | exact Or.inl rfl | exact Or.inr rfl) ?_))
  · exact ⟨rfl, by rw [if_neg (by omega)]⟩
  · exact ⟨rfl, by rw [if_pos (by omega)]⟩
end
section
def es_fit (sc be en n i p : Int) : Prop := es_bit sc p = 1 ∧ (0 < i ∨ es_bit be p = 1) ∧ (i < n - 1 ∨ es_bit en p = 1)
def es_sb (stp s : Int) : Int := am_and (am_shr stp (12 + s)) 1
theorem es_sb_01 (stp s : Int) : es_sb stp s = 0 ∨ es_sb stp s = 1 := am_and_1 _
def es_may (stp rp st s : Int) : Prop := (-12 ≤ s ∧ s ≤ 12) ∧ es_sb stp s = 1 ∧ (st = 16 → s = -1 ∨ s = -2) ∧ (st = 17 → s = 1 ∨ s = 2) ∧ (st ≠ 16 → st ≠ 17 → s ≠ 0 ∨ st < rp)
def es_nx (lp st s : Int) : Int := if s = 0 then min (st + 1) 15 else if lp ≤ s then 16 else if s ≤ -lp then 17 else 0
theorem c_mayStand (d : Nat) (i p : Int) (I : am_I) (hi : (-2147483648 ≤ i ∧ i < 2147483648)) (hp : 0 ≤ p ∧ p < 2147483648) (hn : 1 ≤ I 7 3 ∧ I 7 3 ≤ 16) : am_C (d + 1) Y_ru_mayStand [.inr (.inr 7), .inl i, .inl p] I (fun r I' => I' = I ∧ ((r = some (.inl 1) ∧ es_fit (I 8 0) (I 8 1) (I 8 2) (I 7 3) i p) ∨ (r = some (.inl 0) ∧ ¬ es_fit (I 8 0) (I 8 1) (I 8 2) (I 7 3) i p))) := by
  refine am_enter ok_ru_mayStand rfl ?_
  unfold es_fit
  repeat' (first
    | (refine am_gp 80 [] rfl (by first | trivial | exact Or.inl rfl | exact Or.inr rfl | (simp (decide := true) only [am_p, am_u_at, am_u_j, am_u_ne]; omega) | (simp (decide := true) only [am_p, and_true, true_and, true_or, or_true, am_u_at, am_u_j, am_u_ne]; omega) | (simp (decide := true) [am_p, am_u_at, am_u_j, am_u_ne]; omega)) ?_)
    | (show am_V _ _ _ _ _ _ _; simp only [Int.reduceToNat])
    | (refine am_bt rfl (by first | omega | (simp (decide := true) only [am_u_at, am_u_j, am_u_ne]; omega)) (by first | omega | (simp (decide := true) only [am_u_at, am_u_j, am_u_ne]; omega)) ?_)
    | (refine am_bf rfl (by first | omega | (simp (decide := true) only [am_u_at, am_u_j, am_u_ne]; omega)) (by first | omega | (simp (decide := true) only [am_u_at, am_u_j, am_u_ne]; omega)) ?_)
    | (refine am_br rfl (by first | omega | (simp (decide := true) only [am_u_at, am_u_j, am_u_ne]; omega)) (fun h => ?_) (fun h => ?_))
    | (refine am_cN (y' := Y_es_hasClass) rfl lk_ru_32 ok_es_hasClass rfl rfl (c_hasClass _ _ _ _ (by first | omega | (simp (decide := true) only [am_u_at, am_u_j, am_u_ne]; omega))) ?_; rintro r I ⟨rfl, (⟨rfl, h⟩ | ⟨rfl, h⟩)⟩ <;> (try (exfalso; omega)))
    | (refine am_rt rfl (by first | trivial | exact Or.inl rfl | exact Or.inr rfl) ?_))
  all_goals (refine ⟨rfl, ?_⟩)
  all_goals first
    | exact Or.inl ⟨rfl, by omega⟩
    | exact Or.inr ⟨rfl, by omega⟩
theorem c_mayStep (d : Nat) (st s : Int) (I : am_I) (hs : -2147483600 ≤ s ∧ s < 2147483600) (ht : 0 ≤ st ∧ st ≤ 17) (hr : 0 ≤ I 7 5 ∧ I 7 5 ≤ 15) : am_C (d + 1) Y_ru_mayStep [.inr (.inr 7), .inl st, .inl s] I (fun r I' => I' = I ∧ ((r = some (.inl 1) ∧ es_may (I 8 3) (I 7 5) st s) ∨ (r = some (.inl 0) ∧ ¬ es_may (I 8 3) (I 7 5) st s))) := by
  refine am_enter ok_ru_mayStep rfl ?_
  have hb := es_sb_01 (I 8 3) s
  unfold es_may
  unfold es_sb at hb ⊢
  repeat' (first
    | (refine am_gp 80 [] rfl (by first | trivial | exact Or.inl rfl | exact Or.inr rfl | (simp (decide := true) only [am_p, am_u_at, am_u_j, am_u_ne]; omega) | (simp (decide := true) only [am_p, and_true, true_and, true_or, or_true, am_u_at, am_u_j, am_u_ne]; omega) | (simp (decide := true) [am_p, am_u_at, am_u_j, am_u_ne]; omega)) ?_)
    | (show am_V _ _ _ _ _ _ _; simp only [Int.reduceToNat])
    | (refine am_bt rfl (by first | omega | (simp (decide := true) only [am_u_at, am_u_j, am_u_ne]; omega)) (by first | omega | (simp (decide := true) only [am_u_at, am_u_j, am_u_ne]; omega)) ?_)
    | (refine am_bf rfl (by first | omega | (simp (decide := true) only [am_u_at, am_u_j, am_u_ne]; omega)) (by first | omega | (simp (decide := true) only [am_u_at, am_u_j, am_u_ne]; omega)) ?_)
    | (refine am_br rfl (by first | omega | (simp (decide := true) only [am_u_at, am_u_j, am_u_ne]; omega)) (fun h => ?_) (fun h => ?_))
    | (refine am_cN (y' := Y_es_outside) rfl lk_ru_36 ok_es_outside rfl rfl (c_outside _ _ _ _ _ (by first | omega | (simp (decide := true) only [am_u_at, am_u_j, am_u_ne]; omega)) (by first | omega | (simp (decide := true) only [am_u_at, am_u_j, am_u_ne]; omega)) (by first | omega | (simp (decide := true) only [am_u_at, am_u_j, am_u_ne]; omega))) ?_; rintro r I ⟨rfl, (⟨rfl, h⟩ | ⟨rfl, h⟩)⟩ <;> (try (exfalso; omega)))
    | (refine am_rt rfl (by first | trivial | exact Or.inl rfl | exact Or.inr rfl) ?_))
  all_goals (refine ⟨rfl, ?_⟩)
  all_goals first
    | exact Or.inl ⟨rfl, by omega⟩
    | exact Or.inr ⟨rfl, by omega⟩
theorem c_stateBehind (d : Nat) (st s : Int) (I : am_I) (hs : (-2147483648 ≤ s ∧ s < 2147483648)) (ht : 0 ≤ st ∧ st ≤ 17) (hl : 1 ≤ I 7 4 ∧ I 7 4 ≤ 13) : am_C (d + 1) Y_ru_stateBehind [.inr (.inr 7), .inl st, .inl s] I (fun r I' => I' = I ∧ r = some (.inl (es_nx (I 7 4) st s))) := by
  refine am_enter ok_ru_stateBehind rfl ?_
  unfold es_nx
  repeat' (first
    | (refine am_gp 80 [] rfl (by first | trivial | exact Or.inl rfl | exact Or.inr rfl | (simp (decide := true) only [am_p, am_u_at, am_u_j, am_u_ne]; omega) | (simp (decide := true) only [am_p, and_true, true_and, true_or, or_true, am_u_at, am_u_j, am_u_ne]; omega) | (simp (decide := true) [am_p, am_u_at, am_u_j, am_u_ne]; omega)) ?_)
    | (show am_V _ _ _ _ _ _ _; simp only [Int.reduceToNat])
    | (refine am_bt rfl (by first | omega | (simp (decide := true) only [am_u_at, am_u_j, am_u_ne]; omega)) (by first | omega | (simp (decide := true) only [am_u_at, am_u_j, am_u_ne]; omega)) ?_)
    | (refine am_bf rfl (by first | omega | (simp (decide := true) only [am_u_at, am_u_j, am_u_ne]; omega)) (by first | omega | (simp (decide := true) only [am_u_at, am_u_j, am_u_ne]; omega)) ?_)
    | (refine am_br rfl (by first | omega | (simp (decide := true) only [am_u_at, am_u_j, am_u_ne]; omega)) (fun h => ?_) (fun h => ?_))
    | (refine am_mini rfl mk_ru_40 rfl (by first | omega | (simp (decide := true) only [am_u_at, am_u_j, am_u_ne]; omega)) ?_)
    | (refine am_rt rfl (by first | trivial | exact Or.inl rfl | exact Or.inr rfl) ?_))
  all_goals (refine ⟨rfl, ?_⟩)
  all_goals (split <;> first | omega | (split <;> first | omega | (split <;> first | omega | rfl) | rfl) | rfl)
def es_bh (stp lp rp st s : Int) : Int := if ¬ (-12 ≤ s ∧ s ≤ 12) ∨ es_sb stp s = 0 then -1 else if (st = 1 ∧ s ≠ -1 ∧ s ≠ -2) ∨ (st = 2 ∧ s ≠ 1 ∧ s ≠ 2) then -1 else if s = 0 then (if rp < (if 2 < st then st - 1 else 1) then -1 else 2 + (if 2 < st then st - 1 else 1)) else if max s (-s) < lp then 0 else if 0 < s then 1 else 2
theorem c_behind (d : Nat) (st s : Int) (I : am_I) (hs : -2147483600 ≤ s ∧ s < 2147483600) (ht : 0 ≤ st ∧ st ≤ 17) (hl : 1 ≤ I 44 14 ∧ I 44 14 ≤ 13) (hr : 0 ≤ I 44 15 ∧ I 44 15 ≤ 15) : am_C (d + 1) Y_mo_behind [.inr (.inr 44), .inl st, .inl s] I (fun r I' => I' = I ∧ r = some (.inl (es_bh (I 44 13) (I 44 14) (I 44 15) st s))) := by
  refine am_enter ok_mo_behind rfl ?_
  have hb := es_sb_01 (I 44 13) s
  unfold es_bh
  unfold es_sb at hb ⊢
  repeat' (first
    | (refine am_gp 80 [] rfl (by first | trivial | exact Or.inl rfl | exact Or.inr rfl | (simp (decide := true) only [am_p, am_u_at, am_u_j, am_u_ne]; omega) | (simp (decide := true) only [am_p, and_true, true_and, true_or, or_true, am_u_at, am_u_j, am_u_ne]; omega) | (simp (decide := true) [am_p, am_u_at, am_u_j, am_u_ne]; omega)) ?_)
    | (show am_V _ _ _ _ _ _ _; simp only [Int.reduceToNat])
    | (refine am_bt rfl (by first | omega | (simp (decide := true) only [am_u_at, am_u_j, am_u_ne]; omega)) (by first | omega | (simp (decide := true) only [am_u_at, am_u_j, am_u_ne]; omega)) ?_)
    | (refine am_bf rfl (by first | omega | (simp (decide := true) only [am_u_at, am_u_j, am_u_ne]; omega)) (by first | omega | (simp (decide := true) only [am_u_at, am_u_j, am_u_ne]; omega)) ?_)
    | (refine am_br rfl (by first | omega | (simp (decide := true) only [am_u_at, am_u_j, am_u_ne]; omega)) (fun h => ?_) (fun h => ?_))
    | (refine am_cS (y' := Y_mo_in) rfl lk_mo_114 ok_mo_in rfl rfl (c_mo_in _ _ _ _ _ (by first | omega | (simp (decide := true) only [am_u_at, am_u_j, am_u_ne]; omega)) (by first | omega | (simp (decide := true) only [am_u_at, am_u_j, am_u_ne]; omega)) (by first | omega | (simp (decide := true) only [am_u_at, am_u_j, am_u_ne]; omega))) ?_; rintro r I ⟨rfl, (⟨rfl, h⟩ | ⟨rfl, h⟩)⟩ <;> (try (exfalso; omega)))
    | (refine am_rt rfl (by first | trivial | exact Or.inl rfl | exact Or.inr rfl) ?_))
  all_goals (refine ⟨rfl, ?_⟩)
  all_goals (repeat' split)
  all_goals first | rfl | omega | (congr 2; omega)
theorem c_fits (d : Nat) (i p : Int) (I : am_I) (hi : (-2147483648 ≤ i ∧ i < 2147483648)) (hp : 0 ≤ p ∧ p < 2147483648) (hn : 1 ≤ I 44 9 ∧ I 44 9 ≤ 16) (hl : 0 ≤ I 44 7 ∧ I 44 7 ≤ 127) (hh : 0 ≤ I 44 8 ∧ I 44 8 ≤ 127) : am_C (d + 1) Y_mo_fits [.inr (.inr 44), .inl i, .inl p] I (fun r I' => I' = I ∧ ((r = some (.inl 1) ∧ ((I 44 7 ≤ p ∧ p ≤ I 44 8) ∧ es_fit (I 44 10) (I 44 11) (I 44 12) (I 44 9) i p)) ∨ (r = some (.inl 0) ∧ ¬ ((I 44 7 ≤ p ∧ p ≤ I 44 8) ∧ es_fit (I 44 10) (I 44 11) (I 44 12) (I 44 9) i p)))) := by
  refine am_enter ok_mo_fits rfl ?_
  unfold es_fit
  repeat' (first
    | (refine am_gp 80 [] rfl (by first | trivial | exact Or.inl rfl | exact Or.inr rfl | (simp (decide := true) only [am_p, am_u_at, am_u_j, am_u_ne]; omega) | (simp (decide := true) only [am_p, and_true, true_and, true_or, or_true, am_u_at, am_u_j, am_u_ne]; omega) | (simp (decide := true) [am_p, am_u_at, am_u_j, am_u_ne]; omega)) ?_)
    | (show am_V _ _ _ _ _ _ _; simp only [Int.reduceToNat])
    | (refine am_bt rfl (by first | omega | (simp (decide := true) only [am_u_at, am_u_j, am_u_ne]; omega)) (by first | omega | (simp (decide := true) only [am_u_at, am_u_j, am_u_ne]; omega)) ?_)
    | (refine am_bf rfl (by first | omega | (simp (decide := true) only [am_u_at, am_u_j, am_u_ne]; omega)) (by first | omega | (simp (decide := true) only [am_u_at, am_u_j, am_u_ne]; omega)) ?_)
    | (refine am_br rfl (by first | omega | (simp (decide := true) only [am_u_at, am_u_j, am_u_ne]; omega)) (fun h => ?_) (fun h => ?_))
    | (refine am_cS (y' := Y_mo_in) rfl lk_mo_114 ok_mo_in rfl rfl (c_mo_in _ _ _ _ _ (by first | omega | (simp (decide := true) only [am_u_at, am_u_j, am_u_ne]; omega)) (by first | omega | (simp (decide := true) only [am_u_at, am_u_j, am_u_ne]; omega)) (by first | omega | (simp (decide := true) only [am_u_at, am_u_j, am_u_ne]; omega))) ?_; rintro r I ⟨rfl, (⟨rfl, h⟩ | ⟨rfl, h⟩)⟩ <;> (try (exfalso; omega)))
    | (refine am_cS (y' := Y_mo_hasClass) rfl lk_mo_139 ok_mo_hasClass rfl rfl (c_mo_hasClass _ _ _ _ (by first | omega | (simp (decide := true) only [am_u_at, am_u_j, am_u_ne]; omega))) ?_; rintro r I ⟨rfl, (⟨rfl, h⟩ | ⟨rfl, h⟩)⟩ <;> (try (exfalso; omega)))
    | (refine am_rt rfl (by first | trivial | exact Or.inl rfl | exact Or.inr rfl) ?_))
  all_goals (refine ⟨rfl, ?_⟩)
  all_goals first
    | exact Or.inl ⟨rfl, by omega⟩
    | exact Or.inr ⟨rfl, by omega⟩
end
section
theorem es_nx_rng_ct (lp st s : Int) (hl : 1 ≤ lp ∧ lp ≤ 13) (ht : 0 ≤ st ∧ st ≤ 17) : 0 ≤ es_nx lp st s ∧ es_nx lp st s ≤ 17 := by
  unfold es_nx
  repeat' split
  all_goals omega
theorem c_ct_ofNone (d : Nat) (I : am_I) : am_C d Y_ct_ofNone [.inr (.inr 9)] I (fun r I' => I' = I ∧ r = some (.inr (.inl (0)))) := by
  refine am_enter ok_ct_ofNone rfl ?_
  repeat' (first
    | (refine am_gp 80 [] rfl (by first | trivial | exact Or.inl rfl | exact Or.inr rfl | (simp (decide := true) only [am_p, am_u_at, am_u_j, am_u_ne]; omega) | (simp (decide := true) only [am_p, and_true, true_and, true_or, or_true, am_u_at, am_u_j, am_u_ne]; omega) | (simp (decide := true) [am_p, am_u_at, am_u_j, am_u_ne]; omega)) ?_)
    | (show am_V _ _ _ _ _ _ _; simp only [Int.reduceToNat])
    | (refine am_bt rfl (by first | omega | (simp (decide := true) only [am_u_at, am_u_j, am_u_ne]; omega)) (by first | omega | (simp (decide := true) only [am_u_at, am_u_j, am_u_ne]; omega)) ?_)
    | (refine am_bf rfl (by first | omega | (simp (decide := true) only [am_u_at, am_u_j, am_u_ne]; omega)) (by first | omega | (simp (decide := true) only [am_u_at, am_u_j, am_u_ne]; omega)) ?_)
    | (refine am_br rfl (by first | omega | (simp (decide := true) only [am_u_at, am_u_j, am_u_ne]; omega)) (fun h => ?_) (fun h => ?_))
    | (refine am_rt rfl (by first | trivial | exact Or.inl rfl | exact Or.inr rfl) ?_))
  exact ⟨rfl, rfl⟩
theorem c_ct_ofEnd (d : Nat) (I : am_I) : am_C d Y_ct_ofEnd [.inr (.inr 9)] I (fun r I' => I' = I ∧ r = some (.inr (.inl (1)))) := by
  refine am_enter ok_ct_ofEnd rfl ?_
  repeat' (first
    | (refine am_gp 80 [] rfl (by first | trivial | exact Or.inl rfl | exact Or.inr rfl | (simp (decide := true) only [am_p, am_u_at, am_u_j, am_u_ne]; omega) | (simp (decide := true) only [am_p, and_true, true_and, true_or, or_true, am_u_at, am_u_j, am_u_ne]; omega) | (simp (decide := true) [am_p, am_u_at, am_u_j, am_u_ne]; omega)) ?_)
    | (show am_V _ _ _ _ _ _ _; simp only [Int.reduceToNat])
    | (refine am_bt rfl (by first | omega | (simp (decide := true) only [am_u_at, am_u_j, am_u_ne]; omega)) (by first | omega | (simp (decide := true) only [am_u_at, am_u_j, am_u_ne]; omega)) ?_)
    | (refine am_bf rfl (by first | omega | (simp (decide := true) only [am_u_at, am_u_j, am_u_ne]; omega)) (by first | omega | (simp (decide := true) only [am_u_at, am_u_j, am_u_ne]; omega)) ?_)
    | (refine am_br rfl (by first | omega | (simp (decide := true) only [am_u_at, am_u_j, am_u_ne]; omega)) (fun h => ?_) (fun h => ?_))
    | (refine am_rt rfl (by first | trivial | exact Or.inl rfl | exact Or.inr rfl) ?_))
  exact ⟨rfl, rfl⟩
theorem c_ct_together (d : Nat) (a b : Int) (I : am_I) (ha : 0 ≤ a ∧ a ≤ 1000000000000000000) (hb : 0 ≤ b ∧ b ≤ 1000000000000000000) : am_C (d + 2) Y_ct_together [.inr (.inr 9), .inr (.inl a), .inr (.inl b)] I (fun r I' => I' = I ∧ r = some (.inr (.inl (min 1000000000000000000 (a + b))))) := by
  refine am_enter ok_ct_together rfl ?_
  repeat' (first
    | (refine am_gp 80 [] rfl (by first | trivial | exact Or.inl rfl | exact Or.inr rfl | (simp (decide := true) only [am_p, am_u_at, am_u_j, am_u_ne]; omega) | (simp (decide := true) only [am_p, and_true, true_and, true_or, or_true, am_u_at, am_u_j, am_u_ne]; omega) | (simp (decide := true) [am_p, am_u_at, am_u_j, am_u_ne]; omega)) ?_)
    | (show am_V _ _ _ _ _ _ _; simp only [Int.reduceToNat])
    | (refine am_bt rfl (by first | omega | (simp (decide := true) only [am_u_at, am_u_j, am_u_ne]; omega)) (by first | omega | (simp (decide := true) only [am_u_at, am_u_j, am_u_ne]; omega)) ?_)
    | (refine am_bf rfl (by first | omega | (simp (decide := true) only [am_u_at, am_u_j, am_u_ne]; omega)) (by first | omega | (simp (decide := true) only [am_u_at, am_u_j, am_u_ne]; omega)) ?_)
    | (refine am_br rfl (by first | omega | (simp (decide := true) only [am_u_at, am_u_j, am_u_ne]; omega)) (fun h => ?_) (fun h => ?_))
    | (refine am_cN (y' := Y_es_cappedSum) rfl lk_ct_9 ok_es_cappedSum rfl rfl (c_capped _ _ _ _ (by first | omega | (simp (decide := true) only [am_u_at, am_u_j, am_u_ne]; omega)) (by first | omega | (simp (decide := true) only [am_u_at, am_u_j, am_u_ne]; omega))) ?_; rintro r I ⟨rfl, rfl⟩)
    | (refine am_rt rfl (by first | trivial | exact Or.inl rfl | exact Or.inr rfl) ?_))
  exact ⟨rfl, rfl⟩
theorem c_ct_stepped (d : Nat) (s v : Int) (I : am_I) : am_C d Y_ct_stepped [.inr (.inr 9), .inl s, .inr (.inl v)] I (fun r I' => I' = I ∧ r = some (.inr (.inl v))) := by
  refine am_enter ok_ct_stepped rfl ?_
  repeat' (first
    | (refine am_gp 80 [] rfl (by first | trivial | exact Or.inl rfl | exact Or.inr rfl | (simp (decide := true) only [am_p, am_u_at, am_u_j, am_u_ne]; omega) | (simp (decide := true) only [am_p, and_true, true_and, true_or, or_true, am_u_at, am_u_j, am_u_ne]; omega) | (simp (decide := true) [am_p, am_u_at, am_u_j, am_u_ne]; omega)) ?_)
    | (show am_V _ _ _ _ _ _ _; simp only [Int.reduceToNat])
    | (refine am_bt rfl (by first | omega | (simp (decide := true) only [am_u_at, am_u_j, am_u_ne]; omega)) (by first | omega | (simp (decide := true) only [am_u_at, am_u_j, am_u_ne]; omega)) ?_)
    | (refine am_bf rfl (by first | omega | (simp (decide := true) only [am_u_at, am_u_j, am_u_ne]; omega)) (by first | omega | (simp (decide := true) only [am_u_at, am_u_j, am_u_ne]; omega)) ?_)
    | (refine am_br rfl (by first | omega | (simp (decide := true) only [am_u_at, am_u_j, am_u_ne]; omega)) (fun h => ?_) (fun h => ?_))
    | (refine am_rt rfl (by first | trivial | exact Or.inl rfl | exact Or.inr rfl) ?_))
  exact ⟨rfl, rfl⟩
theorem c_ct_index (d : Nat) (p q t : Int) (I : am_I) : am_C d Y_mt_index [.inr (.inr 9), .inl p, .inl q, .inl t] I (fun r I' => I' = I ∧ r = some (.inl ((p * 37 + q - I 7 1) * 18 + t))) := by
  refine am_enter ok_mt_index rfl ?_
  repeat' (first
    | (refine am_gp 80 [] rfl (by first | trivial | exact Or.inl rfl | exact Or.inr rfl | (simp (decide := true) only [am_p, am_u_at, am_u_j, am_u_ne]; omega) | (simp (decide := true) only [am_p, and_true, true_and, true_or, or_true, am_u_at, am_u_j, am_u_ne]; omega) | (simp (decide := true) [am_p, am_u_at, am_u_j, am_u_ne]; omega)) ?_)
    | (show am_V _ _ _ _ _ _ _; simp only [Int.reduceToNat])
    | (refine am_bt rfl (by first | omega | (simp (decide := true) only [am_u_at, am_u_j, am_u_ne]; omega)) (by first | omega | (simp (decide := true) only [am_u_at, am_u_j, am_u_ne]; omega)) ?_)
    | (refine am_bf rfl (by first | omega | (simp (decide := true) only [am_u_at, am_u_j, am_u_ne]; omega)) (by first | omega | (simp (decide := true) only [am_u_at, am_u_j, am_u_ne]; omega)) ?_)
    | (refine am_br rfl (by first | omega | (simp (decide := true) only [am_u_at, am_u_j, am_u_ne]; omega)) (fun h => ?_) (fun h => ?_))
    | (refine am_rt rfl (by first | trivial | exact Or.inl rfl | exact Or.inr rfl) ?_))
  exact ⟨rfl, rfl⟩
theorem c_ct_put (d : Nat) (p q t v : Int) (I : am_I) (hi : 0 ≤ (p * 37 + q - I 7 1) * 18 + t ∧ (p * 37 + q - I 7 1) * 18 + t < 10656) : am_C (d + 1) Y_mt_put [.inr (.inr 9), .inl p, .inl q, .inl t, .inr (.inl v)] I (fun r I' => r = none ∧ I' = am_u I 10 ((p * 37 + q - I 7 1) * 18 + t).toNat v) := by
  refine am_enter ok_mt_put rfl ?_
  repeat' (first
    | (refine am_gp 80 [] rfl (by first | trivial | exact Or.inl rfl | exact Or.inr rfl | (simp (decide := true) only [am_p, am_u_at, am_u_j, am_u_ne]; omega) | (simp (decide := true) only [am_p, and_true, true_and, true_or, or_true, am_u_at, am_u_j, am_u_ne]; omega) | (simp (decide := true) [am_p, am_u_at, am_u_j, am_u_ne]; omega)) ?_)
    | (show am_V _ _ _ _ _ _ _; simp only [Int.reduceToNat])
    | (refine am_bt rfl (by first | omega | (simp (decide := true) only [am_u_at, am_u_j, am_u_ne]; omega)) (by first | omega | (simp (decide := true) only [am_u_at, am_u_j, am_u_ne]; omega)) ?_)
    | (refine am_bf rfl (by first | omega | (simp (decide := true) only [am_u_at, am_u_j, am_u_ne]; omega)) (by first | omega | (simp (decide := true) only [am_u_at, am_u_j, am_u_ne]; omega)) ?_)
    | (refine am_br rfl (by first | omega | (simp (decide := true) only [am_u_at, am_u_j, am_u_ne]; omega)) (fun h => ?_) (fun h => ?_))
    | (refine am_cV (y' := Y_mt_index) rfl lk_mt_75_ct ok_mt_index rfl rfl rfl (c_ct_index _ _ _ _ _) ?_; rintro r I ⟨rfl, rfl⟩)
    | (refine am_cN (y' := Y_es_outside) rfl lk_mt_79 ok_es_outside rfl rfl (c_outside _ _ _ _ _ (by first | omega | (simp (decide := true) only [am_u_at, am_u_j, am_u_ne]; omega)) (by first | omega | (simp (decide := true) only [am_u_at, am_u_j, am_u_ne]; omega)) (by first | omega | (simp (decide := true) only [am_u_at, am_u_j, am_u_ne]; omega))) ?_; rintro r I ⟨rfl, (⟨rfl, h⟩ | ⟨rfl, h⟩)⟩ <;> (try (exfalso; omega)))
    | (refine am_rt rfl (by first | trivial | exact Or.inl rfl | exact Or.inr rfl) ?_))
  exact ⟨rfl, rfl⟩
theorem c_ct_from (d : Nat) (p q t : Int) (I : am_I) (hi : 0 ≤ (p * 37 + q - I 7 1) * 18 + t ∧ (p * 37 + q - I 7 1) * 18 + t < 10656) : am_C (d + 1) Y_mt_from [.inr (.inr 9), .inl p, .inl q, .inl t] I (fun r I' => I' = I ∧ r = some (.inr (.inl (I 10 ((p * 37 + q - I 7 1) * 18 + t).toNat)))) := by
  refine am_enter ok_mt_from rfl ?_
  repeat' (first
    | (refine am_gp 80 [] rfl (by first | trivial | exact Or.inl rfl | exact Or.inr rfl | (simp (decide := true) only [am_p, am_u_at, am_u_j, am_u_ne]; omega) | (simp (decide := true) only [am_p, and_true, true_and, true_or, or_true, am_u_at, am_u_j, am_u_ne]; omega) | (simp (decide := true) [am_p, am_u_at, am_u_j, am_u_ne]; omega)) ?_)
    | (show am_V _ _ _ _ _ _ _; simp only [Int.reduceToNat])
    | (refine am_bt rfl (by first | omega | (simp (decide := true) only [am_u_at, am_u_j, am_u_ne]; omega)) (by first | omega | (simp (decide := true) only [am_u_at, am_u_j, am_u_ne]; omega)) ?_)
    | (refine am_bf rfl (by first | omega | (simp (decide := true) only [am_u_at, am_u_j, am_u_ne]; omega)) (by first | omega | (simp (decide := true) only [am_u_at, am_u_j, am_u_ne]; omega)) ?_)
    | (refine am_br rfl (by first | omega | (simp (decide := true) only [am_u_at, am_u_j, am_u_ne]; omega)) (fun h => ?_) (fun h => ?_))
    | (refine am_cV (y' := Y_mt_index) rfl lk_mt_75_ct ok_mt_index rfl rfl rfl (c_ct_index _ _ _ _ _) ?_; rintro r I ⟨rfl, rfl⟩)
    | (refine am_cN (y' := Y_es_outside) rfl lk_mt_79 ok_es_outside rfl rfl (c_outside _ _ _ _ _ (by first | omega | (simp (decide := true) only [am_u_at, am_u_j, am_u_ne]; omega)) (by first | omega | (simp (decide := true) only [am_u_at, am_u_j, am_u_ne]; omega)) (by first | omega | (simp (decide := true) only [am_u_at, am_u_j, am_u_ne]; omega))) ?_; rintro r I ⟨rfl, (⟨rfl, h⟩ | ⟨rfl, h⟩)⟩ <;> (try (exfalso; omega)))
    | (refine am_cU (y' := Y_ct_ofNone) rfl lk_mt_43_ct ok_ct_ofNone rfl rfl rfl (c_ct_ofNone _ _) ?_; rintro r I ⟨rfl, rfl⟩)
    | (refine am_rt rfl (by first | trivial | exact Or.inl rfl | exact Or.inr rfl) ?_))
  exact ⟨rfl, rfl⟩
end
section
theorem es_nx_rng_wt (lp st s : Int) (hl : 1 ≤ lp ∧ lp ≤ 13) (ht : 0 ≤ st ∧ st ≤ 17) : 0 ≤ es_nx lp st s ∧ es_nx lp st s ≤ 17 := by
  unfold es_nx
  repeat' split
  all_goals omega
theorem c_wt_ofNone (d : Nat) (I : am_I) : am_C d Y_wt_ofNone [.inr (.inr 11)] I (fun r I' => I' = I ∧ r = some (.inr (.inl (-1)))) := by
  refine am_enter ok_wt_ofNone rfl ?_
  repeat' (first
    | (refine am_gp 80 [] rfl (by first | trivial | exact Or.inl rfl | exact Or.inr rfl | (simp (decide := true) only [am_p, am_u_at, am_u_j, am_u_ne]; omega) | (simp (decide := true) only [am_p, and_true, true_and, true_or, or_true, am_u_at, am_u_j, am_u_ne]; omega) | (simp (decide := true) [am_p, am_u_at, am_u_j, am_u_ne]; omega)) ?_)
    | (show am_V _ _ _ _ _ _ _; simp only [Int.reduceToNat])
    | (refine am_bt rfl (by first | omega | (simp (decide := true) only [am_u_at, am_u_j, am_u_ne]; omega)) (by first | omega | (simp (decide := true) only [am_u_at, am_u_j, am_u_ne]; omega)) ?_)
    | (refine am_bf rfl (by first | omega | (simp (decide := true) only [am_u_at, am_u_j, am_u_ne]; omega)) (by first | omega | (simp (decide := true) only [am_u_at, am_u_j, am_u_ne]; omega)) ?_)
    | (refine am_br rfl (by first | omega | (simp (decide := true) only [am_u_at, am_u_j, am_u_ne]; omega)) (fun h => ?_) (fun h => ?_))
    | (refine am_rt rfl (by first | trivial | exact Or.inl rfl | exact Or.inr rfl) ?_))
  exact ⟨rfl, rfl⟩
theorem c_wt_ofEnd (d : Nat) (I : am_I) : am_C d Y_wt_ofEnd [.inr (.inr 11)] I (fun r I' => I' = I ∧ r = some (.inr (.inl (0)))) := by
  refine am_enter ok_wt_ofEnd rfl ?_
  repeat' (first
    | (refine am_gp 80 [] rfl (by first | trivial | exact Or.inl rfl | exact Or.inr rfl | (simp (decide := true) only [am_p, am_u_at, am_u_j, am_u_ne]; omega) | (simp (decide := true) only [am_p, and_true, true_and, true_or, or_true, am_u_at, am_u_j, am_u_ne]; omega) | (simp (decide := true) [am_p, am_u_at, am_u_j, am_u_ne]; omega)) ?_)
    | (show am_V _ _ _ _ _ _ _; simp only [Int.reduceToNat])
    | (refine am_bt rfl (by first | omega | (simp (decide := true) only [am_u_at, am_u_j, am_u_ne]; omega)) (by first | omega | (simp (decide := true) only [am_u_at, am_u_j, am_u_ne]; omega)) ?_)
    | (refine am_bf rfl (by first | omega | (simp (decide := true) only [am_u_at, am_u_j, am_u_ne]; omega)) (by first | omega | (simp (decide := true) only [am_u_at, am_u_j, am_u_ne]; omega)) ?_)
    | (refine am_br rfl (by first | omega | (simp (decide := true) only [am_u_at, am_u_j, am_u_ne]; omega)) (fun h => ?_) (fun h => ?_))
    | (refine am_rt rfl (by first | trivial | exact Or.inl rfl | exact Or.inr rfl) ?_))
  exact ⟨rfl, rfl⟩
theorem c_wt_together (d : Nat) (a b : Int) (I : am_I) (ha : -1 ≤ a ∧ a ≤ 1000000000000000000) (hb : -1 ≤ b ∧ b ≤ 1000000000000000000) : am_C (d + 2) Y_wt_together [.inr (.inr 11), .inr (.inl a), .inr (.inl b)] I (fun r I' => I' = I ∧ r = some (.inr (.inl (max a b)))) := by
  refine am_enter ok_wt_together rfl ?_
  repeat' (first
    | (refine am_gp 80 [] rfl (by first | trivial | exact Or.inl rfl | exact Or.inr rfl | (simp (decide := true) only [am_p, am_u_at, am_u_j, am_u_ne]; omega) | (simp (decide := true) only [am_p, and_true, true_and, true_or, or_true, am_u_at, am_u_j, am_u_ne]; omega) | (simp (decide := true) [am_p, am_u_at, am_u_j, am_u_ne]; omega)) ?_)
    | (show am_V _ _ _ _ _ _ _; simp only [Int.reduceToNat])
    | (refine am_bt rfl (by first | omega | (simp (decide := true) only [am_u_at, am_u_j, am_u_ne]; omega)) (by first | omega | (simp (decide := true) only [am_u_at, am_u_j, am_u_ne]; omega)) ?_)
    | (refine am_bf rfl (by first | omega | (simp (decide := true) only [am_u_at, am_u_j, am_u_ne]; omega)) (by first | omega | (simp (decide := true) only [am_u_at, am_u_j, am_u_ne]; omega)) ?_)
    | (refine am_br rfl (by first | omega | (simp (decide := true) only [am_u_at, am_u_j, am_u_ne]; omega)) (fun h => ?_) (fun h => ?_))
    | (refine am_maxl rfl mk_wt_17 rfl (by first | omega | (simp (decide := true) only [am_u_at, am_u_j, am_u_ne]; omega)) ?_)
    | (refine am_rt rfl (by first | trivial | exact Or.inl rfl | exact Or.inr rfl) ?_))
  exact ⟨rfl, rfl⟩
def es_ws (w : Nat → Int) (s v : Int) : Int := if v < 0 ∨ 13 ≤ max s (-s) then -1 else v + w (max s (-s)).toNat
theorem c_wt_stepped (d : Nat) (s v : Int) (I : am_I) (hs : -2147483647 ≤ s ∧ s < 2147483648) (hv : -1 ≤ v ∧ v ≤ 1000000000000000000) (hw : ∀ j : Nat, j < 13 → 0 ≤ I 13 j ∧ I 13 j ≤ 1000000) : am_C (d + 1) Y_wt_stepped [.inr (.inr 11), .inl s, .inr (.inl v)] I (fun r I' => I' = I ∧ r = some (.inr (.inl (es_ws (I 13) s v)))) := by
  refine am_enter ok_wt_stepped rfl ?_
  unfold es_ws
  have hw2 : max s (-s) < 13 → 0 ≤ I 13 (max s (-s)).toNat ∧ I 13 (max s (-s)).toNat ≤ 1000000 := fun h => hw _ (by omega)
  repeat' (first
    | (refine am_gp 80 [] rfl (by first | trivial | exact Or.inl rfl | exact Or.inr rfl | (simp (decide := true) only [am_p, am_u_at, am_u_j, am_u_ne]; omega) | (simp (decide := true) only [am_p, and_true, true_and, true_or, or_true, am_u_at, am_u_j, am_u_ne]; omega) | (simp (decide := true) [am_p, am_u_at, am_u_j, am_u_ne]; omega)) ?_)
    | (show am_V _ _ _ _ _ _ _; simp only [Int.reduceToNat])
    | (refine am_bt rfl (by first | omega | (simp (decide := true) only [am_u_at, am_u_j, am_u_ne]; omega)) (by first | omega | (simp (decide := true) only [am_u_at, am_u_j, am_u_ne]; omega)) ?_)
    | (refine am_bf rfl (by first | omega | (simp (decide := true) only [am_u_at, am_u_j, am_u_ne]; omega)) (by first | omega | (simp (decide := true) only [am_u_at, am_u_j, am_u_ne]; omega)) ?_)
    | (refine am_br rfl (by first | omega | (simp (decide := true) only [am_u_at, am_u_j, am_u_ne]; omega)) (fun h => ?_) (fun h => ?_))
    | (refine am_absi rfl mk_wt_23 rfl (by first | omega | (simp (decide := true) only [am_u_at, am_u_j, am_u_ne]; omega)) ?_)
    | (refine am_cV (y' := Y_wt_ofNone) rfl lk_wt_27_wt ok_wt_ofNone rfl rfl rfl (c_wt_ofNone _ _) ?_; rintro r I ⟨rfl, rfl⟩)
    | (refine am_rt rfl (by first | trivial | exact Or.inl rfl | exact Or.inr rfl) ?_))
  all_goals (refine ⟨rfl, ?_⟩)
  all_goals (split <;> first | rfl | omega)
theorem c_wt_index (d : Nat) (p q t : Int) (I : am_I) : am_C d Y_mt_index [.inr (.inr 11), .inl p, .inl q, .inl t] I (fun r I' => I' = I ∧ r = some (.inl ((p * 37 + q - I 7 1) * 18 + t))) := by
  refine am_enter ok_mt_index rfl ?_
  repeat' (first
    | (refine am_gp 80 [] rfl (by first | trivial | exact Or.inl rfl | exact Or.inr rfl | (simp (decide := true) only [am_p, am_u_at, am_u_j, am_u_ne]; omega) | (simp (decide := true) only [am_p, and_true, true_and, true_or, or_true, am_u_at, am_u_j, am_u_ne]; omega) | (simp (decide := true) [am_p, am_u_at, am_u_j, am_u_ne]; omega)) ?_)
    | (show am_V _ _ _ _ _ _ _; simp only [Int.reduceToNat])
    | (refine am_bt rfl (by first | omega | (simp (decide := true) only [am_u_at, am_u_j, am_u_ne]; omega)) (by first | omega | (simp (decide := true) only [am_u_at, am_u_j, am_u_ne]; omega)) ?_)
    | (refine am_bf rfl (by first | omega | (simp (decide := true) only [am_u_at, am_u_j, am_u_ne]; omega)) (by first | omega | (simp (decide := true) only [am_u_at, am_u_j, am_u_ne]; omega)) ?_)
    | (refine am_br rfl (by first | omega | (simp (decide := true) only [am_u_at, am_u_j, am_u_ne]; omega)) (fun h => ?_) (fun h => ?_))
    | (refine am_rt rfl (by first | trivial | exact Or.inl rfl | exact Or.inr rfl) ?_))
  exact ⟨rfl, rfl⟩
theorem c_wt_put (d : Nat) (p q t v : Int) (I : am_I) (hi : 0 ≤ (p * 37 + q - I 7 1) * 18 + t ∧ (p * 37 + q - I 7 1) * 18 + t < 10656) : am_C (d + 1) Y_mt_put [.inr (.inr 11), .inl p, .inl q, .inl t, .inr (.inl v)] I (fun r I' => r = none ∧ I' = am_u I 12 ((p * 37 + q - I 7 1) * 18 + t).toNat v) := by
  refine am_enter ok_mt_put rfl ?_
  repeat' (first
    | (refine am_gp 80 [] rfl (by first | trivial | exact Or.inl rfl | exact Or.inr rfl | (simp (decide := true) only [am_p, am_u_at, am_u_j, am_u_ne]; omega) | (simp (decide := true) only [am_p, and_true, true_and, true_or, or_true, am_u_at, am_u_j, am_u_ne]; omega) | (simp (decide := true) [am_p, am_u_at, am_u_j, am_u_ne]; omega)) ?_)
    | (show am_V _ _ _ _ _ _ _; simp only [Int.reduceToNat])
    | (refine am_bt rfl (by first | omega | (simp (decide := true) only [am_u_at, am_u_j, am_u_ne]; omega)) (by first | omega | (simp (decide := true) only [am_u_at, am_u_j, am_u_ne]; omega)) ?_)
    | (refine am_bf rfl (by first | omega | (simp (decide := true) only [am_u_at, am_u_j, am_u_ne]; omega)) (by first | omega | (simp (decide := true) only [am_u_at, am_u_j, am_u_ne]; omega)) ?_)
    | (refine am_br rfl (by first | omega | (simp (decide := true) only [am_u_at, am_u_j, am_u_ne]; omega)) (fun h => ?_) (fun h => ?_))
    | (refine am_cV (y' := Y_mt_index) rfl lk_mt_75_wt ok_mt_index rfl rfl rfl (c_wt_index _ _ _ _ _) ?_; rintro r I ⟨rfl, rfl⟩)
    | (refine am_cN (y' := Y_es_outside) rfl lk_mt_79 ok_es_outside rfl rfl (c_outside _ _ _ _ _ (by first | omega | (simp (decide := true) only [am_u_at, am_u_j, am_u_ne]; omega)) (by first | omega | (simp (decide := true) only [am_u_at, am_u_j, am_u_ne]; omega)) (by first | omega | (simp (decide := true) only [am_u_at, am_u_j, am_u_ne]; omega))) ?_; rintro r I ⟨rfl, (⟨rfl, h⟩ | ⟨rfl, h⟩)⟩ <;> (try (exfalso; omega)))
    | (refine am_rt rfl (by first | trivial | exact Or.inl rfl | exact Or.inr rfl) ?_))
  exact ⟨rfl, rfl⟩
theorem c_wt_from (d : Nat) (p q t : Int) (I : am_I) (hi : 0 ≤ (p * 37 + q - I 7 1) * 18 + t ∧ (p * 37 + q - I 7 1) * 18 + t < 10656) : am_C (d + 1) Y_mt_from [.inr (.inr 11), .inl p, .inl q, .inl t] I (fun r I' => I' = I ∧ r = some (.inr (.inl (I 12 ((p * 37 + q - I 7 1) * 18 + t).toNat)))) := by
  refine am_enter ok_mt_from rfl ?_
  repeat' (first
    | (refine am_gp 80 [] rfl (by first | trivial | exact Or.inl rfl | exact Or.inr rfl | (simp (decide := true) only [am_p, am_u_at, am_u_j, am_u_ne]; omega) | (simp (decide := true) only [am_p, and_true, true_and, true_or, or_true, am_u_at, am_u_j, am_u_ne]; omega) | (simp (decide := true) [am_p, am_u_at, am_u_j, am_u_ne]; omega)) ?_)
    | (show am_V _ _ _ _ _ _ _; simp only [Int.reduceToNat])
    | (refine am_bt rfl (by first | omega | (simp (decide := true) only [am_u_at, am_u_j, am_u_ne]; omega)) (by first | omega | (simp (decide := true) only [am_u_at, am_u_j, am_u_ne]; omega)) ?_)
    | (refine am_bf rfl (by first | omega | (simp (decide := true) only [am_u_at, am_u_j, am_u_ne]; omega)) (by first | omega | (simp (decide := true) only [am_u_at, am_u_j, am_u_ne]; omega)) ?_)
    | (refine am_br rfl (by first | omega | (simp (decide := true) only [am_u_at, am_u_j, am_u_ne]; omega)) (fun h => ?_) (fun h => ?_))
    | (refine am_cV (y' := Y_mt_index) rfl lk_mt_75_wt ok_mt_index rfl rfl rfl (c_wt_index _ _ _ _ _) ?_; rintro r I ⟨rfl, rfl⟩)
    | (refine am_cN (y' := Y_es_outside) rfl lk_mt_79 ok_es_outside rfl rfl (c_outside _ _ _ _ _ (by first | omega | (simp (decide := true) only [am_u_at, am_u_j, am_u_ne]; omega)) (by first | omega | (simp (decide := true) only [am_u_at, am_u_j, am_u_ne]; omega)) (by first | omega | (simp (decide := true) only [am_u_at, am_u_j, am_u_ne]; omega))) ?_; rintro r I ⟨rfl, (⟨rfl, h⟩ | ⟨rfl, h⟩)⟩ <;> (try (exfalso; omega)))
    | (refine am_cU (y' := Y_wt_ofNone) rfl lk_mt_43_wt ok_wt_ofNone rfl rfl rfl (c_wt_ofNone _ _) ?_; rintro r I ⟨rfl, rfl⟩)
    | (refine am_rt rfl (by first | trivial | exact Or.inl rfl | exact Or.inr rfl) ?_))
  exact ⟨rfl, rfl⟩
end
section
def es_rb (I : am_I) : Prop := (0 ≤ I 7 1 ∧ I 7 1 ≤ I 7 2 ∧ I 7 2 ≤ 127 ∧ I 7 2 - I 7 1 ≤ 36) ∧ (1 ≤ I 7 3 ∧ I 7 3 ≤ 16) ∧ (1 ≤ I 7 4 ∧ I 7 4 ≤ 13) ∧ (0 ≤ I 7 5 ∧ I 7 5 ≤ 15)
theorem c_ct_byStep (d : Nat) (p q t s : Int) (I : am_I) (hr : es_rb I) (hp : 0 ≤ p ∧ p < 15) (hq : I 7 1 ≤ q ∧ q ≤ I 7 2) (ht : 0 ≤ t ∧ t ≤ 17) (hs : -1000 ≤ s ∧ s ≤ 1000) : am_C (d + 2) Y_mt_byStep [.inr (.inr 9), .inl p, .inl q, .inl t, .inl s] I (fun r I' => I' = I ∧ (((I 7 1 ≤ q + s ∧ q + s ≤ I 7 2 ∧ es_may (I 8 3) (I 7 5) t s) ∧ r = some (.inr (.inl (I 10 (((p + 1) * 37 + (q + s) - I 7 1) * 18 + es_nx (I 7 4) t s).toNat)))) ∨ (¬ (I 7 1 ≤ q + s ∧ q + s ≤ I 7 2 ∧ es_may (I 8 3) (I 7 5) t s) ∧ r = some (.inr (.inl (0)))))) := by
  refine am_enter ok_mt_byStep rfl ?_
  obtain ⟨r1, r2, r3, r4⟩ := id hr
  have hnx := es_nx_rng_ct (I 7 4) t s r3 ht
  skip
  repeat' (first
    | (refine am_gp 80 [] rfl (by first | trivial | exact Or.inl rfl | exact Or.inr rfl | (simp (decide := true) only [am_p, am_u_at, am_u_j, am_u_ne]; omega) | (simp (decide := true) only [am_p, and_true, true_and, true_or, or_true, am_u_at, am_u_j, am_u_ne]; omega) | (simp (decide := true) [am_p, am_u_at, am_u_j, am_u_ne]; omega)) ?_)
    | (show am_V _ _ _ _ _ _ _; simp only [Int.reduceToNat])
    | (refine am_bt rfl (by first | omega | (simp (decide := true) only [am_u_at, am_u_j, am_u_ne]; omega)) (by first | omega | (simp (decide := true) only [am_u_at, am_u_j, am_u_ne]; omega)) ?_)
    | (refine am_bf rfl (by first | omega | (simp (decide := true) only [am_u_at, am_u_j, am_u_ne]; omega)) (by first | omega | (simp (decide := true) only [am_u_at, am_u_j, am_u_ne]; omega)) ?_)
    | (refine am_br rfl (by first | omega | (simp (decide := true) only [am_u_at, am_u_j, am_u_ne]; omega)) (fun h => ?_) (fun h => ?_))
    | (refine am_cN (y' := Y_es_outside) rfl lk_mt_79 ok_es_outside rfl rfl (c_outside _ _ _ _ _ (by first | omega | (simp (decide := true) only [am_u_at, am_u_j, am_u_ne]; omega)) (by first | omega | (simp (decide := true) only [am_u_at, am_u_j, am_u_ne]; omega)) (by first | omega | (simp (decide := true) only [am_u_at, am_u_j, am_u_ne]; omega))) ?_; rintro r I ⟨rfl, (⟨rfl, h⟩ | ⟨rfl, h⟩)⟩ <;> (try (exfalso; omega)))
    | (refine am_cV (y' := Y_ru_mayStep) rfl lk_mt_83 ok_ru_mayStep rfl rfl rfl (c_mayStep _ _ _ _ (by first | omega | (simp (decide := true) only [am_u_at, am_u_j, am_u_ne]; omega)) (by first | omega | (simp (decide := true) only [am_u_at, am_u_j, am_u_ne]; omega)) (by first | omega | (simp (decide := true) only [am_u_at, am_u_j, am_u_ne]; omega))) ?_; rintro r I ⟨rfl, (⟨rfl, h⟩ | ⟨rfl, h⟩)⟩ <;> (try (exfalso; omega)))
    | (refine am_cU (y' := Y_ct_ofNone) rfl lk_mt_43_ct ok_ct_ofNone rfl rfl rfl (c_ct_ofNone _ _) ?_; rintro r I ⟨rfl, rfl⟩)
    | (refine am_cV (y' := Y_ru_stateBehind) rfl lk_mt_86 ok_ru_stateBehind rfl rfl rfl (c_stateBehind _ _ _ _ (by first | omega | (simp (decide := true) only [am_u_at, am_u_j, am_u_ne]; omega)) (by first | omega | (simp (decide := true) only [am_u_at, am_u_j, am_u_ne]; omega)) (by first | omega | (simp (decide := true) only [am_u_at, am_u_j, am_u_ne]; omega))) ?_; rintro r I ⟨rfl, rfl⟩)
    | (refine am_cU (y' := Y_mt_from) rfl lk_mt_89_ct ok_mt_from rfl rfl rfl (c_ct_from _ _ _ _ _ (by first | omega | (simp (decide := true) only [am_u_at, am_u_j, am_u_ne]; omega))) ?_; rintro r I ⟨rfl, rfl⟩)
    | (refine am_cU (y' := Y_ct_stepped) rfl lk_mt_93_ct ok_ct_stepped rfl rfl rfl (c_ct_stepped _ _ _ _) ?_; rintro r I ⟨rfl, rfl⟩)
    | (refine am_rt rfl (by first | trivial | exact Or.inl rfl | exact Or.inr rfl) ?_))
  all_goals first
    | exact ⟨rfl, Or.inl ⟨⟨by omega, by omega, by assumption⟩, rfl⟩⟩
    | exact ⟨rfl, Or.inr ⟨fun hc => by first | omega | exact absurd hc.2.2 (by assumption), rfl⟩⟩
theorem c_ct_stateAt (d : Nat) (p b t q : Int) (I : am_I) (hr : es_rb I) (hp : 0 ≤ p ∧ p < 16) (hb : 0 ≤ b ∧ b ≤ 127) (ht : 0 ≤ t ∧ t ≤ 17) (hq : 0 ≤ q ∧ q ≤ 127) : am_C (d + 2) Y_mt_stateAt [.inr (.inr 9), .inl p, .inl b, .inl t, .inl q] I (fun r I' => I' = I ∧ ((p = 0 ∧ r = some (.inl 0)) ∨ (0 < p ∧ r = some (.inl (es_nx (I 7 4) t (q - b)))))) := by
  refine am_enter ok_mt_stateAt rfl ?_
  obtain ⟨r1, r2, r3, r4⟩ := id hr
  repeat' (first
    | (refine am_gp 80 [] rfl (by first | trivial | exact Or.inl rfl | exact Or.inr rfl | (simp (decide := true) only [am_p, am_u_at, am_u_j, am_u_ne]; omega) | (simp (decide := true) only [am_p, and_true, true_and, true_or, or_true, am_u_at, am_u_j, am_u_ne]; omega) | (simp (decide := true) [am_p, am_u_at, am_u_j, am_u_ne]; omega)) ?_)
    | (show am_V _ _ _ _ _ _ _; simp only [Int.reduceToNat])
    | (refine am_bt rfl (by first | omega | (simp (decide := true) only [am_u_at, am_u_j, am_u_ne]; omega)) (by first | omega | (simp (decide := true) only [am_u_at, am_u_j, am_u_ne]; omega)) ?_)
    | (refine am_bf rfl (by first | omega | (simp (decide := true) only [am_u_at, am_u_j, am_u_ne]; omega)) (by first | omega | (simp (decide := true) only [am_u_at, am_u_j, am_u_ne]; omega)) ?_)
    | (refine am_br rfl (by first | omega | (simp (decide := true) only [am_u_at, am_u_j, am_u_ne]; omega)) (fun h => ?_) (fun h => ?_))
    | (refine am_cV (y' := Y_ru_stateBehind) rfl lk_mt_86 ok_ru_stateBehind rfl rfl rfl (c_stateBehind _ _ _ _ (by first | omega | (simp (decide := true) only [am_u_at, am_u_j, am_u_ne]; omega)) (by first | omega | (simp (decide := true) only [am_u_at, am_u_j, am_u_ne]; omega)) (by first | omega | (simp (decide := true) only [am_u_at, am_u_j, am_u_ne]; omega))) ?_; rintro r I ⟨rfl, rfl⟩)
    | (refine am_rt rfl (by first | trivial | exact Or.inl rfl | exact Or.inr rfl) ?_))
  all_goals first
    | exact ⟨rfl, Or.inl ⟨by omega, rfl⟩⟩
    | exact ⟨rfl, Or.inr ⟨by omega, rfl⟩⟩
theorem c_ct_onward (d : Nat) (p b t q : Int) (I : am_I) (hr : es_rb I) (hp : 0 ≤ p ∧ p < 16) (hb : I 7 1 ≤ b ∧ b ≤ I 7 2) (ht : 0 ≤ t ∧ t ≤ 17) (hq : 0 ≤ q ∧ q ≤ 127) : am_C (d + 3) Y_mt_onward [.inr (.inr 9), .inl p, .inl b, .inl t, .inl q] I (fun r I' => I' = I ∧ (((p = 0 ∧ I 7 1 ≤ q ∧ q ≤ I 7 2) ∧ r = some (.inr (.inl (I 10 ((q - I 7 1) * 18).toNat)))) ∨ ((0 < p ∧ I 7 1 ≤ q ∧ q ≤ I 7 2 ∧ es_may (I 8 3) (I 7 5) t (q - b)) ∧ r = some (.inr (.inl (I 10 ((p * 37 + q - I 7 1) * 18 + es_nx (I 7 4) t (q - b)).toNat)))) ∨ (¬ ((p = 0 ∧ I 7 1 ≤ q ∧ q ≤ I 7 2) ∨ (0 < p ∧ I 7 1 ≤ q ∧ q ≤ I 7 2 ∧ es_may (I 8 3) (I 7 5) t (q - b))) ∧ r = some (.inr (.inl (0)))))) := by
  refine am_enter ok_mt_onward rfl ?_
  obtain ⟨r1, r2, r3, r4⟩ := id hr
  repeat' (first
    | (refine am_gp 80 [] rfl (by first | trivial | exact Or.inl rfl | exact Or.inr rfl | (simp (decide := true) only [am_p, am_u_at, am_u_j, am_u_ne]; omega) | (simp (decide := true) only [am_p, and_true, true_and, true_or, or_true, am_u_at, am_u_j, am_u_ne]; omega) | (simp (decide := true) [am_p, am_u_at, am_u_j, am_u_ne]; omega)) ?_)
    | (show am_V _ _ _ _ _ _ _; simp only [Int.reduceToNat])
    | (refine am_bt rfl (by first | omega | (simp (decide := true) only [am_u_at, am_u_j, am_u_ne]; omega)) (by first | omega | (simp (decide := true) only [am_u_at, am_u_j, am_u_ne]; omega)) ?_)
    | (refine am_bf rfl (by first | omega | (simp (decide := true) only [am_u_at, am_u_j, am_u_ne]; omega)) (by first | omega | (simp (decide := true) only [am_u_at, am_u_j, am_u_ne]; omega)) ?_)
    | (refine am_br rfl (by first | omega | (simp (decide := true) only [am_u_at, am_u_j, am_u_ne]; omega)) (fun h => ?_) (fun h => ?_))
    | (refine am_cN (y' := Y_es_outside) rfl lk_mt_79 ok_es_outside rfl rfl (c_outside _ _ _ _ _ (by first | omega | (simp (decide := true) only [am_u_at, am_u_j, am_u_ne]; omega)) (by first | omega | (simp (decide := true) only [am_u_at, am_u_j, am_u_ne]; omega)) (by first | omega | (simp (decide := true) only [am_u_at, am_u_j, am_u_ne]; omega))) ?_; rintro r I ⟨rfl, (⟨rfl, h⟩ | ⟨rfl, h⟩)⟩ <;> (try (exfalso; omega)))
    | (refine am_cU (y' := Y_ct_ofNone) rfl lk_mt_43_ct ok_ct_ofNone rfl rfl rfl (c_ct_ofNone _ _) ?_; rintro r I ⟨rfl, rfl⟩)
    | (refine am_cU (y' := Y_mt_from) rfl lk_mt_89_ct ok_mt_from rfl rfl rfl (c_ct_from _ _ _ _ _ (by first | omega | (simp (decide := true) only [am_u_at, am_u_j, am_u_ne]; omega))) ?_; rintro r I ⟨rfl, rfl⟩)
    | (refine am_cV (y' := Y_mt_byStep) rfl lk_mt_54_ct ok_mt_byStep rfl rfl rfl (c_ct_byStep _ _ _ _ _ _ (by assumption) (by first | omega | (simp (decide := true) only [am_u_at, am_u_j, am_u_ne]; omega)) (by first | omega | (simp (decide := true) only [am_u_at, am_u_j, am_u_ne]; omega)) (by first | omega | (simp (decide := true) only [am_u_at, am_u_j, am_u_ne]; omega)) (by first | omega | (simp (decide := true) only [am_u_at, am_u_j, am_u_ne]; omega)) ) ?_; rintro r I ⟨rfl, (⟨h, rfl⟩ | ⟨h, rfl⟩)⟩ <;> (try (exfalso; omega)))
    | (refine am_rt rfl (by first | trivial | exact Or.inl rfl | exact Or.inr rfl) ?_))
  all_goals refine ⟨rfl, ?_⟩
  all_goals first
    | (refine Or.inl ⟨by omega, ?_⟩; rw [show (0 * 37 + q - I 7 1) * 18 + 0 = (q - I 7 1) * 18 by omega]; done)
    | (refine Or.inr (Or.inl ⟨⟨by omega, by omega, by omega, h.2.2⟩, ?_⟩); rw [show p - 1 + 1 = p by omega, show b + (q - b) = q by omega]; done)
    | (refine Or.inr (Or.inr ⟨fun hc => ?_, rfl⟩); rcases hc with hc | hc <;> first | omega | exact h ⟨by omega, by omega, hc.2.2.2⟩)
end
section
theorem c_wt_byStep (d : Nat) (p q t s : Int) (I : am_I) (hr : es_rb I) (hp : 0 ≤ p ∧ p < 15) (hq : I 7 1 ≤ q ∧ q ≤ I 7 2) (ht : 0 ≤ t ∧ t ≤ 17) (hs : -1000 ≤ s ∧ s ≤ 1000) (hv : ∀ j : Nat, -1 ≤ I 12 j ∧ I 12 j ≤ 1000000000) (hw : ∀ j : Nat, j < 13 → 0 ≤ I 13 j ∧ I 13 j ≤ 1000000) : am_C (d + 2) Y_mt_byStep [.inr (.inr 11), .inl p, .inl q, .inl t, .inl s] I (fun r I' => I' = I ∧ (((I 7 1 ≤ q + s ∧ q + s ≤ I 7 2 ∧ es_may (I 8 3) (I 7 5) t s) ∧ r = some (.inr (.inl (es_ws (I 13) s (I 12 (((p + 1) * 37 + (q + s) - I 7 1) * 18 + es_nx (I 7 4) t s).toNat))))) ∨ (¬ (I 7 1 ≤ q + s ∧ q + s ≤ I 7 2 ∧ es_may (I 8 3) (I 7 5) t s) ∧ r = some (.inr (.inl (-1)))))) := by
  refine am_enter ok_mt_byStep rfl ?_
  obtain ⟨r1, r2, r3, r4⟩ := id hr
  have hnx := es_nx_rng_wt (I 7 4) t s r3 ht
  have hv1 := hv (((p + 1) * 37 + (q + s) - I 7 1) * 18 + es_nx (I 7 4) t s).toNat
  repeat' (first
    | (refine am_gp 80 [] rfl (by first | trivial | exact Or.inl rfl | exact Or.inr rfl | (simp (decide := true) only [am_p, am_u_at, am_u_j, am_u_ne]; omega) | (simp (decide := true) only [am_p, and_true, true_and, true_or, or_true, am_u_at, am_u_j, am_u_ne]; omega) | (simp (decide := true) [am_p, am_u_at, am_u_j, am_u_ne]; omega)) ?_)
    | (show am_V _ _ _ _ _ _ _; simp only [Int.reduceToNat])
    | (refine am_bt rfl (by first | omega | (simp (decide := true) only [am_u_at, am_u_j, am_u_ne]; omega)) (by first | omega | (simp (decide := true) only [am_u_at, am_u_j, am_u_ne]; omega)) ?_)
    | (refine am_bf rfl (by first | omega | (simp (decide := true) only [am_u_at, am_u_j, am_u_ne]; omega)) (by first | omega | (simp (decide := true) only [am_u_at, am_u_j, am_u_ne]; omega)) ?_)
    | (refine am_br rfl (by first | omega | (simp (decide := true) only [am_u_at, am_u_j, am_u_ne]; omega)) (fun h => ?_) (fun h => ?_))
    | (refine am_cN (y' := Y_es_outside) rfl lk_mt_79 ok_es_outside rfl rfl (c_outside _ _ _ _ _ (by first | omega | (simp (decide := true) only [am_u_at, am_u_j, am_u_ne]; omega)) (by first | omega | (simp (decide := true) only [am_u_at, am_u_j, am_u_ne]; omega)) (by first | omega | (simp (decide := true) only [am_u_at, am_u_j, am_u_ne]; omega))) ?_; rintro r I ⟨rfl, (⟨rfl, h⟩ | ⟨rfl, h⟩)⟩ <;> (try (exfalso; omega)))
    | (refine am_cV (y' := Y_ru_mayStep) rfl lk_mt_83 ok_ru_mayStep rfl rfl rfl (c_mayStep _ _ _ _ (by first | omega | (simp (decide := true) only [am_u_at, am_u_j, am_u_ne]; omega)) (by first | omega | (simp (decide := true) only [am_u_at, am_u_j, am_u_ne]; omega)) (by first | omega | (simp (decide := true) only [am_u_at, am_u_j, am_u_ne]; omega))) ?_; rintro r I ⟨rfl, (⟨rfl, h⟩ | ⟨rfl, h⟩)⟩ <;> (try (exfalso; omega)))
    | (refine am_cU (y' := Y_wt_ofNone) rfl lk_mt_43_wt ok_wt_ofNone rfl rfl rfl (c_wt_ofNone _ _) ?_; rintro r I ⟨rfl, rfl⟩)
    | (refine am_cV (y' := Y_ru_stateBehind) rfl lk_mt_86 ok_ru_stateBehind rfl rfl rfl (c_stateBehind _ _ _ _ (by first | omega | (simp (decide := true) only [am_u_at, am_u_j, am_u_ne]; omega)) (by first | omega | (simp (decide := true) only [am_u_at, am_u_j, am_u_ne]; omega)) (by first | omega | (simp (decide := true) only [am_u_at, am_u_j, am_u_ne]; omega))) ?_; rintro r I ⟨rfl, rfl⟩)
    | (refine am_cU (y' := Y_mt_from) rfl lk_mt_89_wt ok_mt_from rfl rfl rfl (c_wt_from _ _ _ _ _ (by first | omega | (simp (decide := true) only [am_u_at, am_u_j, am_u_ne]; omega))) ?_; rintro r I ⟨rfl, rfl⟩)
    | (refine am_cU (y' := Y_wt_stepped) rfl lk_mt_93_wt ok_wt_stepped rfl rfl rfl (c_wt_stepped _ _ _ _ (by first | omega | (simp (decide := true) only [am_u_at, am_u_j, am_u_ne]; omega)) (by first | omega | (simp (decide := true) only [am_u_at, am_u_j, am_u_ne]; omega)) (by assumption)) ?_; rintro r I ⟨rfl, rfl⟩)
    | (refine am_rt rfl (by first | trivial | exact Or.inl rfl | exact Or.inr rfl) ?_))
  all_goals first
    | exact ⟨rfl, Or.inl ⟨⟨by omega, by omega, by assumption⟩, rfl⟩⟩
    | exact ⟨rfl, Or.inr ⟨fun hc => by first | omega | exact absurd hc.2.2 (by assumption), rfl⟩⟩
theorem c_wt_stateAt (d : Nat) (p b t q : Int) (I : am_I) (hr : es_rb I) (hp : 0 ≤ p ∧ p < 16) (hb : 0 ≤ b ∧ b ≤ 127) (ht : 0 ≤ t ∧ t ≤ 17) (hq : 0 ≤ q ∧ q ≤ 127) : am_C (d + 2) Y_mt_stateAt [.inr (.inr 11), .inl p, .inl b, .inl t, .inl q] I (fun r I' => I' = I ∧ ((p = 0 ∧ r = some (.inl 0)) ∨ (0 < p ∧ r = some (.inl (es_nx (I 7 4) t (q - b)))))) := by
  refine am_enter ok_mt_stateAt rfl ?_
  obtain ⟨r1, r2, r3, r4⟩ := id hr
  repeat' (first
    | (refine am_gp 80 [] rfl (by first | trivial | exact Or.inl rfl | exact Or.inr rfl | (simp (decide := true) only [am_p, am_u_at, am_u_j, am_u_ne]; omega) | (simp (decide := true) only [am_p, and_true, true_and, true_or, or_true, am_u_at, am_u_j, am_u_ne]; omega) | (simp (decide := true) [am_p, am_u_at, am_u_j, am_u_ne]; omega)) ?_)
    | (show am_V _ _ _ _ _ _ _; simp only [Int.reduceToNat])
    | (refine am_bt rfl (by first | omega | (simp (decide := true) only [am_u_at, am_u_j, am_u_ne]; omega)) (by first | omega | (simp (decide := true) only [am_u_at, am_u_j, am_u_ne]; omega)) ?_)
    | (refine am_bf rfl (by first | omega | (simp (decide := true) only [am_u_at, am_u_j, am_u_ne]; omega)) (by first | omega | (simp (decide := true) only [am_u_at, am_u_j, am_u_ne]; omega)) ?_)
    | (refine am_br rfl (by first | omega | (simp (decide := true) only [am_u_at, am_u_j, am_u_ne]; omega)) (fun h => ?_) (fun h => ?_))
    | (refine am_cV (y' := Y_ru_stateBehind) rfl lk_mt_86 ok_ru_stateBehind rfl rfl rfl (c_stateBehind _ _ _ _ (by first | omega | (simp (decide := true) only [am_u_at, am_u_j, am_u_ne]; omega)) (by first | omega | (simp (decide := true) only [am_u_at, am_u_j, am_u_ne]; omega)) (by first | omega | (simp (decide := true) only [am_u_at, am_u_j, am_u_ne]; omega))) ?_; rintro r I ⟨rfl, rfl⟩)
    | (refine am_rt rfl (by first | trivial | exact Or.inl rfl | exact Or.inr rfl) ?_))
  all_goals first
    | exact ⟨rfl, Or.inl ⟨by omega, rfl⟩⟩
    | exact ⟨rfl, Or.inr ⟨by omega, rfl⟩⟩
theorem c_wt_onward (d : Nat) (p b t q : Int) (I : am_I) (hr : es_rb I) (hp : 0 ≤ p ∧ p < 16) (hb : I 7 1 ≤ b ∧ b ≤ I 7 2) (ht : 0 ≤ t ∧ t ≤ 17) (hq : 0 ≤ q ∧ q ≤ 127) (hv : ∀ j : Nat, -1 ≤ I 12 j ∧ I 12 j ≤ 1000000000) (hw : ∀ j : Nat, j < 13 → 0 ≤ I 13 j ∧ I 13 j ≤ 1000000) : am_C (d + 3) Y_mt_onward [.inr (.inr 11), .inl p, .inl b, .inl t, .inl q] I (fun r I' => I' = I ∧ (((p = 0 ∧ I 7 1 ≤ q ∧ q ≤ I 7 2) ∧ r = some (.inr (.inl (I 12 ((q - I 7 1) * 18).toNat)))) ∨ ((0 < p ∧ I 7 1 ≤ q ∧ q ≤ I 7 2 ∧ es_may (I 8 3) (I 7 5) t (q - b)) ∧ r = some (.inr (.inl (es_ws (I 13) (q - b) (I 12 ((p * 37 + q - I 7 1) * 18 + es_nx (I 7 4) t (q - b)).toNat))))) ∨ (¬ ((p = 0 ∧ I 7 1 ≤ q ∧ q ≤ I 7 2) ∨ (0 < p ∧ I 7 1 ≤ q ∧ q ≤ I 7 2 ∧ es_may (I 8 3) (I 7 5) t (q - b))) ∧ r = some (.inr (.inl (-1)))))) := by
  refine am_enter ok_mt_onward rfl ?_
  obtain ⟨r1, r2, r3, r4⟩ := id hr
  repeat' (first
    | (refine am_gp 80 [] rfl (by first | trivial | exact Or.inl rfl | exact Or.inr rfl | (simp (decide := true) only [am_p, am_u_at, am_u_j, am_u_ne]; omega) | (simp (decide := true) only [am_p, and_true, true_and, true_or, or_true, am_u_at, am_u_j, am_u_ne]; omega) | (simp (decide := true) [am_p, am_u_at, am_u_j, am_u_ne]; omega)) ?_)
    | (show am_V _ _ _ _ _ _ _; simp only [Int.reduceToNat])
    | (refine am_bt rfl (by first | omega | (simp (decide := true) only [am_u_at, am_u_j, am_u_ne]; omega)) (by first | omega | (simp (decide := true) only [am_u_at, am_u_j, am_u_ne]; omega)) ?_)
    | (refine am_bf rfl (by first | omega | (simp (decide := true) only [am_u_at, am_u_j, am_u_ne]; omega)) (by first | omega | (simp (decide := true) only [am_u_at, am_u_j, am_u_ne]; omega)) ?_)
    | (refine am_br rfl (by first | omega | (simp (decide := true) only [am_u_at, am_u_j, am_u_ne]; omega)) (fun h => ?_) (fun h => ?_))
    | (refine am_cN (y' := Y_es_outside) rfl lk_mt_79 ok_es_outside rfl rfl (c_outside _ _ _ _ _ (by first | omega | (simp (decide := true) only [am_u_at, am_u_j, am_u_ne]; omega)) (by first | omega | (simp (decide := true) only [am_u_at, am_u_j, am_u_ne]; omega)) (by first | omega | (simp (decide := true) only [am_u_at, am_u_j, am_u_ne]; omega))) ?_; rintro r I ⟨rfl, (⟨rfl, h⟩ | ⟨rfl, h⟩)⟩ <;> (try (exfalso; omega)))
    | (refine am_cU (y' := Y_wt_ofNone) rfl lk_mt_43_wt ok_wt_ofNone rfl rfl rfl (c_wt_ofNone _ _) ?_; rintro r I ⟨rfl, rfl⟩)
    | (refine am_cU (y' := Y_mt_from) rfl lk_mt_89_wt ok_mt_from rfl rfl rfl (c_wt_from _ _ _ _ _ (by first | omega | (simp (decide := true) only [am_u_at, am_u_j, am_u_ne]; omega))) ?_; rintro r I ⟨rfl, rfl⟩)
    | (refine am_cV (y' := Y_mt_byStep) rfl lk_mt_54_wt ok_mt_byStep rfl rfl rfl (c_wt_byStep _ _ _ _ _ _ (by assumption) (by first | omega | (simp (decide := true) only [am_u_at, am_u_j, am_u_ne]; omega)) (by first | omega | (simp (decide := true) only [am_u_at, am_u_j, am_u_ne]; omega)) (by first | omega | (simp (decide := true) only [am_u_at, am_u_j, am_u_ne]; omega)) (by first | omega | (simp (decide := true) only [am_u_at, am_u_j, am_u_ne]; omega)) (by assumption) (by assumption)) ?_; rintro r I ⟨rfl, (⟨h, rfl⟩ | ⟨h, rfl⟩)⟩ <;> (try (exfalso; omega)))
    | (refine am_rt rfl (by first | trivial | exact Or.inl rfl | exact Or.inr rfl) ?_))
  all_goals refine ⟨rfl, ?_⟩
  all_goals first
    | (refine Or.inl ⟨by omega, ?_⟩; rw [show (0 * 37 + q - I 7 1) * 18 + 0 = (q - I 7 1) * 18 by omega]; done)
    | (refine Or.inr (Or.inl ⟨⟨by omega, by omega, by omega, h.2.2⟩, ?_⟩); rw [show p - 1 + 1 = p by omega, show b + (q - b) = q by omega]; done)
    | (refine Or.inr (Or.inr ⟨fun hc => ?_, rfl⟩); rcases hc with hc | hc <;> first | omega | exact h ⟨by omega, by omega, hc.2.2.2⟩)
end
section
theorem c_ct_fillStates (d : Nat) (p q v : Int) (I0 : am_I) (hi : 0 ≤ (p * 37 + q - I0 7 1) * 18 ∧ (p * 37 + q - I0 7 1) * 18 + 18 ≤ 10656) : am_C (d + 2) Y_mt_fillStates [.inr (.inr 9), .inl p, .inl q, .inr (.inl v)] I0 (fun r I' => r = none ∧ am_fr I0 I' [10] ∧ ∀ j : Nat, I' 10 j = if (p * 37 + q - I0 7 1) * 18 ≤ j ∧ (j : Int) < (p * 37 + q - I0 7 1) * 18 + 18 then v else I0 10 j) := by
  refine am_enter ok_mt_fillStates rfl ?_
  have loop : ∀ (m : Nat) (t : Int) (I : am_I), 0 ≤ t → t ≤ 18 → 18 - t < m → am_fr I0 I [10] → (∀ j : Nat, I 10 j = if (p * 37 + q - I0 7 1) * 18 ≤ j ∧ (j : Int) < (p * 37 + q - I0 7 1) * 18 + t then v else I0 10 j) → am_V (d + 2) Y_mt_fillStates (fun r I' => r = none ∧ am_fr I0 I' [10] ∧ ∀ j : Nat, I' 10 j = if (p * 37 + q - I0 7 1) * 18 ≤ j ∧ (j : Int) < (p * 37 + q - I0 7 1) * 18 + 18 then v else I0 10 j) 3 [(0, .inr (.inr 9)), (1, .inl p), (2, .inl q), (3, .inr (.inl v)), (5, .inl t)] [] I := by
    intro m
    induction m with
    | zero => intro t I h1 h2 h3; omega
    | succ m ih =>
      intro t I h1 h2 h3 hf h5
      have e7 : I 7 1 = I0 7 1 := by rw [hf 7 rfl]
      refine am_go 1 [] rfl trivial ?_
      repeat' (first
        | (refine am_gp 80 [3] rfl (by first | trivial | exact Or.inl rfl | exact Or.inr rfl | (simp (decide := true) only [am_p, am_u_at, am_u_j, am_u_ne]; omega) | (simp (decide := true) only [am_p, and_true, true_and, true_or, or_true, am_u_at, am_u_j, am_u_ne]; omega) | (simp (decide := true) [am_p, am_u_at, am_u_j, am_u_ne]; omega)) ?_)
        | (show am_V _ _ _ _ _ _ _; simp only [Int.reduceToNat])
        | (refine am_bt rfl (by first | omega | (simp (decide := true) only [am_u_at, am_u_j, am_u_ne]; omega)) (by first | omega | (simp (decide := true) only [am_u_at, am_u_j, am_u_ne]; omega)) ?_)
        | (refine am_bf rfl (by first | omega | (simp (decide := true) only [am_u_at, am_u_j, am_u_ne]; omega)) (by first | omega | (simp (decide := true) only [am_u_at, am_u_j, am_u_ne]; omega)) ?_)
        | (refine am_br rfl (by first | omega | (simp (decide := true) only [am_u_at, am_u_j, am_u_ne]; omega)) (fun h => ?_) (fun h => ?_))
        | (refine am_cV (y' := Y_mt_put) rfl lk_mt_71_ct ok_mt_put rfl rfl rfl (c_ct_put _ _ _ _ _ _ (by first | omega | (simp (decide := true) only [am_u_at, am_u_j, am_u_ne]; omega))) ?_; rintro r I ⟨rfl, rfl⟩)
        | (refine am_rt rfl (by first | trivial | exact Or.inl rfl | exact Or.inr rfl) ?_))
      · have et : t = 18 := by omega
        subst et
        exact ⟨rfl, hf, h5⟩
      · refine ih (t + 1) _ (by omega) (by omega) (by omega) (hf.u _ _ rfl) ?_
        intro j
        rw [am_u_eq, e7]
        by_cases c : j = ((p * 37 + q - I0 7 1) * 18 + t).toNat
        · rw [c, am_up_eq, if_pos (by omega)]
        · rw [am_up_ne c, h5 j]
          by_cases c2 : (p * 37 + q - I0 7 1) * 18 ≤ j ∧ (j : Int) < (p * 37 + q - I0 7 1) * 18 + t
          · rw [if_pos c2, if_pos (by omega)]
          · rw [if_neg c2, if_neg (by omega)]
  repeat' (first
    | (refine am_gp 80 [3] rfl (by first | trivial | exact Or.inl rfl | exact Or.inr rfl | (simp (decide := true) only [am_p, am_u_at, am_u_j, am_u_ne]; omega) | (simp (decide := true) only [am_p, and_true, true_and, true_or, or_true, am_u_at, am_u_j, am_u_ne]; omega) | (simp (decide := true) [am_p, am_u_at, am_u_j, am_u_ne]; omega)) ?_)
    | (show am_V _ _ _ _ _ _ _; simp only [Int.reduceToNat])
    | (refine am_bt rfl (by first | omega | (simp (decide := true) only [am_u_at, am_u_j, am_u_ne]; omega)) (by first | omega | (simp (decide := true) only [am_u_at, am_u_j, am_u_ne]; omega)) ?_)
    | (refine am_bf rfl (by first | omega | (simp (decide := true) only [am_u_at, am_u_j, am_u_ne]; omega)) (by first | omega | (simp (decide := true) only [am_u_at, am_u_j, am_u_ne]; omega)) ?_)
    | (refine am_br rfl (by first | omega | (simp (decide := true) only [am_u_at, am_u_j, am_u_ne]; omega)) (fun h => ?_) (fun h => ?_))
    | (refine am_rt rfl (by first | trivial | exact Or.inl rfl | exact Or.inr rfl) ?_))
  refine loop 19 0 _ (by omega) (by omega) (by omega) am_fr.rf ?_
  intro j
  rw [if_neg (by omega)]
def es_cf (f : Int → Int) (a : Int) : Nat → Int
  | 0 => 0
  | m + 1 => min 1000000000000000000 (es_cf f a m + f (a + m))
theorem es_cf_rng {f : Int → Int} {a : Int} (hf : ∀ x, 0 ≤ f x ∧ f x ≤ 1000000000000000000) : ∀ m : Nat, 0 ≤ es_cf f a m ∧ es_cf f a m ≤ 1000000000000000000
  | 0 => by unfold es_cf; omega
  | m + 1 => by
    have h1 := es_cf_rng (a := a) hf m
    have h2 := hf (a + m)
    unfold es_cf
    omega
theorem c_ct_total (d : Nat) (I : am_I) (hr : es_rb I) (hv : ∀ j : Nat, 0 ≤ I 10 j ∧ I 10 j ≤ 1000000000000000000) : am_C (d + 3) Y_mt_total [.inr (.inr 9)] I (fun r I' => I' = I ∧ r = some (.inr (.inl (es_cf (fun x => I 10 ((0 * 37 + x - I 7 1) * 18 + 0).toNat) (I 7 1) (I 7 2 + 1 - I 7 1).toNat)))) := by
  refine am_enter ok_mt_total rfl ?_
  obtain ⟨r1, r2, r3, r4⟩ := id hr
  have hfr := es_cf_rng (a := I 7 1) (f := fun x => I 10 ((0 * 37 + x - I 7 1) * 18 + 0).toNat) (fun x => hv _)
  have loop : ∀ (m k : Nat), I 7 1 + k ≤ I 7 2 + 1 → I 7 2 + 1 - (I 7 1 + k) < m → am_V (d + 3) Y_mt_total (fun r I' => I' = I ∧ r = some (.inr (.inl (es_cf (fun x => I 10 ((0 * 37 + x - I 7 1) * 18 + 0).toNat) (I 7 1) (I 7 2 + 1 - I 7 1).toNat)))) 13 [(0, .inr (.inr 9)), (1, .inr (.inl (es_cf (fun x => I 10 ((0 * 37 + x - I 7 1) * 18 + 0).toNat) (I 7 1) k))), (3, .inl (I 7 1 + k))] [] I := by
    intro m
    induction m with
    | zero => intro k h1 h2; omega
    | succ m ih =>
      intro k h1 h2
      have hk := hfr k
      have hv1 := hv ((0 * 37 + (I 7 1 + k) - I 7 1) * 18 + 0).toNat
      refine am_go 1 [] rfl trivial ?_
      repeat' (first
        | (refine am_gp 80 [13] rfl (by first | trivial | exact Or.inl rfl | exact Or.inr rfl | (simp (decide := true) only [am_p, am_u_at, am_u_j, am_u_ne]; omega) | (simp (decide := true) only [am_p, and_true, true_and, true_or, or_true, am_u_at, am_u_j, am_u_ne]; omega) | (simp (decide := true) [am_p, am_u_at, am_u_j, am_u_ne]; omega)) ?_)
        | (show am_V _ _ _ _ _ _ _; simp only [Int.reduceToNat])
        | (refine am_bt rfl (by first | omega | (simp (decide := true) only [am_u_at, am_u_j, am_u_ne]; omega)) (by first | omega | (simp (decide := true) only [am_u_at, am_u_j, am_u_ne]; omega)) ?_)
        | (refine am_bf rfl (by first | omega | (simp (decide := true) only [am_u_at, am_u_j, am_u_ne]; omega)) (by first | omega | (simp (decide := true) only [am_u_at, am_u_j, am_u_ne]; omega)) ?_)
        | (refine am_br rfl (by first | omega | (simp (decide := true) only [am_u_at, am_u_j, am_u_ne]; omega)) (fun h => ?_) (fun h => ?_))
        | (refine am_cU (y' := Y_mt_from) rfl lk_mt_89_ct ok_mt_from rfl rfl rfl (c_ct_from _ _ _ _ _ (by first | omega | (simp (decide := true) only [am_u_at, am_u_j, am_u_ne]; omega))) ?_; rintro r I ⟨rfl, rfl⟩)
        | (refine am_cU (y' := Y_ct_together) rfl lk_mt_58_ct ok_ct_together rfl rfl rfl (c_ct_together _ _ _ _ (by first | omega | (simp (decide := true) only [am_u_at, am_u_j, am_u_ne]; omega)) (by first | omega | (simp (decide := true) only [am_u_at, am_u_j, am_u_ne]; omega))) ?_; rintro r I ⟨rfl, rfl⟩)
        | (refine am_rt rfl (by first | trivial | exact Or.inl rfl | exact Or.inr rfl) ?_))
      · have ek : (I 7 2 + 1 - I 7 1).toNat = k := by omega
        rw [ek]
        exact ⟨rfl, rfl⟩
      · have h9 := ih (k + 1) (by omega) (by omega)
        rw [show I 7 1 + ((k + 1 : Nat) : Int) = I 7 1 + (k : Int) + 1 by omega] at h9
        exact h9
  repeat' (first
    | (refine am_gp 80 [13] rfl (by first | trivial | exact Or.inl rfl | exact Or.inr rfl | (simp (decide := true) only [am_p, am_u_at, am_u_j, am_u_ne]; omega) | (simp (decide := true) only [am_p, and_true, true_and, true_or, or_true, am_u_at, am_u_j, am_u_ne]; omega) | (simp (decide := true) [am_p, am_u_at, am_u_j, am_u_ne]; omega)) ?_)
    | (show am_V _ _ _ _ _ _ _; simp only [Int.reduceToNat])
    | (refine am_bt rfl (by first | omega | (simp (decide := true) only [am_u_at, am_u_j, am_u_ne]; omega)) (by first | omega | (simp (decide := true) only [am_u_at, am_u_j, am_u_ne]; omega)) ?_)
    | (refine am_bf rfl (by first | omega | (simp (decide := true) only [am_u_at, am_u_j, am_u_ne]; omega)) (by first | omega | (simp (decide := true) only [am_u_at, am_u_j, am_u_ne]; omega)) ?_)
    | (refine am_br rfl (by first | omega | (simp (decide := true) only [am_u_at, am_u_j, am_u_ne]; omega)) (fun h => ?_) (fun h => ?_))
    | (refine am_cU (y' := Y_ct_ofNone) rfl lk_mt_43_ct ok_ct_ofNone rfl rfl rfl (c_ct_ofNone _ _) ?_; rintro r I ⟨rfl, rfl⟩)
    | (refine am_rt rfl (by first | trivial | exact Or.inl rfl | exact Or.inr rfl) ?_))
  have h9 := loop 200 0 (by omega) (by omega)
  rw [show I 7 1 + ((0 : Nat) : Int) = I 7 1 by omega] at h9
  exact h9
end
section
theorem c_wt_fillStates (d : Nat) (p q v : Int) (I0 : am_I) (hi : 0 ≤ (p * 37 + q - I0 7 1) * 18 ∧ (p * 37 + q - I0 7 1) * 18 + 18 ≤ 10656) : am_C (d + 2) Y_mt_fillStates [.inr (.inr 11), .inl p, .inl q, .inr (.inl v)] I0 (fun r I' => r = none ∧ am_fr I0 I' [12] ∧ ∀ j : Nat, I' 12 j = if (p * 37 + q - I0 7 1) * 18 ≤ j ∧ (j : Int) < (p * 37 + q - I0 7 1) * 18 + 18 then v else I0 12 j) := by
  refine am_enter ok_mt_fillStates rfl ?_
  have loop : ∀ (m : Nat) (t : Int) (I : am_I), 0 ≤ t → t ≤ 18 → 18 - t < m → am_fr I0 I [12] → (∀ j : Nat, I 12 j = if (p * 37 + q - I0 7 1) * 18 ≤ j ∧ (j : Int) < (p * 37 + q - I0 7 1) * 18 + t then v else I0 12 j) → am_V (d + 2) Y_mt_fillStates (fun r I' => r = none ∧ am_fr I0 I' [12] ∧ ∀ j : Nat, I' 12 j = if (p * 37 + q - I0 7 1) * 18 ≤ j ∧ (j : Int) < (p * 37 + q - I0 7 1) * 18 + 18 then v else I0 12 j) 3 [(0, .inr (.inr 11)), (1, .inl p), (2, .inl q), (3, .inr (.inl v)), (5, .inl t)] [] I := by
    intro m
    induction m with
    | zero => intro t I h1 h2 h3; omega
    | succ m ih =>
      intro t I h1 h2 h3 hf h5
      have e7 : I 7 1 = I0 7 1 := by rw [hf 7 rfl]
      refine am_go 1 [] rfl trivial ?_
      repeat' (first
        | (refine am_gp 80 [3] rfl (by first | trivial | exact Or.inl rfl | exact Or.inr rfl | (simp (decide := true) only [am_p, am_u_at, am_u_j, am_u_ne]; omega) | (simp (decide := true) only [am_p, and_true, true_and, true_or, or_true, am_u_at, am_u_j, am_u_ne]; omega) | (simp (decide := true) [am_p, am_u_at, am_u_j, am_u_ne]; omega)) ?_)
        | (show am_V _ _ _ _ _ _ _; simp only [Int.reduceToNat])
        | (refine am_bt rfl (by first | omega | (simp (decide := true) only [am_u_at, am_u_j, am_u_ne]; omega)) (by first | omega | (simp (decide := true) only [am_u_at, am_u_j, am_u_ne]; omega)) ?_)
        | (refine am_bf rfl (by first | omega | (simp (decide := true) only [am_u_at, am_u_j, am_u_ne]; omega)) (by first | omega | (simp (decide := true) only [am_u_at, am_u_j, am_u_ne]; omega)) ?_)
        | (refine am_br rfl (by first | omega | (simp (decide := true) only [am_u_at, am_u_j, am_u_ne]; omega)) (fun h => ?_) (fun h => ?_))
        | (refine am_cV (y' := Y_mt_put) rfl lk_mt_71_wt ok_mt_put rfl rfl rfl (c_wt_put _ _ _ _ _ _ (by first | omega | (simp (decide := true) only [am_u_at, am_u_j, am_u_ne]; omega))) ?_; rintro r I ⟨rfl, rfl⟩)
        | (refine am_rt rfl (by first | trivial | exact Or.inl rfl | exact Or.inr rfl) ?_))
      · have et : t = 18 := by omega
        subst et
        exact ⟨rfl, hf, h5⟩
      · refine ih (t + 1) _ (by omega) (by omega) (by omega) (hf.u _ _ rfl) ?_
        intro j
        rw [am_u_eq, e7]
        by_cases c : j = ((p * 37 + q - I0 7 1) * 18 + t).toNat
        · rw [c, am_up_eq, if_pos (by omega)]
        · rw [am_up_ne c, h5 j]
          by_cases c2 : (p * 37 + q - I0 7 1) * 18 ≤ j ∧ (j : Int) < (p * 37 + q - I0 7 1) * 18 + t
          · rw [if_pos c2, if_pos (by omega)]
          · rw [if_neg c2, if_neg (by omega)]
  repeat' (first
    | (refine am_gp 80 [3] rfl (by first | trivial | exact Or.inl rfl | exact Or.inr rfl | (simp (decide := true) only [am_p, am_u_at, am_u_j, am_u_ne]; omega) | (simp (decide := true) only [am_p, and_true, true_and, true_or, or_true, am_u_at, am_u_j, am_u_ne]; omega) | (simp (decide := true) [am_p, am_u_at, am_u_j, am_u_ne]; omega)) ?_)
    | (show am_V _ _ _ _ _ _ _; simp only [Int.reduceToNat])
    | (refine am_bt rfl (by first | omega | (simp (decide := true) only [am_u_at, am_u_j, am_u_ne]; omega)) (by first | omega | (simp (decide := true) only [am_u_at, am_u_j, am_u_ne]; omega)) ?_)
    | (refine am_bf rfl (by first | omega | (simp (decide := true) only [am_u_at, am_u_j, am_u_ne]; omega)) (by first | omega | (simp (decide := true) only [am_u_at, am_u_j, am_u_ne]; omega)) ?_)
    | (refine am_br rfl (by first | omega | (simp (decide := true) only [am_u_at, am_u_j, am_u_ne]; omega)) (fun h => ?_) (fun h => ?_))
    | (refine am_rt rfl (by first | trivial | exact Or.inl rfl | exact Or.inr rfl) ?_))
  refine loop 19 0 _ (by omega) (by omega) (by omega) am_fr.rf ?_
  intro j
  rw [if_neg (by omega)]
def es_mf (f : Int → Int) (a : Int) : Nat → Int
  | 0 => -1
  | m + 1 => max (es_mf f a m) (f (a + m))
theorem es_mf_rng {f : Int → Int} {a : Int} (hf : ∀ x, -1 ≤ f x ∧ f x ≤ 1000000000000000000) : ∀ m : Nat, -1 ≤ es_mf f a m ∧ es_mf f a m ≤ 1000000000000000000
  | 0 => by unfold es_mf; omega
  | m + 1 => by
    have h1 := es_mf_rng (a := a) hf m
    have h2 := hf (a + m)
    unfold es_mf
    omega
theorem c_wt_total (d : Nat) (I : am_I) (hr : es_rb I) (hv : ∀ j : Nat, -1 ≤ I 12 j ∧ I 12 j ≤ 1000000000000000000) : am_C (d + 3) Y_mt_total [.inr (.inr 11)] I (fun r I' => I' = I ∧ r = some (.inr (.inl (es_mf (fun x => I 12 ((0 * 37 + x - I 7 1) * 18 + 0).toNat) (I 7 1) (I 7 2 + 1 - I 7 1).toNat)))) := by
  refine am_enter ok_mt_total rfl ?_
  obtain ⟨r1, r2, r3, r4⟩ := id hr
  have hfr := es_mf_rng (a := I 7 1) (f := fun x => I 12 ((0 * 37 + x - I 7 1) * 18 + 0).toNat) (fun x => hv _)
  have loop : ∀ (m k : Nat), I 7 1 + k ≤ I 7 2 + 1 → I 7 2 + 1 - (I 7 1 + k) < m → am_V (d + 3) Y_mt_total (fun r I' => I' = I ∧ r = some (.inr (.inl (es_mf (fun x => I 12 ((0 * 37 + x - I 7 1) * 18 + 0).toNat) (I 7 1) (I 7 2 + 1 - I 7 1).toNat)))) 13 [(0, .inr (.inr 11)), (1, .inr (.inl (es_mf (fun x => I 12 ((0 * 37 + x - I 7 1) * 18 + 0).toNat) (I 7 1) k))), (3, .inl (I 7 1 + k))] [] I := by
    intro m
    induction m with
    | zero => intro k h1 h2; omega
    | succ m ih =>
      intro k h1 h2
      have hk := hfr k
      have hv1 := hv ((0 * 37 + (I 7 1 + k) - I 7 1) * 18 + 0).toNat
      refine am_go 1 [] rfl trivial ?_
      repeat' (first
        | (refine am_gp 80 [13] rfl (by first | trivial | exact Or.inl rfl | exact Or.inr rfl | (simp (decide := true) only [am_p, am_u_at, am_u_j, am_u_ne]; omega) | (simp (decide := true) only [am_p, and_true, true_and, true_or, or_true, am_u_at, am_u_j, am_u_ne]; omega) | (simp (decide := true) [am_p, am_u_at, am_u_j, am_u_ne]; omega)) ?_)
        | (show am_V _ _ _ _ _ _ _; simp only [Int.reduceToNat])
        | (refine am_bt rfl (by first | omega | (simp (decide := true) only [am_u_at, am_u_j, am_u_ne]; omega)) (by first | omega | (simp (decide := true) only [am_u_at, am_u_j, am_u_ne]; omega)) ?_)
        | (refine am_bf rfl (by first | omega | (simp (decide := true) only [am_u_at, am_u_j, am_u_ne]; omega)) (by first | omega | (simp (decide := true) only [am_u_at, am_u_j, am_u_ne]; omega)) ?_)
        | (refine am_br rfl (by first | omega | (simp (decide := true) only [am_u_at, am_u_j, am_u_ne]; omega)) (fun h => ?_) (fun h => ?_))
        | (refine am_cU (y' := Y_mt_from) rfl lk_mt_89_wt ok_mt_from rfl rfl rfl (c_wt_from _ _ _ _ _ (by first | omega | (simp (decide := true) only [am_u_at, am_u_j, am_u_ne]; omega))) ?_; rintro r I ⟨rfl, rfl⟩)
        | (refine am_cU (y' := Y_wt_together) rfl lk_mt_58_wt ok_wt_together rfl rfl rfl (c_wt_together _ _ _ _ (by first | omega | (simp (decide := true) only [am_u_at, am_u_j, am_u_ne]; omega)) (by first | omega | (simp (decide := true) only [am_u_at, am_u_j, am_u_ne]; omega))) ?_; rintro r I ⟨rfl, rfl⟩)
        | (refine am_rt rfl (by first | trivial | exact Or.inl rfl | exact Or.inr rfl) ?_))
      · have ek : (I 7 2 + 1 - I 7 1).toNat = k := by omega
        rw [ek]
        exact ⟨rfl, rfl⟩
      · have h9 := ih (k + 1) (by omega) (by omega)
        rw [show I 7 1 + ((k + 1 : Nat) : Int) = I 7 1 + (k : Int) + 1 by omega] at h9
        exact h9
  repeat' (first
    | (refine am_gp 80 [13] rfl (by first | trivial | exact Or.inl rfl | exact Or.inr rfl | (simp (decide := true) only [am_p, am_u_at, am_u_j, am_u_ne]; omega) | (simp (decide := true) only [am_p, and_true, true_and, true_or, or_true, am_u_at, am_u_j, am_u_ne]; omega) | (simp (decide := true) [am_p, am_u_at, am_u_j, am_u_ne]; omega)) ?_)
    | (show am_V _ _ _ _ _ _ _; simp only [Int.reduceToNat])
    | (refine am_bt rfl (by first | omega | (simp (decide := true) only [am_u_at, am_u_j, am_u_ne]; omega)) (by first | omega | (simp (decide := true) only [am_u_at, am_u_j, am_u_ne]; omega)) ?_)
    | (refine am_bf rfl (by first | omega | (simp (decide := true) only [am_u_at, am_u_j, am_u_ne]; omega)) (by first | omega | (simp (decide := true) only [am_u_at, am_u_j, am_u_ne]; omega)) ?_)
    | (refine am_br rfl (by first | omega | (simp (decide := true) only [am_u_at, am_u_j, am_u_ne]; omega)) (fun h => ?_) (fun h => ?_))
    | (refine am_cU (y' := Y_wt_ofNone) rfl lk_mt_43_wt ok_wt_ofNone rfl rfl rfl (c_wt_ofNone _ _) ?_; rintro r I ⟨rfl, rfl⟩)
    | (refine am_rt rfl (by first | trivial | exact Or.inl rfl | exact Or.inr rfl) ?_))
  have h9 := loop 200 0 (by omega) (by omega)
  rw [show I 7 1 + ((0 : Nat) : Int) = I 7 1 by omega] at h9
  exact h9
end
section
theorem am_mem_iff {a : Nat} : ∀ {l : List Nat}, am_mem a l = true ↔ a ∈ l
  | [] => by simp [am_mem]
  | b :: l => by
    have ih := @am_mem_iff a l
    show (match Nat.beq b a with | true => true | false => am_mem a l) = true ↔ a ∈ b :: l
    cases h : Nat.beq b a with
    | true =>
      have e := Nat.eq_of_beq_eq_true h
      exact ⟨fun _ => e ▸ List.mem_cons_self, fun _ => rfl⟩
    | false =>
      have e := Nat.ne_of_beq_eq_false h
      refine ⟨fun z => List.mem_cons_of_mem _ (ih.1 z), fun z => ?_⟩
      rcases List.mem_cons.1 z with z | z
      · exact absurd z.symm e
      · exact ih.2 z
theorem am_fr.wd {I I' : am_I} {l l' : List Nat} (h : am_fr I I' l) (hs : l.all (fun k => am_mem k l') = true) : am_fr I I' l' := by
  intro a ha
  refine h a ?_
  cases hc : am_mem a l with
  | false => rfl
  | true =>
    have h1 := List.all_eq_true.1 hs a (am_mem_iff.1 hc)
    rw [ha] at h1
    cases h1
def am_drop (ks : List Nat) : List (Nat × am_v) → List (Nat × am_v)
  | [] => []
  | x :: l => match am_mem x.1 ks with
    | true => am_drop ks l
    | false => x :: am_drop ks l
theorem am_drop_sub (ks : List Nat) : ∀ (lv : List (Nat × am_v)) (q : Nat × am_v), q ∈ am_drop ks lv → q ∈ lv
  | [], q, h => h
  | x :: l, q, h => by
    unfold am_drop at h
    split at h
    · exact List.mem_cons_of_mem _ (am_drop_sub ks l q h)
    · rcases List.mem_cons.1 h with h | h
      · exact List.mem_cons.2 (Or.inl h)
      · exact List.mem_cons_of_mem _ (am_drop_sub ks l q h)
theorem am_wk (ks : List Nat) {d : Nat} {y : am_Y} {Po : Option am_v → am_I → Prop} {pc : Nat} {lv : List (Nat × am_v)} {st : List am_v} {I : am_I} (k : am_V d y Po pc (am_drop ks lv) st I) : am_V d y Po pc lv st I := am_weak (am_drop_sub ks lv) k
def es_vs (J : am_I) (p t : Int) : Prop := (0 ≤ t ∧ t ≤ p ∧ t ≤ J 7 5) ∨ t = 16 ∨ t = 17
noncomputable def es_if (P : Prop) (a b : Int) : Int := @ite Int P (Classical.propDecidable P) a b
theorem es_if_t {P : Prop} {a b : Int} (h : P) : es_if P a b = a := by
  unfold es_if
  exact if_pos h
theorem es_if_f {P : Prop} {a b : Int} (h : ¬ P) : es_if P a b = b := by
  unfold es_if
  exact if_neg h
theorem es_if_c {P Q : Prop} {a b : Int} (h : P ↔ Q) : es_if P a b = es_if Q a b := by
  by_cases c : P
  · rw [es_if_t c, es_if_t (h.1 c)]
  · rw [es_if_f c, es_if_f (fun z => c (h.2 z))]
def es_fd (op : Int → Int → Int) (e : Int) (f : Int → Int) (a : Int) : Nat → Int
  | 0 => e
  | m + 1 => op (es_fd op e f a m) (f (a + m))
def es_mn (op : Int → Int → Int) (e : Int) (D : Int → Prop) : Prop := D e ∧ (∀ x y, D x → D y → D (op x y)) ∧ (∀ x y z, D x → D y → D z → op (op x y) z = op x (op y z)) ∧ (∀ x y, D x → D y → op x y = op y x) ∧ (∀ x, D x → op e x = x)
theorem es_mn_r {op : Int → Int → Int} {e : Int} {D : Int → Prop} (h : es_mn op e D) {x : Int} (hx : D x) : op x e = x := by
  rw [h.2.2.2.1 _ _ hx h.1, h.2.2.2.2 _ hx]
theorem es_fd_D {op : Int → Int → Int} {e : Int} {D : Int → Prop} (h : es_mn op e D) {f : Int → Int} (hf : ∀ x, D (f x)) {a : Int} : ∀ m : Nat, D (es_fd op e f a m)
  | 0 => h.1
  | m + 1 => h.2.1 _ _ (es_fd_D h hf m) (hf _)
theorem es_fd_cg {op : Int → Int → Int} {e : Int} {f g : Int → Int} {a : Int} : ∀ m : Nat, (∀ x, a ≤ x → x < a + (m : Int) → f x = g x) → es_fd op e f a m = es_fd op e g a m
  | 0, _ => rfl
  | m + 1, h => by
    show op (es_fd op e f a m) (f (a + m)) = op (es_fd op e g a m) (g (a + m))
    rw [es_fd_cg m (fun x h1 h2 => h x h1 (by omega)), h (a + m) (by omega) (by omega)]
theorem es_fd_add {op : Int → Int → Int} {e : Int} {D : Int → Prop} (h : es_mn op e D) {f : Int → Int} (hf : ∀ x, D (f x)) (a : Int) (m : Nat) : ∀ k : Nat, es_fd op e f a (m + k) = op (es_fd op e f a m) (es_fd op e f (a + m) k)
  | 0 => by
    show es_fd op e f a m = op (es_fd op e f a m) e
    rw [es_mn_r h (es_fd_D h hf m)]
  | k + 1 => by
    show op (es_fd op e f a (m + k)) (f (a + ((m + k : Nat) : Int))) = op (es_fd op e f a m) (op (es_fd op e f (a + m) k) (f (a + m + k)))
    rw [es_fd_add h hf a m k, h.2.2.1 _ _ _ (es_fd_D h hf m) (es_fd_D h hf k) (hf _), show a + ((m + k : Nat) : Int) = a + m + k by omega]
theorem es_fd_e {op : Int → Int → Int} {e : Int} {D : Int → Prop} (h : es_mn op e D) {f : Int → Int} {a : Int} : ∀ m : Nat, (∀ x, a ≤ x → x < a + (m : Int) → f x = e) → es_fd op e f a m = e
  | 0, _ => rfl
  | m + 1, hx => by
    show op (es_fd op e f a m) (f (a + m)) = e
    rw [es_fd_e h m (fun x h1 h2 => hx x h1 (by omega)), hx (a + m) (by omega) (by omega), h.2.2.2.2 _ h.1]
theorem es_fd_ext {op : Int → Int → Int} {e : Int} {D : Int → Prop} (h : es_mn op e D) {f : Int → Int} (hf : ∀ x, D (f x)) {a A : Int} {m M : Nat} (h1 : A ≤ a) (h2 : a + m ≤ A + M) (ho : ∀ x, A ≤ x → x < A + (M : Int) → (x < a ∨ a + (m : Int) ≤ x) → f x = e) : es_fd op e f A M = es_fd op e f a m := by
  obtain ⟨k, hk⟩ : ∃ k : Nat, a = A + k := ⟨(a - A).toNat, by omega⟩
  obtain ⟨r, hr⟩ : ∃ r : Nat, M = k + m + r := ⟨M - (k + m), by omega⟩
  subst hk hr
  have e1 : es_fd op e f A k = e := es_fd_e h k (fun x h3 h4 => ho x h3 (by omega) (Or.inl h4))
  have e2 : es_fd op e f (A + ((k + m : Nat) : Int)) r = e := es_fd_e h r (fun x h3 h4 => ho x (by omega) (by omega) (Or.inr (by omega)))
  rw [es_fd_add h hf A (k + m) r, e2, es_fd_add h hf A k m, e1, h.2.2.2.2 _ (es_fd_D h hf m), es_mn_r h (es_fd_D h hf m)]
theorem es_fd_pt {op : Int → Int → Int} {e : Int} {D : Int → Prop} (h : es_mn op e D) {f : Int → Int} (hf : ∀ x, D (f x)) {a c : Int} : ∀ m : Nat, a ≤ c → c < a + (m : Int) → op (es_fd op e (fun x => if x = c then e else f x) a m) (f c) = es_fd op e f a m
  | 0, h1, h2 => by omega
  | m + 1, h1, h2 => by
    have hg : ∀ x, D (if x = c then e else f x) := by
      intro x
      split
      · exact h.1
      · exact hf x
    have hd := es_fd_D h (f := fun x => if x = c then e else f x) hg (a := a) m
    show op (op (es_fd op e (fun x => if x = c then e else f x) a m) (if a + (m : Int) = c then e else f (a + m))) (f c) = op (es_fd op e f a m) (f (a + m))
    by_cases hc : a + (m : Int) = c
    · have e1 : es_fd op e (fun x => if x = c then e else f x) a m = es_fd op e f a m := es_fd_cg m (fun x h3 h4 => if_neg (by omega))
      rw [if_pos hc, e1, es_mn_r h (es_fd_D h hf m), hc]
    · rw [if_neg hc, h.2.2.1 _ _ _ hd (hf _) (hf _), h.2.2.2.1 _ _ (hf (a + m)) (hf c), ← h.2.2.1 _ _ _ hd (hf _) (hf _), es_fd_pt h hf m h1 (by omega)]
theorem es_fd_sh {op : Int → Int → Int} {e : Int} {f : Int → Int} (p a : Int) : ∀ m : Nat, es_fd op e (fun s => f (p + s)) a m = es_fd op e f (p + a) m
  | 0 => rfl
  | m + 1 => by
    show op (es_fd op e (fun s => f (p + s)) a m) (f (p + (a + m))) = op (es_fd op e f (p + a) m) (f (p + a + m))
    rw [es_fd_sh p a m, show p + (a + (m : Int)) = p + a + m by omega]
def es_T (t : Int) : Int := if t = 0 then 0 else if t = 16 then 1 else if t = 17 then 2 else t + 2
theorem es_T_c (t : Int) : (t = 0 ∧ es_T t = 0) ∨ (t = 16 ∧ es_T t = 1) ∨ (t = 17 ∧ es_T t = 2) ∨ ((t ≠ 0 ∧ t ≠ 16 ∧ t ≠ 17) ∧ es_T t = t + 2) := by
  unfold es_T
  repeat' split
  all_goals omega
theorem es_nx_c (lp t s : Int) : (s = 0 ∧ es_nx lp t s = min (t + 1) 15) ∨ ((s ≠ 0 ∧ lp ≤ s) ∧ es_nx lp t s = 16) ∨ ((s ≠ 0 ∧ ¬ lp ≤ s ∧ s ≤ -lp) ∧ es_nx lp t s = 17) ∨ ((s ≠ 0 ∧ ¬ lp ≤ s ∧ ¬ s ≤ -lp) ∧ es_nx lp t s = 0) := by
  unfold es_nx
  repeat' split
  all_goals omega
theorem es_key {stp lp rp t : Int} (s : Int) (hl : 1 ≤ lp ∧ lp ≤ 13) (hr : 0 ≤ rp ∧ rp ≤ 15) (ht : 0 ≤ t ∧ t ≤ 17) (hv : 16 ≤ t ∨ t ≤ rp) : (es_may stp rp t s → es_bh stp lp rp (es_T t) s = es_T (es_nx lp t s) ∧ es_T (es_nx lp t s) ≠ -1) ∧ (¬ es_may stp rp t s → es_bh stp lp rp (es_T t) s = -1) := by
  have hb := es_sb_01 stp s
  have h1 := es_T_c t
  have h2 := es_nx_c lp t s
  have h3 := es_T_c (es_nx lp t s)
  unfold es_may es_bh
  generalize es_T (es_nx lp t s) = v at *
  generalize es_nx lp t s = w at *
  generalize es_T t = u at *
  generalize es_sb stp s = b at *
  constructor
  · intro h
    repeat' split
    all_goals omega
  · intro h
    repeat' split
    all_goals omega
noncomputable def es_B (sf : Int → Int → Int) (g : Int → Int → Int) (e lo hi stp lp rp p t s : Int) : Int := es_if (lo ≤ p + s ∧ p + s ≤ hi ∧ es_may stp rp t s) (sf s (g (p + s) (es_T (es_nx lp t s)))) e
theorem es_B_D {D : Int → Prop} {sf : Int → Int → Int} {g : Int → Int → Int} {e : Int} (he : D e) (hg : ∀ s q u, D (sf s (g q u))) (lo hi stp lp rp p t s : Int) : D (es_B sf g e lo hi stp lp rp p t s) := by
  unfold es_B
  by_cases c : (lo ≤ p + s ∧ p + s ≤ hi ∧ es_may stp rp t s)
  · rw [es_if_t c]; exact hg _ _ _
  · rw [es_if_f c]; exact he
theorem es_qc {op : Int → Int → Int} {e : Int} {D : Int → Prop} (h : es_mn op e D) {sf : Int → Int → Int} {g : Int → Int → Int} (hg : ∀ s q u, D (sf s (g q u))) {lo hi stp lp rp p t : Int} (hlo : lo ≤ p ∧ p ≤ hi ∧ hi - lo ≤ 36) (hl : 1 ≤ lp ∧ lp ≤ 13) (hr : 0 ≤ rp ∧ rp ≤ 15) (ht : 0 ≤ t ∧ t ≤ 17) (hv : 16 ≤ t ∨ t ≤ rp) :
    es_fd op e (fun q => if es_bh stp lp rp (es_T t) (q - p) = -1 then e else sf (q - p) (g q (es_bh stp lp rp (es_T t) (q - p)))) lo (hi + 1 - lo).toNat = es_fd op e (fun s => es_B sf g e lo hi stp lp rp p t s) (-12) 25 := by
  have hF : ∀ x, D (es_B sf g e lo hi stp lp rp p t (x - p)) := fun x => es_B_D h.1 hg _ _ _ _ _ _ _ _
  have e1 : es_fd op e (fun q => if es_bh stp lp rp (es_T t) (q - p) = -1 then e else sf (q - p) (g q (es_bh stp lp rp (es_T t) (q - p)))) lo (hi + 1 - lo).toNat = es_fd op e (fun x => es_B sf g e lo hi stp lp rp p t (x - p)) lo (hi + 1 - lo).toNat := by
    refine es_fd_cg _ (fun x h1 h2 => ?_)
    show (if es_bh stp lp rp (es_T t) (x - p) = -1 then e else sf (x - p) (g x (es_bh stp lp rp (es_T t) (x - p)))) = es_B sf g e lo hi stp lp rp p t (x - p)
    unfold es_B
    have hk := es_key (stp := stp) (x - p) hl hr ht hv
    by_cases c : es_may stp rp t (x - p)
    · obtain ⟨k1, k2⟩ := hk.1 c
      rw [es_if_t ⟨by omega, by omega, c⟩, k1, if_neg k2, show p + (x - p) = x by omega]
    · rw [es_if_f (fun z => c z.2.2), if_pos (hk.2 c)]
  have e2 : es_fd op e (fun s => es_B sf g e lo hi stp lp rp p t s) (-12) 25 = es_fd op e (fun x => es_B sf g e lo hi stp lp rp p t (x - p)) (p + (-12)) 25 := by
    rw [← es_fd_sh p (-12) 25]
    refine es_fd_cg _ (fun x h1 h2 => ?_)
    show es_B sf g e lo hi stp lp rp p t x = es_B sf g e lo hi stp lp rp p t (p + x - p)
    rw [show p + x - p = x by omega]
  have hb : ∀ x, es_B sf g e lo hi stp lp rp p t (x - p) = e ∨ ((lo ≤ x ∧ x ≤ hi) ∧ (-12 ≤ x - p ∧ x - p ≤ 12)) := by
    intro x
    unfold es_B
    by_cases c : (lo ≤ p + (x - p) ∧ p + (x - p) ≤ hi ∧ es_may stp rp t (x - p))
    · exact Or.inr ⟨by omega, c.2.2.1⟩
    · exact Or.inl (es_if_f c)
  have e3 : es_fd op e (fun x => es_B sf g e lo hi stp lp rp p t (x - p)) (p - 40) 81 = es_fd op e (fun x => es_B sf g e lo hi stp lp rp p t (x - p)) lo (hi + 1 - lo).toNat := by
    refine es_fd_ext h hF (by omega) (by omega) (fun x h1 h2 h3 => ?_)
    rcases hb x with c | c
    · exact c
    · omega
  have e4 : es_fd op e (fun x => es_B sf g e lo hi stp lp rp p t (x - p)) (p - 40) 81 = es_fd op e (fun x => es_B sf g e lo hi stp lp rp p t (x - p)) (p + (-12)) 25 := by
    refine es_fd_ext h hF (by omega) (by omega) (fun x h1 h2 h3 => ?_)
    rcases hb x with c | c
    · exact c
    · omega
  rw [e1, e2, ← e3, e4]
theorem es_qc_z {op : Int → Int → Int} {e : Int} {D : Int → Prop} (h : es_mn op e D) {sf : Int → Int → Int} {g : Int → Int → Int} (hg : ∀ s q u, D (sf s (g q u))) {lo hi stp lp rp p t : Int} (ht : 0 ≤ t ∧ t ≤ 15) :
    es_fd op e (fun s => es_B sf g e lo hi stp lp rp p t s) (-12) 25 = op (es_fd op e (fun s => if s = 0 then e else es_B sf g e lo hi stp lp rp p 0 s) (-12) 25) (es_B sf g e lo hi stp lp rp p t 0) := by
  rw [← es_fd_pt h (f := fun s => es_B sf g e lo hi stp lp rp p t s) (fun s => es_B_D h.1 hg _ _ _ _ _ _ _ _) (a := -12) (c := 0) 25 (by omega) (by omega)]
  congr 1
  refine es_fd_cg _ (fun x h1 h2 => ?_)
  show (if x = 0 then e else es_B sf g e lo hi stp lp rp p t x) = (if x = 0 then e else es_B sf g e lo hi stp lp rp p 0 x)
  by_cases c : x = 0
  · rw [if_pos c, if_pos c]
  · rw [if_neg c, if_neg c]
    have hn : es_nx lp t x = es_nx lp 0 x := by
      have h3 := es_nx_c lp t x
      have h4 := es_nx_c lp 0 x
      omega
    have hm : es_may stp rp t x ↔ es_may stp rp 0 x := by
      unfold es_may
      omega
    unfold es_B
    rw [hn]
    exact es_if_c ⟨fun z => ⟨z.1, z.2.1, hm.1 z.2.2⟩, fun z => ⟨z.1, z.2.1, hm.2 z.2.2⟩⟩
theorem es_qc_2 {op : Int → Int → Int} {e : Int} {D : Int → Prop} (h : es_mn op e D) {f : Int → Int} (hf : ∀ x, D (f x)) (a : Int) (ha : -12 ≤ a ∧ a ≤ 11) (ho : ∀ x, x < a ∨ a + 1 < x → f x = e) : es_fd op e f (-12) 25 = op (f a) (f (a + 1)) := by
  have e1 : es_fd op e f (-12) 25 = es_fd op e f a 2 := es_fd_ext h hf (by omega) (by omega) (fun x h1 h2 h3 => ho x (by omega))
  rw [e1]
  show op (op e (f (a + ((0 : Nat) : Int)))) (f (a + ((1 : Nat) : Int))) = _
  rw [h.2.2.2.2 _ (hf _), show a + ((0 : Nat) : Int) = a by omega, show a + ((1 : Nat) : Int) = a + 1 by omega]
theorem es_qc_u {op : Int → Int → Int} {e : Int} {D : Int → Prop} (h : es_mn op e D) {sf : Int → Int → Int} {g : Int → Int → Int} (hg : ∀ s q u, D (sf s (g q u))) {lo hi stp lp rp p : Int} :
    es_fd op e (fun s => es_B sf g e lo hi stp lp rp p 16 s) (-12) 25 = op (es_B sf g e lo hi stp lp rp p 16 (-2)) (es_B sf g e lo hi stp lp rp p 16 (-1)) := by
  refine es_qc_2 h (f := fun s => es_B sf g e lo hi stp lp rp p 16 s) (fun s => es_B_D h.1 hg _ _ _ _ _ _ _ _) (-2) (by omega) (fun x hx => ?_)
  unfold es_B
  refine es_if_f (fun z => ?_)
  have hz := z.2.2
  unfold es_may at hz
  omega
theorem es_qc_d {op : Int → Int → Int} {e : Int} {D : Int → Prop} (h : es_mn op e D) {sf : Int → Int → Int} {g : Int → Int → Int} (hg : ∀ s q u, D (sf s (g q u))) {lo hi stp lp rp p : Int} :
    es_fd op e (fun s => es_B sf g e lo hi stp lp rp p 17 s) (-12) 25 = op (es_B sf g e lo hi stp lp rp p 17 1) (es_B sf g e lo hi stp lp rp p 17 2) := by
  refine es_qc_2 h (f := fun s => es_B sf g e lo hi stp lp rp p 17 s) (fun s => es_B_D h.1 hg _ _ _ _ _ _ _ _) 1 (by omega) (fun x hx => ?_)
  unfold es_B
  refine es_if_f (fun z => ?_)
  have hz := z.2.2
  unfold es_may at hz
  omega
noncomputable def es_G (op : Int → Int → Int) (e one : Int) (sf : Int → Int → Int) (lo hi n sc be en stp lp rp : Int) : Nat → Int → Int → Int
  | 0, p, _ => es_if (es_fit sc be en n (n - 1) p) one e
  | m + 1, p, u => es_if (es_fit sc be en n (n - 1 - ((m + 1 : Nat) : Int)) p) (es_fd op e (fun q => if es_bh stp lp rp u (q - p) = -1 then e else sf (q - p) (es_G op e one sf lo hi n sc be en stp lp rp m q (es_bh stp lp rp u (q - p)))) lo (hi + 1 - lo).toNat) e
theorem es_G_D {op : Int → Int → Int} {e : Int} {D : Int → Prop} (h : es_mn op e D) {one : Int} (h1 : D one) {sf : Int → Int → Int} (hs : ∀ s x, D x → D (sf s x)) {lo hi n sc be en stp lp rp : Int} : ∀ (m : Nat) (p u : Int), D (es_G op e one sf lo hi n sc be en stp lp rp m p u)
  | 0, p, u => by
    show D (es_if (es_fit sc be en n (n - 1) p) one e)
    by_cases c : es_fit sc be en n (n - 1) p
    · rw [es_if_t c]; exact h1
    · rw [es_if_f c]; exact h.1
  | m + 1, p, u => by
    show D (es_if (es_fit sc be en n (n - 1 - ((m + 1 : Nat) : Int)) p) (es_fd op e (fun q => if es_bh stp lp rp u (q - p) = -1 then e else sf (q - p) (es_G op e one sf lo hi n sc be en stp lp rp m q (es_bh stp lp rp u (q - p)))) lo (hi + 1 - lo).toNat) e)
    by_cases c : es_fit sc be en n (n - 1 - ((m + 1 : Nat) : Int)) p
    · rw [es_if_t c]
      refine es_fd_D h (fun x => ?_) _
      split
      · exact h.1
      · exact hs _ _ (es_G_D h h1 hs m _ _)
    · rw [es_if_f c]; exact h.1
theorem es_G_no {op : Int → Int → Int} {e one : Int} {sf : Int → Int → Int} {lo hi n sc be en stp lp rp : Int} (m : Nat) (p u : Int) (hf : ¬ es_fit sc be en n (n - 1 - (m : Int)) p) : es_G op e one sf lo hi n sc be en stp lp rp m p u = e := by
  cases m with
  | zero =>
    show es_if (es_fit sc be en n (n - 1) p) one e = e
    rw [show n - 1 - ((0 : Nat) : Int) = n - 1 by omega] at hf
    exact es_if_f hf
  | succ m => exact es_if_f hf
theorem es_G_end {op : Int → Int → Int} {e one : Int} {sf : Int → Int → Int} {lo hi n sc be en stp lp rp : Int} (p u : Int) (hf : es_fit sc be en n (n - 1) p) : es_G op e one sf lo hi n sc be en stp lp rp 0 p u = one := es_if_t hf
theorem es_G_on {op : Int → Int → Int} {e one : Int} {sf : Int → Int → Int} {lo hi n sc be en stp lp rp : Int} (m : Nat) (p u : Int) (hf : es_fit sc be en n (n - 1 - ((m + 1 : Nat) : Int)) p) : es_G op e one sf lo hi n sc be en stp lp rp (m + 1) p u = es_fd op e (fun q => if es_bh stp lp rp u (q - p) = -1 then e else sf (q - p) (es_G op e one sf lo hi n sc be en stp lp rp m q (es_bh stp lp rp u (q - p)))) lo (hi + 1 - lo).toNat := es_if_t hf
def es_oc (a b : Int) : Int := min 1000000000000000000 (a + b)
def es_om (a b : Int) : Int := max a b
def es_id (_ x : Int) : Int := x
def es_Dc (x : Int) : Prop := 0 ≤ x ∧ x ≤ 1000000000000000000
def es_Dm (x : Int) : Prop := -1 ≤ x
theorem es_mc : es_mn es_oc 0 es_Dc := by
  unfold es_mn es_oc es_Dc
  refine ⟨by omega, fun x y hx hy => by omega, fun x y z hx hy hz => by omega, fun x y hx hy => by omega, fun x hx => by omega⟩
theorem es_mm : es_mn es_om (-1) es_Dm := by
  unfold es_mn es_om es_Dm
  refine ⟨by omega, fun x y hx hy => by omega, fun x y z hx hy hz => by omega, fun x y hx hy => by omega, fun x hx => by omega⟩
theorem es_ws_D {w : Nat → Int} (hw : ∀ j : Nat, j < 13 → 0 ≤ w j ∧ w j ≤ 1000000) (s x : Int) (hx : es_Dm x) : es_Dm (es_ws w s x) := by
  unfold es_Dm at hx ⊢
  unfold es_ws
  split
  · omega
  · have := hw (max s (-s)).toNat (by omega)
    omega
theorem es_Gc_D {lo hi n sc be en stp lp rp : Int} (m : Nat) (p u : Int) : 0 ≤ es_G es_oc 0 1 es_id lo hi n sc be en stp lp rp m p u ∧ es_G es_oc 0 1 es_id lo hi n sc be en stp lp rp m p u ≤ 1000000000000000000 := es_G_D es_mc (by unfold es_Dc; omega) (fun s x hx => hx) m p u
theorem es_Gw_D {w : Nat → Int} (hw : ∀ j : Nat, j < 13 → 0 ≤ w j ∧ w j ≤ 1000000) {lo hi n sc be en stp lp rp : Int} (m : Nat) (p u : Int) : -1 ≤ es_G es_om (-1) 0 (es_ws w) lo hi n sc be en stp lp rp m p u := es_G_D es_mm (by unfold es_Dm; omega) (es_ws_D hw) m p u
theorem es_fm_le {f : Int → Int} {a b : Int} (hb : -1 ≤ b) (hf : ∀ x, f x ≤ b) : ∀ m : Nat, es_fd es_om (-1) f a m ≤ b
  | 0 => hb
  | m + 1 => by
    show max (es_fd es_om (-1) f a m) (f (a + m)) ≤ b
    have h1 := es_fm_le (a := a) hb hf m
    have h2 := hf (a + m)
    omega
theorem es_Gw_le {w : Nat → Int} (hw : ∀ j : Nat, j < 13 → 0 ≤ w j ∧ w j ≤ 1000000) {lo hi n sc be en stp lp rp : Int} : ∀ (m : Nat) (p u : Int), es_G es_om (-1) 0 (es_ws w) lo hi n sc be en stp lp rp m p u ≤ 1000000 * (m : Int)
  | 0, p, u => by
    show es_if (es_fit sc be en n (n - 1) p) 0 (-1) ≤ _
    by_cases c : es_fit sc be en n (n - 1) p
    · rw [es_if_t c]; omega
    · rw [es_if_f c]; omega
  | m + 1, p, u => by
    by_cases c : es_fit sc be en n (n - 1 - ((m + 1 : Nat) : Int)) p
    · rw [es_G_on m p u c]
      refine es_fm_le (by omega) (fun x => ?_) _
      split
      · omega
      · have h1 := es_Gw_le hw (lo := lo) (hi := hi) (n := n) (sc := sc) (be := be) (en := en) (stp := stp) (lp := lp) (rp := rp) m x (es_bh stp lp rp u (x - p))
        generalize es_G es_om (-1) 0 (es_ws w) lo hi n sc be en stp lp rp m x (es_bh stp lp rp u (x - p)) = v at h1 ⊢
        unfold es_ws
        split
        · omega
        · have := hw (max (x - p) (-(x - p))).toNat (by omega)
          omega
    · rw [es_G_no (m + 1) p u c]; omega
theorem es_wsle {w : Nat → Int} (hw : ∀ j : Nat, j < 13 → 0 ≤ w j ∧ w j ≤ 1000000) {s x b : Int} (hb : -1 ≤ b) (hx : x ≤ b) : es_ws w s x ≤ b + 1000000 := by
  unfold es_ws
  split
  · omega
  · have := hw (max s (-s)).toNat (by omega)
    omega
end
section
noncomputable def es_g_ct (J : am_I) : Nat → Int → Int → Int := es_G es_oc (0) 1 es_id (J 7 1) (J 7 2) (J 7 3) (J 8 0) (J 8 1) (J 8 2) (J 8 3) (J 7 4) (J 7 5)
noncomputable def es_b_ct (J : am_I) (m : Nat) (q t s : Int) : Int := es_B es_id (es_g_ct J m) (0) (J 7 1) (J 7 2) (J 8 3) (J 7 4) (J 7 5) q t s
def es_row_ct (J I : am_I) (p : Int) : Prop := ∀ q t : Int, J 7 1 ≤ q → q ≤ J 7 2 → es_vs J p t → I 10 ((p * 37 + q - J 7 1) * 18 + t).toNat = es_g_ct J (J 7 3 - 1 - p).toNat q (es_T t)
theorem es_row_ct_u {J I I' : am_I} {p : Int} (h : es_row_ct J I p) (he : ∀ q t : Int, J 7 1 ≤ q → q ≤ J 7 2 → es_vs J p t → I' 10 ((p * 37 + q - J 7 1) * 18 + t).toNat = I 10 ((p * 37 + q - J 7 1) * 18 + t).toNat) : es_row_ct J I' p := fun q t h1 h2 h3 => (he q t h1 h2 h3).trans (h q t h1 h2 h3)
theorem c_ct_by (d : Nat) (p q t s : Int) (I J : am_I) (h7 : I 7 = J 7) (h8 : I 8 = J 8) (hr : es_rb J) (hp : 0 ≤ p ∧ p < J 7 3 - 1) (hq : J 7 1 ≤ q ∧ q ≤ J 7 2) (ht : es_vs J p t) (hs : -1000 ≤ s ∧ s ≤ 1000) (hrw : es_row_ct J I (p + 1)) : am_C (d + 2) Y_mt_byStep [.inr (.inr 9), .inl p, .inl q, .inl t, .inl s] I (fun r I' => I' = I ∧ r = some (.inr (.inl (es_b_ct J (J 7 3 - 2 - p).toNat q t s)))) := by
  have hr' : es_rb I := by unfold es_rb; rw [h7]; exact hr
  obtain ⟨r1, r2, r3, r4⟩ := id hr
  have ht' : 0 ≤ t ∧ t ≤ 17 := by unfold es_vs at ht; omega
  refine am_C_mono (c_ct_byStep d p q t s I hr' (by omega) (by rw [h7]; omega) ht' hs) ?_
  rintro r I' ⟨e0, (⟨h, rfl⟩ | ⟨h, rfl⟩)⟩
  · refine ⟨e0, ?_⟩
    rw [h7, h8] at h
    have hvs : es_vs J (p + 1) (es_nx (J 7 4) t s) := by
      have h3 := es_nx_c (J 7 4) t s
      have h4 := h.2.2
      unfold es_may at h4
      unfold es_vs at ht ⊢
      omega
    have hx := hrw (q + s) (es_nx (J 7 4) t s) h.1 h.2.1 hvs
    unfold es_b_ct es_B
    rw [es_if_t h, h7, hx, show J 7 3 - 1 - (p + 1) = J 7 3 - 2 - p by omega]
    rfl
  · refine ⟨e0, ?_⟩
    rw [h7, h8] at h
    unfold es_b_ct es_B
    rw [es_if_f h]
theorem es_gd_ct {J : am_I} (m : Nat) : ∀ s q u, es_Dc (es_id s (es_g_ct J m q u)) := by
  intro s q u
  unfold es_Dc es_id es_g_ct
  exact es_Gc_D _ _ _
theorem es_g_ct_cl {J : am_I} (hr : es_rb J) {p q t : Int} (hp : 0 ≤ p ∧ p < J 7 3 - 1) (hq : J 7 1 ≤ q ∧ q ≤ J 7 2) (ht : es_vs J p t) (hf : es_fit (J 8 0) (J 8 1) (J 8 2) (J 7 3) p q) : es_g_ct J (J 7 3 - 1 - p).toNat q (es_T t) = es_fd es_oc (0) (fun s => es_b_ct J (J 7 3 - 2 - p).toNat q t s) (-12) 25 := by
  obtain ⟨r1, r2, r3, r4⟩ := id hr
  unfold es_vs at ht
  have em : (J 7 3 - 1 - p).toNat = (J 7 3 - 2 - p).toNat + 1 := by omega
  have ep : J 7 3 - 1 - (((J 7 3 - 2 - p).toNat + 1 : Nat) : Int) = p := by omega
  unfold es_g_ct
  rw [em, es_G_on _ _ _ (by rw [ep]; exact hf)]
  exact es_qc es_mc (g := es_g_ct J (J 7 3 - 2 - p).toNat) (es_gd_ct _) (by omega) r3 r4 (by omega) (by omega)
theorem es_b_ct_rng {J : am_I} (m : Nat) (hm : m ≤ 15) (q t s : Int) : 0 ≤ es_b_ct J m q t s ∧ es_b_ct J m q t s ≤ 1000000000000000000 := by
  exact es_B_D (D := es_Dc) (by unfold es_Dc; omega) (es_gd_ct m) _ _ _ _ _ _ _ _
theorem c_ct_fillPitch (d : Nat) (p q : Int) (I0 J : am_I) (h7 : I0 7 = J 7) (h8 : I0 8 = J 8) (hr : es_rb J) (hp : 0 ≤ p ∧ p < J 7 3) (hq : J 7 1 ≤ q ∧ q ≤ J 7 2) (hv : ∀ j : Nat, 0 ≤ I0 10 j ∧ I0 10 j ≤ 1000000000000000000) (hrow : p < J 7 3 - 1 → es_row_ct J I0 (p + 1)) : am_C (d + 3) Y_mt_fillPitch [.inr (.inr 9), .inl p, .inl q] I0 (fun r I' => r = none ∧ am_fr I0 I' [10] ∧ (∀ j : Nat, ¬ ((p * 37 + q - J 7 1) * 18 ≤ j ∧ (j : Int) < (p * 37 + q - J 7 1) * 18 + 18) → I' 10 j = I0 10 j) ∧ (∀ t : Int, es_vs J p t → I' 10 ((p * 37 + q - J 7 1) * 18 + t).toNat = es_g_ct J (J 7 3 - 1 - p).toNat q (es_T t)) ∧ (∀ j : Nat, 0 ≤ I' 10 j ∧ I' 10 j ≤ 1000000000000000000)) := by
  refine am_enter ok_mt_fillPitch rfl ?_
  obtain ⟨r1, r2, r3, r4⟩ := id hr
  have a71 : I0 7 1 = J 7 1 := congrFun h7 1
  have a72 : I0 7 2 = J 7 2 := congrFun h7 2
  have a73 : I0 7 3 = J 7 3 := congrFun h7 3
  have hB := es_b_ct_rng (J := J) (J 7 3 - 2 - p).toNat (by omega) q
  have hM : ∀ k : Nat, 0 ≤ es_fd es_oc (0) (fun s => if s = 0 then (0) else es_b_ct J (J 7 3 - 2 - p).toNat q 0 s) (-12) k ∧ es_fd es_oc (0) (fun s => if s = 0 then (0) else es_b_ct J (J 7 3 - 2 - p).toNat q 0 s) (-12) k ≤ 1000000000000000000 := by
    intro k
    refine es_fd_D (D := es_Dc) es_mc (fun x => ?_) k
    show es_Dc (if x = 0 then (0) else es_b_ct J (J 7 3 - 2 - p).toNat q 0 x)
    split
    · unfold es_Dc; omega
    · exact hB 0 x
  have hrowk : ∀ I : am_I, p < J 7 3 - 1 → (∀ j : Nat, ¬ ((p * 37 + q - J 7 1) * 18 ≤ j ∧ (j : Int) < (p * 37 + q - J 7 1) * 18 + 18) → I 10 j = I0 10 j) → es_row_ct J I (p + 1) := by
    intro I hpn hu
    refine es_row_ct_u (hrow hpn) (fun q' t' h1 h2 h3 => hu _ ?_)
    unfold es_vs at h3
    omega
  have tail : ∀ (x3 : am_v) (x5 : am_v) (I : am_I), p < J 7 3 - 1 → es_fit (J 8 0) (J 8 1) (J 8 2) (J 7 3) p q → am_fr I0 I [10] → (∀ j : Nat, ¬ ((p * 37 + q - J 7 1) * 18 ≤ j ∧ (j : Int) < (p * 37 + q - J 7 1) * 18 + 18) → I 10 j = I0 10 j) → (∀ j : Nat, 0 ≤ I 10 j ∧ I 10 j ≤ 1000000000000000000) → (∀ t : Int, es_vs J p t → t ≠ 17 → I 10 ((p * 37 + q - J 7 1) * 18 + t).toNat = es_g_ct J (J 7 3 - 1 - p).toNat q (es_T t)) → am_V (d + 3) Y_mt_fillPitch (fun r I' => r = none ∧ am_fr I0 I' [10] ∧ (∀ j : Nat, ¬ ((p * 37 + q - J 7 1) * 18 ≤ j ∧ (j : Int) < (p * 37 + q - J 7 1) * 18 + 18) → I' 10 j = I0 10 j) ∧ (∀ t : Int, es_vs J p t → I' 10 ((p * 37 + q - J 7 1) * 18 + t).toNat = es_g_ct J (J 7 3 - 1 - p).toNat q (es_T t)) ∧ (∀ j : Nat, 0 ≤ I' 10 j ∧ I' 10 j ≤ 1000000000000000000)) 167 [(0, .inr (.inr 9)), (1, .inl p), (2, .inl q), (3, x3), (5, x5)] [] I := by
    intro x3 x5 I hpn hft hf hu hv' hx
    have e7 : I 7 = J 7 := (hf 7 rfl).trans h7
    have e8 : I 8 = J 8 := (hf 8 rfl).trans h8
    skip
    have e71 : I 7 1 = J 7 1 := congrFun e7 1
    have hrw := hrowk I hpn hu
    have hb1 := hB 17 1
    have hb2 := hB 17 2
    repeat' (first
      | (refine am_gp 80 [] rfl (by first | trivial | exact Or.inl rfl | exact Or.inr rfl | (simp (decide := true) only [am_p, am_u_at, am_u_j, am_u_ne]; omega) | (simp (decide := true) only [am_p, and_true, true_and, true_or, or_true, am_u_at, am_u_j, am_u_ne]; omega) | (simp (decide := true) [am_p, am_u_at, am_u_j, am_u_ne]; omega)) ?_)
      | (show am_V _ _ _ _ _ _ _; simp only [Int.reduceToNat])
      | (refine am_bt rfl (by first | omega | (simp (decide := true) only [am_u_at, am_u_j, am_u_ne]; omega)) (by first | omega | (simp (decide := true) only [am_u_at, am_u_j, am_u_ne]; omega)) ?_)
      | (refine am_bf rfl (by first | omega | (simp (decide := true) only [am_u_at, am_u_j, am_u_ne]; omega)) (by first | omega | (simp (decide := true) only [am_u_at, am_u_j, am_u_ne]; omega)) ?_)
      | (refine am_br rfl (by first | omega | (simp (decide := true) only [am_u_at, am_u_j, am_u_ne]; omega)) (fun h => ?_) (fun h => ?_))
      | (refine am_cV (y' := Y_mt_byStep) rfl lk_mt_54_ct ok_mt_byStep rfl rfl rfl (c_ct_by _ _ _ _ _ _ J (by assumption) (by assumption) hr (by first | omega | (simp (decide := true) only [am_u_at, am_u_j, am_u_ne]; omega)) (by first | omega | (simp (decide := true) only [am_u_at, am_u_j, am_u_ne]; omega)) (by unfold es_vs; omega) (by first | omega | (simp (decide := true) only [am_u_at, am_u_j, am_u_ne]; omega)) (by assumption)) ?_; rintro r I ⟨rfl, rfl⟩)
      | (refine am_cU (y' := Y_ct_together) rfl lk_mt_58_ct ok_ct_together rfl rfl rfl (c_ct_together _ _ _ _ (by first | omega | (simp (decide := true) only [am_u_at, am_u_j, am_u_ne]; omega)) (by first | omega | (simp (decide := true) only [am_u_at, am_u_j, am_u_ne]; omega))) ?_; rintro r I ⟨rfl, rfl⟩)
      | (refine am_cV (y' := Y_mt_put) rfl lk_mt_71_ct ok_mt_put rfl rfl rfl (c_ct_put _ _ _ _ _ _ (by first | omega | (simp (decide := true) only [am_u_at, am_u_j, am_u_ne]; omega))) ?_; rintro r I ⟨rfl, rfl⟩)
      | (refine am_rt rfl (by first | trivial | exact Or.inl rfl | exact Or.inr rfl) ?_))
    have hg := es_g_ct_cl hr (t := 17) ⟨hp.1, hpn⟩ hq (by unfold es_vs; omega) hft
    rw [show es_fd es_oc (0) (fun s => es_b_ct J (J 7 3 - 2 - p).toNat q 17 s) (-12) 25 = _ from es_qc_d es_mc (es_gd_ct _)] at hg
    refine ⟨rfl, hf.u _ _ rfl, ?_, ?_, ?_⟩
    · intro j hj
      rw [am_u_eq, e71, am_up_ne (by omega)]
      exact hu j hj
    · intro t ht
      rw [am_u_eq, e71]
      by_cases c : t = 17
      · subst c
        rw [am_up_eq, hg]
        rfl
      · rw [am_up_ne (by unfold es_vs at ht; omega)]
        exact hx t ht c
    · intro j
      rw [am_u_eq]
      by_cases c : j = ((p * 37 + q - I 7 1) * 18 + 17).toNat
      · rw [c, am_up_eq]; omega
      · rw [am_up_ne c]; exact hv' j
  have loop2 : ∀ (m : Nat) (t : Int) (I : am_I), p < J 7 3 - 1 → es_fit (J 8 0) (J 8 1) (J 8 2) (J 7 3) p q → 0 ≤ t → t ≤ min p (J 7 5) + 1 → min p (J 7 5) + 1 - t < m → am_fr I0 I [10] → (∀ j : Nat, ¬ ((p * 37 + q - J 7 1) * 18 ≤ j ∧ (j : Int) < (p * 37 + q - J 7 1) * 18 + 18) → I 10 j = I0 10 j) → (∀ j : Nat, 0 ≤ I 10 j ∧ I 10 j ≤ 1000000000000000000) → (∀ x : Int, 0 ≤ x → x < t → I 10 ((p * 37 + q - J 7 1) * 18 + x).toNat = es_g_ct J (J 7 3 - 1 - p).toNat q (es_T x)) → am_V (d + 3) Y_mt_fillPitch (fun r I' => r = none ∧ am_fr I0 I' [10] ∧ (∀ j : Nat, ¬ ((p * 37 + q - J 7 1) * 18 ≤ j ∧ (j : Int) < (p * 37 + q - J 7 1) * 18 + 18) → I' 10 j = I0 10 j) ∧ (∀ t : Int, es_vs J p t → I' 10 ((p * 37 + q - J 7 1) * 18 + t).toNat = es_g_ct J (J 7 3 - 1 - p).toNat q (es_T t)) ∧ (∀ j : Nat, 0 ≤ I' 10 j ∧ I' 10 j ≤ 1000000000000000000)) 92 [(0, .inr (.inr 9)), (1, .inl p), (2, .inl q), (3, .inr (.inl (es_fd es_oc (0) (fun s => if s = 0 then (0) else es_b_ct J (J 7 3 - 2 - p).toNat q 0 s) (-12) 25))), (5, .inl t)] [] I := by
    intro m
    induction m with
    | zero => intro t I h0 h00 h1 h2 h3; omega
    | succ m ih =>
      intro t I hpn hft h1 h2 h3 hf hu hv' hx
      have e7 : I 7 = J 7 := (hf 7 rfl).trans h7
      have e8 : I 8 = J 8 := (hf 8 rfl).trans h8
      skip
      have e71 : I 7 1 = J 7 1 := congrFun e7 1
      have e75 : I 7 5 = J 7 5 := congrFun e7 5
      have hrw := hrowk I hpn hu
      have hb0 := hB t 0
      have hb1 := hB 16 (-2)
      have hb2 := hB 16 (-1)
      have hm := hM 25
      refine am_go 1 [] rfl trivial ?_
      repeat' (first
        | (refine am_gp 80 [92, 167] rfl (by first | trivial | exact Or.inl rfl | exact Or.inr rfl | (simp (decide := true) only [am_p, am_u_at, am_u_j, am_u_ne]; omega) | (simp (decide := true) only [am_p, and_true, true_and, true_or, or_true, am_u_at, am_u_j, am_u_ne]; omega) | (simp (decide := true) [am_p, am_u_at, am_u_j, am_u_ne]; omega)) ?_)
        | (show am_V _ _ _ _ _ _ _; simp only [Int.reduceToNat])
        | (refine am_bt rfl (by first | omega | (simp (decide := true) only [am_u_at, am_u_j, am_u_ne]; omega)) (by first | omega | (simp (decide := true) only [am_u_at, am_u_j, am_u_ne]; omega)) ?_)
        | (refine am_bf rfl (by first | omega | (simp (decide := true) only [am_u_at, am_u_j, am_u_ne]; omega)) (by first | omega | (simp (decide := true) only [am_u_at, am_u_j, am_u_ne]; omega)) ?_)
        | (refine am_br rfl (by first | omega | (simp (decide := true) only [am_u_at, am_u_j, am_u_ne]; omega)) (fun h => ?_) (fun h => ?_))
        | (refine am_cV (y' := Y_mt_byStep) rfl lk_mt_54_ct ok_mt_byStep rfl rfl rfl (c_ct_by _ _ _ _ _ _ J (by assumption) (by assumption) hr (by first | omega | (simp (decide := true) only [am_u_at, am_u_j, am_u_ne]; omega)) (by first | omega | (simp (decide := true) only [am_u_at, am_u_j, am_u_ne]; omega)) (by unfold es_vs; omega) (by first | omega | (simp (decide := true) only [am_u_at, am_u_j, am_u_ne]; omega)) (by assumption)) ?_; rintro r I ⟨rfl, rfl⟩)
        | (refine am_cU (y' := Y_ct_together) rfl lk_mt_58_ct ok_ct_together rfl rfl rfl (c_ct_together _ _ _ _ (by first | omega | (simp (decide := true) only [am_u_at, am_u_j, am_u_ne]; omega)) (by first | omega | (simp (decide := true) only [am_u_at, am_u_j, am_u_ne]; omega))) ?_; rintro r I ⟨rfl, rfl⟩)
        | (refine am_cV (y' := Y_mt_put) rfl lk_mt_71_ct ok_mt_put rfl rfl rfl (c_ct_put _ _ _ _ _ _ (by first | omega | (simp (decide := true) only [am_u_at, am_u_j, am_u_ne]; omega))) ?_; rintro r I ⟨rfl, rfl⟩)
        | (refine am_mini rfl mk_mt_65 rfl (by first | omega | (simp (decide := true) only [am_u_at, am_u_j, am_u_ne]; omega)) ?_)
        | (refine am_rt rfl (by first | trivial | exact Or.inl rfl | exact Or.inr rfl) ?_))
      · have hg := es_g_ct_cl hr (t := 16) ⟨hp.1, hpn⟩ hq (by unfold es_vs; omega) hft
        rw [show es_fd es_oc (0) (fun s => es_b_ct J (J 7 3 - 2 - p).toNat q 16 s) (-12) 25 = _ from es_qc_u es_mc (es_gd_ct _)] at hg
        refine tail _ _ _ hpn hft (hf.u _ _ rfl) ?_ ?_ ?_
        · intro j hj
          rw [am_u_eq, e71, am_up_ne (by omega)]
          exact hu j hj
        · intro j
          rw [am_u_eq]
          by_cases c : j = ((p * 37 + q - I 7 1) * 18 + 16).toNat
          · rw [c, am_up_eq]; omega
          · rw [am_up_ne c]; exact hv' j
        · intro x hxs hx7
          rw [am_u_eq, e71]
          by_cases c : x = 16
          · subst c
            rw [am_up_eq, hg]
            rfl
          · rw [am_up_ne (by unfold es_vs at hxs; omega)]
            unfold es_vs at hxs
            exact hx x (by omega) (by omega)
      · have hg := es_g_ct_cl hr (t := t) ⟨hp.1, hpn⟩ hq (by unfold es_vs; omega) hft
        rw [show es_fd es_oc (0) (fun s => es_b_ct J (J 7 3 - 2 - p).toNat q t s) (-12) 25 = _ from es_qc_z es_mc (es_gd_ct _) (by omega)] at hg
        refine ih (t + 1) _ hpn hft (by omega) (by omega) (by omega) (hf.u _ _ rfl) ?_ ?_ ?_
        · intro j hj
          rw [am_u_eq, e71, am_up_ne (by omega)]
          exact hu j hj
        · intro j
          rw [am_u_eq]
          by_cases c : j = ((p * 37 + q - I 7 1) * 18 + t).toNat
          · rw [c, am_up_eq]; omega
          · rw [am_up_ne c]; exact hv' j
        · intro x hx1 hx2
          rw [am_u_eq, e71]
          by_cases c : x = t
          · subst c
            rw [am_up_eq, hg]
            rfl
          · rw [am_up_ne (by omega)]
            exact hx x (by omega) (by omega)
  have loop1 : ∀ (m k : Nat), p < J 7 3 - 1 → es_fit (J 8 0) (J 8 1) (J 8 2) (J 7 3) p q → k ≤ 25 → 25 - k < m → am_V (d + 3) Y_mt_fillPitch (fun r I' => r = none ∧ am_fr I0 I' [10] ∧ (∀ j : Nat, ¬ ((p * 37 + q - J 7 1) * 18 ≤ j ∧ (j : Int) < (p * 37 + q - J 7 1) * 18 + 18) → I' 10 j = I0 10 j) ∧ (∀ t : Int, es_vs J p t → I' 10 ((p * 37 + q - J 7 1) * 18 + t).toNat = es_g_ct J (J 7 3 - 1 - p).toNat q (es_T t)) ∧ (∀ j : Nat, 0 ≤ I' 10 j ∧ I' 10 j ≤ 1000000000000000000)) 56 [(0, .inr (.inr 9)), (1, .inl p), (2, .inl q), (3, .inr (.inl (es_fd es_oc (0) (fun s => if s = 0 then (0) else es_b_ct J (J 7 3 - 2 - p).toNat q 0 s) (-12) k))), (5, .inl (-12 + k))] [] I0 := by
    intro m
    induction m with
    | zero => intro k h0 h00 h1 h2; omega
    | succ m ih =>
      intro k hpn hft h1 h2
      have hrw := hrow hpn
      have hb0 := hB 0 (-12 + k)
      have hm := hM k
      refine am_go 1 [] rfl trivial ?_
      repeat' (first
        | (refine am_gp 80 [56, 92] rfl (by first | trivial | exact Or.inl rfl | exact Or.inr rfl | (simp (decide := true) only [am_p, am_u_at, am_u_j, am_u_ne]; omega) | (simp (decide := true) only [am_p, and_true, true_and, true_or, or_true, am_u_at, am_u_j, am_u_ne]; omega) | (simp (decide := true) [am_p, am_u_at, am_u_j, am_u_ne]; omega)) ?_)
        | (show am_V _ _ _ _ _ _ _; simp only [Int.reduceToNat])
        | (refine am_bt rfl (by first | omega | (simp (decide := true) only [am_u_at, am_u_j, am_u_ne]; omega)) (by first | omega | (simp (decide := true) only [am_u_at, am_u_j, am_u_ne]; omega)) ?_)
        | (refine am_bf rfl (by first | omega | (simp (decide := true) only [am_u_at, am_u_j, am_u_ne]; omega)) (by first | omega | (simp (decide := true) only [am_u_at, am_u_j, am_u_ne]; omega)) ?_)
        | (refine am_br rfl (by first | omega | (simp (decide := true) only [am_u_at, am_u_j, am_u_ne]; omega)) (fun h => ?_) (fun h => ?_))
        | (refine am_cV (y' := Y_mt_byStep) rfl lk_mt_54_ct ok_mt_byStep rfl rfl rfl (c_ct_by _ _ _ _ _ _ J (by assumption) (by assumption) hr (by first | omega | (simp (decide := true) only [am_u_at, am_u_j, am_u_ne]; omega)) (by first | omega | (simp (decide := true) only [am_u_at, am_u_j, am_u_ne]; omega)) (by unfold es_vs; omega) (by first | omega | (simp (decide := true) only [am_u_at, am_u_j, am_u_ne]; omega)) (by assumption)) ?_; rintro r I0 ⟨rfl, rfl⟩)
        | (refine am_cU (y' := Y_ct_together) rfl lk_mt_58_ct ok_ct_together rfl rfl rfl (c_ct_together _ _ _ _ (by first | omega | (simp (decide := true) only [am_u_at, am_u_j, am_u_ne]; omega)) (by first | omega | (simp (decide := true) only [am_u_at, am_u_j, am_u_ne]; omega))) ?_; rintro r I0 ⟨rfl, rfl⟩)
        | (refine am_rt rfl (by first | trivial | exact Or.inl rfl | exact Or.inr rfl) ?_))
      · have ek : k = 25 := by omega
        subst ek
        exact loop2 17 0 _ hpn hft (by omega) (by omega) (by omega) am_fr.rf (fun j _ => rfl) hv (fun x h3 h4 => by omega)
      · have h9 := ih (k + 1) hpn hft (by omega) (by omega)
        rw [show -12 + ((k + 1 : Nat) : Int) = -12 + (k : Int) + 1 by omega] at h9
        have e9 : es_fd es_oc (0) (fun s => if s = 0 then (0) else es_b_ct J (J 7 3 - 2 - p).toNat q 0 s) (-12) (k + 1) = es_fd es_oc (0) (fun s => if s = 0 then (0) else es_b_ct J (J 7 3 - 2 - p).toNat q 0 s) (-12) k := by
          show es_oc (es_fd es_oc (0) (fun s => if s = 0 then (0) else es_b_ct J (J 7 3 - 2 - p).toNat q 0 s) (-12) k) (if -12 + (k : Int) = 0 then (0) else es_b_ct J (J 7 3 - 2 - p).toNat q 0 (-12 + k)) = _
          rw [if_pos (by omega)]
          exact es_mn_r es_mc (by unfold es_Dc; omega)
        rw [e9] at h9
        exact h9
      · have h9 := ih (k + 1) hpn hft (by omega) (by omega)
        rw [show -12 + ((k + 1 : Nat) : Int) = -12 + (k : Int) + 1 by omega] at h9
        have e9 : es_fd es_oc (0) (fun s => if s = 0 then (0) else es_b_ct J (J 7 3 - 2 - p).toNat q 0 s) (-12) (k + 1) = es_oc (es_fd es_oc (0) (fun s => if s = 0 then (0) else es_b_ct J (J 7 3 - 2 - p).toNat q 0 s) (-12) k) (es_b_ct J (J 7 3 - 2 - p).toNat q 0 (-12 + k)) := by
          show es_oc (es_fd es_oc (0) (fun s => if s = 0 then (0) else es_b_ct J (J 7 3 - 2 - p).toNat q 0 s) (-12) k) (if -12 + (k : Int) = 0 then (0) else es_b_ct J (J 7 3 - 2 - p).toNat q 0 (-12 + k)) = _
          rw [if_neg (by omega)]
        rw [e9] at h9
        exact h9
  repeat' (first
    | (refine am_gp 80 [56] rfl (by first | trivial | exact Or.inl rfl | exact Or.inr rfl | (simp (decide := true) only [am_p, am_u_at, am_u_j, am_u_ne]; omega) | (simp (decide := true) only [am_p, and_true, true_and, true_or, or_true, am_u_at, am_u_j, am_u_ne]; omega) | (simp (decide := true) [am_p, am_u_at, am_u_j, am_u_ne]; omega)) ?_)
    | (show am_V _ _ _ _ _ _ _; simp only [Int.reduceToNat])
    | (refine am_bt rfl (by first | omega | (simp (decide := true) only [am_u_at, am_u_j, am_u_ne]; omega)) (by first | omega | (simp (decide := true) only [am_u_at, am_u_j, am_u_ne]; omega)) ?_)
    | (refine am_bf rfl (by first | omega | (simp (decide := true) only [am_u_at, am_u_j, am_u_ne]; omega)) (by first | omega | (simp (decide := true) only [am_u_at, am_u_j, am_u_ne]; omega)) ?_)
    | (refine am_br rfl (by first | omega | (simp (decide := true) only [am_u_at, am_u_j, am_u_ne]; omega)) (fun h => ?_) (fun h => ?_))
    | (refine am_cV (y' := Y_ru_mayStand) rfl lk_mt_39 ok_ru_mayStand rfl rfl rfl (c_mayStand _ _ _ _ (by first | omega | (simp (decide := true) only [am_u_at, am_u_j, am_u_ne]; omega)) (by first | omega | (simp (decide := true) only [am_u_at, am_u_j, am_u_ne]; omega)) (by first | omega | (simp (decide := true) only [am_u_at, am_u_j, am_u_ne]; omega))) ?_; rintro r I0 ⟨rfl, (⟨rfl, hft⟩ | ⟨rfl, hft⟩)⟩ <;> (try (exfalso; omega)))
    | (refine am_cU (y' := Y_ct_ofNone) rfl lk_mt_43_ct ok_ct_ofNone rfl rfl rfl (c_ct_ofNone _ _) ?_; rintro r I0 ⟨rfl, rfl⟩)
    | (refine am_cU (y' := Y_ct_ofEnd) rfl lk_mt_51_ct ok_ct_ofEnd rfl rfl rfl (c_ct_ofEnd _ _) ?_; rintro r I0 ⟨rfl, rfl⟩)
    | (refine am_cV (y' := Y_mt_fillStates) rfl lk_mt_47_ct ok_mt_fillStates rfl rfl rfl (c_ct_fillStates _ _ _ _ _ (by first | omega | (simp (decide := true) only [am_u_at, am_u_j, am_u_ne]; omega))) ?_; rintro r I0 ⟨rfl, hfr, hfs⟩)
    | (refine am_rt rfl (by first | trivial | exact Or.inl rfl | exact Or.inr rfl) ?_))
  · rw [h7, h8] at hft
    have h9 := loop1 26 0 (by omega) hft (by omega) (by omega)
    rw [show -12 + ((0 : Nat) : Int) = -12 by omega] at h9
    exact h9
  · rw [h7, h8] at hft
    rw [a71] at hfs
    have ep : p = J 7 3 - 1 := by omega
    refine ⟨rfl, hfr, ?_, ?_, ?_⟩
    · intro j hj
      rw [hfs j, if_neg hj]
    · intro t ht
      rw [hfs, if_pos (by unfold es_vs at ht; omega), show (J 7 3 - 1 - p).toNat = 0 by omega]
      rw [ep] at hft
      exact (es_G_end _ _ hft).symm
    · intro j
      rw [hfs j]
      split
      · omega
      · exact hv j
  · rw [h7, h8] at hft
    rw [a71] at hfs
    refine ⟨rfl, hfr, ?_, ?_, ?_⟩
    · intro j hj
      rw [hfs j, if_neg hj]
    · intro t ht
      rw [hfs, if_pos (by unfold es_vs at ht; omega)]
      refine (es_G_no _ _ _ ?_).symm
      rw [show J 7 3 - 1 - ((J 7 3 - 1 - p).toNat : Int) = p by omega]
      exact hft
    · intro j
      rw [hfs j]
      split
      · omega
      · exact hv j
theorem c_ct_fill (d : Nat) (I0 : am_I) (hr : es_rb I0) (hv : ∀ j : Nat, 0 ≤ I0 10 j ∧ I0 10 j ≤ 1000000000000000000) (hfl : I0 9 2 = 0 ∨ (I0 9 2 = 1 ∧ ∀ p : Int, 0 ≤ p → p < I0 7 3 → es_row_ct I0 I0 p)) : am_C (d + 4) Y_mt_fill [.inr (.inr 9)] I0 (fun r I' => r = none ∧ am_fr I0 I' [9, 10] ∧ I' 9 2 = 1 ∧ (∀ j : Nat, 0 ≤ I' 10 j ∧ I' 10 j ≤ 1000000000000000000) ∧ ∀ p : Int, 0 ≤ p → p < I0 7 3 → es_row_ct I0 I' p) := by
  refine am_enter ok_mt_fill rfl ?_
  obtain ⟨r1, r2, r3, r4⟩ := id hr
  have loopp : ∀ (m : Nat) (p : Int) (I : am_I), -1 ≤ p → p < I0 7 3 → p + 1 < m → am_fr I0 I [9, 10] → (∀ j : Nat, 0 ≤ I 10 j ∧ I 10 j ≤ 1000000000000000000) → (∀ p' : Int, p < p' → p' < I0 7 3 → es_row_ct I0 I p') → am_V (d + 4) Y_mt_fill (fun r I' => r = none ∧ am_fr I0 I' [9, 10] ∧ I' 9 2 = 1 ∧ (∀ j : Nat, 0 ≤ I' 10 j ∧ I' 10 j ≤ 1000000000000000000) ∧ ∀ p : Int, 0 ≤ p → p < I0 7 3 → es_row_ct I0 I' p) 18 [(0, .inr (.inr 9)), (1, .inl p)] [] I := by
    intro m
    induction m with
    | zero => intro p I h1 h2 h3; omega
    | succ m ih =>
      intro p I h1 h2 h3 hf hv' hrw
      have loopq : ∀ (k : Nat) (q : Int) (I : am_I), I0 7 1 ≤ q → q ≤ I0 7 2 + 1 → I0 7 2 + 1 - q < k → 0 ≤ p → am_fr I0 I [9, 10] → (∀ j : Nat, 0 ≤ I 10 j ∧ I 10 j ≤ 1000000000000000000) → (∀ p' : Int, p < p' → p' < I0 7 3 → es_row_ct I0 I p') → (∀ q' t : Int, I0 7 1 ≤ q' → q' < q → es_vs I0 p t → I 10 ((p * 37 + q' - I0 7 1) * 18 + t).toNat = es_g_ct I0 (I0 7 3 - 1 - p).toNat q' (es_T t)) → am_V (d + 4) Y_mt_fill (fun r I' => r = none ∧ am_fr I0 I' [9, 10] ∧ I' 9 2 = 1 ∧ (∀ j : Nat, 0 ≤ I' 10 j ∧ I' 10 j ≤ 1000000000000000000) ∧ ∀ p : Int, 0 ≤ p → p < I0 7 3 → es_row_ct I0 I' p) 30 [(0, .inr (.inr 9)), (1, .inl p), (2, .inl q)] [] I := by
        intro k
        induction k with
        | zero => intro q I g1 g2 g3; omega
        | succ k ihq =>
          intro q I g1 g2 g3 hp0 hf hv' hrw hq
          have e7 : I 7 = I0 7 := hf 7 rfl
          have e8 : I 8 = I0 8 := hf 8 rfl
          skip
          have e71 : I 7 1 = I0 7 1 := congrFun e7 1
          have e72 : I 7 2 = I0 7 2 := congrFun e7 2
          have hrow : p < I0 7 3 - 1 → es_row_ct I0 I (p + 1) := fun h => hrw _ (by omega) (by omega)
          refine am_go 1 [] rfl trivial ?_
          repeat' (first
            | (refine am_gp 80 [18, 30] rfl (by first | trivial | exact Or.inl rfl | exact Or.inr rfl | (simp (decide := true) only [am_p, am_u_at, am_u_j, am_u_ne]; omega) | (simp (decide := true) only [am_p, and_true, true_and, true_or, or_true, am_u_at, am_u_j, am_u_ne]; omega) | (simp (decide := true) [am_p, am_u_at, am_u_j, am_u_ne]; omega)) ?_)
            | (show am_V _ _ _ _ _ _ _; simp only [Int.reduceToNat])
            | (refine am_bt rfl (by first | omega | (simp (decide := true) only [am_u_at, am_u_j, am_u_ne]; omega)) (by first | omega | (simp (decide := true) only [am_u_at, am_u_j, am_u_ne]; omega)) ?_)
            | (refine am_bf rfl (by first | omega | (simp (decide := true) only [am_u_at, am_u_j, am_u_ne]; omega)) (by first | omega | (simp (decide := true) only [am_u_at, am_u_j, am_u_ne]; omega)) ?_)
            | (refine am_br rfl (by first | omega | (simp (decide := true) only [am_u_at, am_u_j, am_u_ne]; omega)) (fun h => ?_) (fun h => ?_))
            | (refine am_cV (y' := Y_mt_fillPitch) rfl lk_mt_35_ct ok_mt_fillPitch rfl rfl rfl (c_ct_fillPitch _ _ _ _ I0 (by assumption) (by assumption) hr (by first | omega | (simp (decide := true) only [am_u_at, am_u_j, am_u_ne]; omega)) (by first | omega | (simp (decide := true) only [am_u_at, am_u_j, am_u_ne]; omega)) (by assumption) (by assumption)) ?_; rintro r I ⟨rfl, hfr, hou, hin, hvn⟩)
            | (refine am_rt rfl (by first | trivial | exact Or.inl rfl | exact Or.inr rfl) ?_))
          · refine am_wk [2] ?_
            refine ih (p - 1) _ (by omega) (by omega) (by omega) hf hv' ?_
            intro p' h5 h6
            by_cases c : p' = p
            · rw [c]
              exact fun q' t g7 g8 g9 => hq q' t g7 (by omega) g9
            · exact hrw p' (by omega) h6
          · refine ihq (q + 1) _ (by omega) (by omega) (by omega) hp0 (hf.tr (hfr.wd rfl)) hvn ?_ ?_
            · intro p' h5 h6
              refine es_row_ct_u (hrw p' h5 h6) (fun q' t' g7 g8 g9 => hou _ ?_)
              unfold es_vs at g9
              omega
            · intro q' t g7 g8 g9
              by_cases c : q' = q
              · rw [c]
                exact hin t g9
              · rw [hou _ (by unfold es_vs at g9; omega)]
                exact hq q' t g7 (by omega) g9
      have e71 : I 7 1 = I0 7 1 := by rw [hf 7 rfl]
      refine am_go 1 [] rfl trivial ?_
      repeat' (first
        | (refine am_gp 80 [30] rfl (by first | trivial | exact Or.inl rfl | exact Or.inr rfl | (simp (decide := true) only [am_p, am_u_at, am_u_j, am_u_ne]; omega) | (simp (decide := true) only [am_p, and_true, true_and, true_or, or_true, am_u_at, am_u_j, am_u_ne]; omega) | (simp (decide := true) [am_p, am_u_at, am_u_j, am_u_ne]; omega)) ?_)
        | (show am_V _ _ _ _ _ _ _; simp only [Int.reduceToNat])
        | (refine am_bt rfl (by first | omega | (simp (decide := true) only [am_u_at, am_u_j, am_u_ne]; omega)) (by first | omega | (simp (decide := true) only [am_u_at, am_u_j, am_u_ne]; omega)) ?_)
        | (refine am_bf rfl (by first | omega | (simp (decide := true) only [am_u_at, am_u_j, am_u_ne]; omega)) (by first | omega | (simp (decide := true) only [am_u_at, am_u_j, am_u_ne]; omega)) ?_)
        | (refine am_br rfl (by first | omega | (simp (decide := true) only [am_u_at, am_u_j, am_u_ne]; omega)) (fun h => ?_) (fun h => ?_))
        | (refine am_rt rfl (by first | trivial | exact Or.inl rfl | exact Or.inr rfl) ?_))
      · refine ⟨rfl, hf.u _ _ rfl, by simp (decide := true) only [am_u_at, am_u_j, am_u_ne], ?_, ?_⟩
        · intro j
          rw [am_u_ne (by decide)]
          exact hv' j
        · intro p' h5 h6
          exact es_row_ct_u (hrw p' (by omega) h6) (fun q' t' g7 g8 g9 => by rw [am_u_ne (by decide)])
      · rw [e71]
        exact loopq 38 (I0 7 1) I (by omega) (by omega) (by omega) (by omega) hf hv' hrw (fun q' t g7 g8 g9 => by omega)
  repeat' (first
    | (refine am_gp 80 [18] rfl (by first | trivial | exact Or.inl rfl | exact Or.inr rfl | (simp (decide := true) only [am_p, am_u_at, am_u_j, am_u_ne]; omega) | (simp (decide := true) only [am_p, and_true, true_and, true_or, or_true, am_u_at, am_u_j, am_u_ne]; omega) | (simp (decide := true) [am_p, am_u_at, am_u_j, am_u_ne]; omega)) ?_)
    | (show am_V _ _ _ _ _ _ _; simp only [Int.reduceToNat])
    | (refine am_bt rfl (by first | omega | (simp (decide := true) only [am_u_at, am_u_j, am_u_ne]; omega)) (by first | omega | (simp (decide := true) only [am_u_at, am_u_j, am_u_ne]; omega)) ?_)
    | (refine am_bf rfl (by first | omega | (simp (decide := true) only [am_u_at, am_u_j, am_u_ne]; omega)) (by first | omega | (simp (decide := true) only [am_u_at, am_u_j, am_u_ne]; omega)) ?_)
    | (refine am_br rfl (by first | omega | (simp (decide := true) only [am_u_at, am_u_j, am_u_ne]; omega)) (fun h => ?_) (fun h => ?_))
    | (refine am_rt rfl (by first | trivial | exact Or.inl rfl | exact Or.inr rfl) ?_))
  · exact loopp 17 (I0 7 3 - 1) I0 (by omega) (by omega) (by omega) am_fr.rf hv (fun p' h5 h6 => by omega)
  · refine ⟨rfl, am_fr.rf, by omega, hv, ?_⟩
    rcases hfl with hfl | hfl
    · omega
    · exact hfl.2
end
section
noncomputable def es_g_wt (J : am_I) : Nat → Int → Int → Int := es_G es_om (-1) 0 (es_ws (J 13)) (J 7 1) (J 7 2) (J 7 3) (J 8 0) (J 8 1) (J 8 2) (J 8 3) (J 7 4) (J 7 5)
noncomputable def es_b_wt (J : am_I) (m : Nat) (q t s : Int) : Int := es_B (es_ws (J 13)) (es_g_wt J m) (-1) (J 7 1) (J 7 2) (J 8 3) (J 7 4) (J 7 5) q t s
def es_row_wt (J I : am_I) (p : Int) : Prop := ∀ q t : Int, J 7 1 ≤ q → q ≤ J 7 2 → es_vs J p t → I 12 ((p * 37 + q - J 7 1) * 18 + t).toNat = es_g_wt J (J 7 3 - 1 - p).toNat q (es_T t)
theorem es_row_wt_u {J I I' : am_I} {p : Int} (h : es_row_wt J I p) (he : ∀ q t : Int, J 7 1 ≤ q → q ≤ J 7 2 → es_vs J p t → I' 12 ((p * 37 + q - J 7 1) * 18 + t).toNat = I 12 ((p * 37 + q - J 7 1) * 18 + t).toNat) : es_row_wt J I' p := fun q t h1 h2 h3 => (he q t h1 h2 h3).trans (h q t h1 h2 h3)
theorem c_wt_by (d : Nat) (p q t s : Int) (I J : am_I) (h7 : I 7 = J 7) (h8 : I 8 = J 8) (h13 : I 13 = J 13) (hr : es_rb J) (hp : 0 ≤ p ∧ p < J 7 3 - 1) (hq : J 7 1 ≤ q ∧ q ≤ J 7 2) (ht : es_vs J p t) (hs : -1000 ≤ s ∧ s ≤ 1000) (hv : ∀ j : Nat, -1 ≤ I 12 j ∧ I 12 j ≤ 1000000000) (hw : ∀ j : Nat, j < 13 → 0 ≤ J 13 j ∧ J 13 j ≤ 1000000) (hrw : es_row_wt J I (p + 1)) : am_C (d + 2) Y_mt_byStep [.inr (.inr 11), .inl p, .inl q, .inl t, .inl s] I (fun r I' => I' = I ∧ r = some (.inr (.inl (es_b_wt J (J 7 3 - 2 - p).toNat q t s)))) := by
  have hr' : es_rb I := by unfold es_rb; rw [h7]; exact hr
  obtain ⟨r1, r2, r3, r4⟩ := id hr
  have ht' : 0 ≤ t ∧ t ≤ 17 := by unfold es_vs at ht; omega
  refine am_C_mono (c_wt_byStep d p q t s I hr' (by omega) (by rw [h7]; omega) ht' hs hv (by rw [h13]; exact hw)) ?_
  rintro r I' ⟨e0, (⟨h, rfl⟩ | ⟨h, rfl⟩)⟩
  · refine ⟨e0, ?_⟩
    rw [h7, h8] at h
    have hvs : es_vs J (p + 1) (es_nx (J 7 4) t s) := by
      have h3 := es_nx_c (J 7 4) t s
      have h4 := h.2.2
      unfold es_may at h4
      unfold es_vs at ht ⊢
      omega
    have hx := hrw (q + s) (es_nx (J 7 4) t s) h.1 h.2.1 hvs
    unfold es_b_wt es_B
    rw [es_if_t h, h7, h13, hx, show J 7 3 - 1 - (p + 1) = J 7 3 - 2 - p by omega]
  · refine ⟨e0, ?_⟩
    rw [h7, h8] at h
    unfold es_b_wt es_B
    rw [es_if_f h]
theorem es_gd_wt {J : am_I} (hw : ∀ j : Nat, j < 13 → 0 ≤ J 13 j ∧ J 13 j ≤ 1000000) (m : Nat) : ∀ s q u, es_Dm ((es_ws (J 13)) s (es_g_wt J m q u)) := by
  intro s q u
  unfold es_g_wt
  exact es_ws_D hw _ _ (es_Gw_D hw _ _ _)
theorem es_g_wt_cl {J : am_I} (hr : es_rb J) (hw : ∀ j : Nat, j < 13 → 0 ≤ J 13 j ∧ J 13 j ≤ 1000000) {p q t : Int} (hp : 0 ≤ p ∧ p < J 7 3 - 1) (hq : J 7 1 ≤ q ∧ q ≤ J 7 2) (ht : es_vs J p t) (hf : es_fit (J 8 0) (J 8 1) (J 8 2) (J 7 3) p q) : es_g_wt J (J 7 3 - 1 - p).toNat q (es_T t) = es_fd es_om (-1) (fun s => es_b_wt J (J 7 3 - 2 - p).toNat q t s) (-12) 25 := by
  obtain ⟨r1, r2, r3, r4⟩ := id hr
  unfold es_vs at ht
  have em : (J 7 3 - 1 - p).toNat = (J 7 3 - 2 - p).toNat + 1 := by omega
  have ep : J 7 3 - 1 - (((J 7 3 - 2 - p).toNat + 1 : Nat) : Int) = p := by omega
  unfold es_g_wt
  rw [em, es_G_on _ _ _ (by rw [ep]; exact hf)]
  exact es_qc es_mm (g := es_g_wt J (J 7 3 - 2 - p).toNat) (es_gd_wt hw _) (by omega) r3 r4 (by omega) (by omega)
theorem es_b_wt_rng {J : am_I} (hw : ∀ j : Nat, j < 13 → 0 ≤ J 13 j ∧ J 13 j ≤ 1000000) (m : Nat) (hm : m ≤ 15) (q t s : Int) : -1 ≤ es_b_wt J m q t s ∧ es_b_wt J m q t s ≤ 16000000 := by
  constructor
  · exact es_B_D (D := es_Dm) (by unfold es_Dm; omega) (es_gd_wt hw m) _ _ _ _ _ _ _ _
  · refine es_B_D (D := fun x => x ≤ 16000000) (by omega) (fun s q u => ?_) _ _ _ _ _ _ _ _
    show es_ws (J 13) s (es_g_wt J m q u) ≤ 16000000
    have h1 : es_g_wt J m q u ≤ 1000000 * (m : Int) := es_Gw_le hw m q u
    have h2 := es_wsle hw (s := s) (b := 15000000) (by omega) (show es_g_wt J m q u ≤ 15000000 by omega)
    omega
theorem c_wt_fillPitch (d : Nat) (p q : Int) (I0 J : am_I) (h7 : I0 7 = J 7) (h8 : I0 8 = J 8) (h13 : I0 13 = J 13) (hr : es_rb J) (hp : 0 ≤ p ∧ p < J 7 3) (hq : J 7 1 ≤ q ∧ q ≤ J 7 2) (hv : ∀ j : Nat, -1 ≤ I0 12 j ∧ I0 12 j ≤ 1000000000) (hw : ∀ j : Nat, j < 13 → 0 ≤ J 13 j ∧ J 13 j ≤ 1000000) (hrow : p < J 7 3 - 1 → es_row_wt J I0 (p + 1)) : am_C (d + 3) Y_mt_fillPitch [.inr (.inr 11), .inl p, .inl q] I0 (fun r I' => r = none ∧ am_fr I0 I' [12] ∧ (∀ j : Nat, ¬ ((p * 37 + q - J 7 1) * 18 ≤ j ∧ (j : Int) < (p * 37 + q - J 7 1) * 18 + 18) → I' 12 j = I0 12 j) ∧ (∀ t : Int, es_vs J p t → I' 12 ((p * 37 + q - J 7 1) * 18 + t).toNat = es_g_wt J (J 7 3 - 1 - p).toNat q (es_T t)) ∧ (∀ j : Nat, -1 ≤ I' 12 j ∧ I' 12 j ≤ 1000000000)) := by
  refine am_enter ok_mt_fillPitch rfl ?_
  obtain ⟨r1, r2, r3, r4⟩ := id hr
  have a71 : I0 7 1 = J 7 1 := congrFun h7 1
  have a72 : I0 7 2 = J 7 2 := congrFun h7 2
  have a73 : I0 7 3 = J 7 3 := congrFun h7 3
  have hB := es_b_wt_rng (J := J) hw (J 7 3 - 2 - p).toNat (by omega) q
  have hM : ∀ k : Nat, -1 ≤ es_fd es_om (-1) (fun s => if s = 0 then (-1) else es_b_wt J (J 7 3 - 2 - p).toNat q 0 s) (-12) k ∧ es_fd es_om (-1) (fun s => if s = 0 then (-1) else es_b_wt J (J 7 3 - 2 - p).toNat q 0 s) (-12) k ≤ 16000000 := by
    intro k
    refine ⟨es_fd_D (D := es_Dm) es_mm (fun x => ?_) k, es_fm_le (by omega) (fun x => ?_) k⟩
    · show es_Dm (if x = 0 then (-1) else es_b_wt J (J 7 3 - 2 - p).toNat q 0 x)
      split
      · unfold es_Dm; omega
      · exact (hB 0 x).1
    · show (if x = 0 then (-1) else es_b_wt J (J 7 3 - 2 - p).toNat q 0 x) ≤ 16000000
      split
      · omega
      · exact (hB 0 x).2
  have hrowk : ∀ I : am_I, p < J 7 3 - 1 → (∀ j : Nat, ¬ ((p * 37 + q - J 7 1) * 18 ≤ j ∧ (j : Int) < (p * 37 + q - J 7 1) * 18 + 18) → I 12 j = I0 12 j) → es_row_wt J I (p + 1) := by
    intro I hpn hu
    refine es_row_wt_u (hrow hpn) (fun q' t' h1 h2 h3 => hu _ ?_)
    unfold es_vs at h3
    omega
  have tail : ∀ (x3 : am_v) (x5 : am_v) (I : am_I), p < J 7 3 - 1 → es_fit (J 8 0) (J 8 1) (J 8 2) (J 7 3) p q → am_fr I0 I [12] → (∀ j : Nat, ¬ ((p * 37 + q - J 7 1) * 18 ≤ j ∧ (j : Int) < (p * 37 + q - J 7 1) * 18 + 18) → I 12 j = I0 12 j) → (∀ j : Nat, -1 ≤ I 12 j ∧ I 12 j ≤ 1000000000) → (∀ t : Int, es_vs J p t → t ≠ 17 → I 12 ((p * 37 + q - J 7 1) * 18 + t).toNat = es_g_wt J (J 7 3 - 1 - p).toNat q (es_T t)) → am_V (d + 3) Y_mt_fillPitch (fun r I' => r = none ∧ am_fr I0 I' [12] ∧ (∀ j : Nat, ¬ ((p * 37 + q - J 7 1) * 18 ≤ j ∧ (j : Int) < (p * 37 + q - J 7 1) * 18 + 18) → I' 12 j = I0 12 j) ∧ (∀ t : Int, es_vs J p t → I' 12 ((p * 37 + q - J 7 1) * 18 + t).toNat = es_g_wt J (J 7 3 - 1 - p).toNat q (es_T t)) ∧ (∀ j : Nat, -1 ≤ I' 12 j ∧ I' 12 j ≤ 1000000000)) 167 [(0, .inr (.inr 11)), (1, .inl p), (2, .inl q), (3, x3), (5, x5)] [] I := by
    intro x3 x5 I hpn hft hf hu hv' hx
    have e7 : I 7 = J 7 := (hf 7 rfl).trans h7
    have e8 : I 8 = J 8 := (hf 8 rfl).trans h8
    have e13 : I 13 = J 13 := (hf 13 rfl).trans h13
    have e71 : I 7 1 = J 7 1 := congrFun e7 1
    have hrw := hrowk I hpn hu
    have hb1 := hB 17 1
    have hb2 := hB 17 2
    repeat' (first
      | (refine am_gp 80 [] rfl (by first | trivial | exact Or.inl rfl | exact Or.inr rfl | (simp (decide := true) only [am_p, am_u_at, am_u_j, am_u_ne]; omega) | (simp (decide := true) only [am_p, and_true, true_and, true_or, or_true, am_u_at, am_u_j, am_u_ne]; omega) | (simp (decide := true) [am_p, am_u_at, am_u_j, am_u_ne]; omega)) ?_)
      | (show am_V _ _ _ _ _ _ _; simp only [Int.reduceToNat])
      | (refine am_bt rfl (by first | omega | (simp (decide := true) only [am_u_at, am_u_j, am_u_ne]; omega)) (by first | omega | (simp (decide := true) only [am_u_at, am_u_j, am_u_ne]; omega)) ?_)
      | (refine am_bf rfl (by first | omega | (simp (decide := true) only [am_u_at, am_u_j, am_u_ne]; omega)) (by first | omega | (simp (decide := true) only [am_u_at, am_u_j, am_u_ne]; omega)) ?_)
      | (refine am_br rfl (by first | omega | (simp (decide := true) only [am_u_at, am_u_j, am_u_ne]; omega)) (fun h => ?_) (fun h => ?_))
      | (refine am_cV (y' := Y_mt_byStep) rfl lk_mt_54_wt ok_mt_byStep rfl rfl rfl (c_wt_by _ _ _ _ _ _ J (by assumption) (by assumption) (by assumption) hr (by first | omega | (simp (decide := true) only [am_u_at, am_u_j, am_u_ne]; omega)) (by first | omega | (simp (decide := true) only [am_u_at, am_u_j, am_u_ne]; omega)) (by unfold es_vs; omega) (by first | omega | (simp (decide := true) only [am_u_at, am_u_j, am_u_ne]; omega)) (by assumption) hw (by assumption)) ?_; rintro r I ⟨rfl, rfl⟩)
      | (refine am_cU (y' := Y_wt_together) rfl lk_mt_58_wt ok_wt_together rfl rfl rfl (c_wt_together _ _ _ _ (by first | omega | (simp (decide := true) only [am_u_at, am_u_j, am_u_ne]; omega)) (by first | omega | (simp (decide := true) only [am_u_at, am_u_j, am_u_ne]; omega))) ?_; rintro r I ⟨rfl, rfl⟩)
      | (refine am_cV (y' := Y_mt_put) rfl lk_mt_71_wt ok_mt_put rfl rfl rfl (c_wt_put _ _ _ _ _ _ (by first | omega | (simp (decide := true) only [am_u_at, am_u_j, am_u_ne]; omega))) ?_; rintro r I ⟨rfl, rfl⟩)
      | (refine am_rt rfl (by first | trivial | exact Or.inl rfl | exact Or.inr rfl) ?_))
    have hg := es_g_wt_cl hr hw (t := 17) ⟨hp.1, hpn⟩ hq (by unfold es_vs; omega) hft
    rw [show es_fd es_om (-1) (fun s => es_b_wt J (J 7 3 - 2 - p).toNat q 17 s) (-12) 25 = _ from es_qc_d es_mm (es_gd_wt hw _)] at hg
    refine ⟨rfl, hf.u _ _ rfl, ?_, ?_, ?_⟩
    · intro j hj
      rw [am_u_eq, e71, am_up_ne (by omega)]
      exact hu j hj
    · intro t ht
      rw [am_u_eq, e71]
      by_cases c : t = 17
      · subst c
        rw [am_up_eq, hg]
        rfl
      · rw [am_up_ne (by unfold es_vs at ht; omega)]
        exact hx t ht c
    · intro j
      rw [am_u_eq]
      by_cases c : j = ((p * 37 + q - I 7 1) * 18 + 17).toNat
      · rw [c, am_up_eq]; omega
      · rw [am_up_ne c]; exact hv' j
  have loop2 : ∀ (m : Nat) (t : Int) (I : am_I), p < J 7 3 - 1 → es_fit (J 8 0) (J 8 1) (J 8 2) (J 7 3) p q → 0 ≤ t → t ≤ min p (J 7 5) + 1 → min p (J 7 5) + 1 - t < m → am_fr I0 I [12] → (∀ j : Nat, ¬ ((p * 37 + q - J 7 1) * 18 ≤ j ∧ (j : Int) < (p * 37 + q - J 7 1) * 18 + 18) → I 12 j = I0 12 j) → (∀ j : Nat, -1 ≤ I 12 j ∧ I 12 j ≤ 1000000000) → (∀ x : Int, 0 ≤ x → x < t → I 12 ((p * 37 + q - J 7 1) * 18 + x).toNat = es_g_wt J (J 7 3 - 1 - p).toNat q (es_T x)) → am_V (d + 3) Y_mt_fillPitch (fun r I' => r = none ∧ am_fr I0 I' [12] ∧ (∀ j : Nat, ¬ ((p * 37 + q - J 7 1) * 18 ≤ j ∧ (j : Int) < (p * 37 + q - J 7 1) * 18 + 18) → I' 12 j = I0 12 j) ∧ (∀ t : Int, es_vs J p t → I' 12 ((p * 37 + q - J 7 1) * 18 + t).toNat = es_g_wt J (J 7 3 - 1 - p).toNat q (es_T t)) ∧ (∀ j : Nat, -1 ≤ I' 12 j ∧ I' 12 j ≤ 1000000000)) 92 [(0, .inr (.inr 11)), (1, .inl p), (2, .inl q), (3, .inr (.inl (es_fd es_om (-1) (fun s => if s = 0 then (-1) else es_b_wt J (J 7 3 - 2 - p).toNat q 0 s) (-12) 25))), (5, .inl t)] [] I := by
    intro m
    induction m with
    | zero => intro t I h0 h00 h1 h2 h3; omega
    | succ m ih =>
      intro t I hpn hft h1 h2 h3 hf hu hv' hx
      have e7 : I 7 = J 7 := (hf 7 rfl).trans h7
      have e8 : I 8 = J 8 := (hf 8 rfl).trans h8
      have e13 : I 13 = J 13 := (hf 13 rfl).trans h13
      have e71 : I 7 1 = J 7 1 := congrFun e7 1
      have e75 : I 7 5 = J 7 5 := congrFun e7 5
      have hrw := hrowk I hpn hu
      have hb0 := hB t 0
      have hb1 := hB 16 (-2)
      have hb2 := hB 16 (-1)
      have hm := hM 25
      refine am_go 1 [] rfl trivial ?_
      repeat' (first
        | (refine am_gp 80 [92, 167] rfl (by first | trivial | exact Or.inl rfl | exact Or.inr rfl | (simp (decide := true) only [am_p, am_u_at, am_u_j, am_u_ne]; omega) | (simp (decide := true) only [am_p, and_true, true_and, true_or, or_true, am_u_at, am_u_j, am_u_ne]; omega) | (simp (decide := true) [am_p, am_u_at, am_u_j, am_u_ne]; omega)) ?_)
        | (show am_V _ _ _ _ _ _ _; simp only [Int.reduceToNat])
        | (refine am_bt rfl (by first | omega | (simp (decide := true) only [am_u_at, am_u_j, am_u_ne]; omega)) (by first | omega | (simp (decide := true) only [am_u_at, am_u_j, am_u_ne]; omega)) ?_)
        | (refine am_bf rfl (by first | omega | (simp (decide := true) only [am_u_at, am_u_j, am_u_ne]; omega)) (by first | omega | (simp (decide := true) only [am_u_at, am_u_j, am_u_ne]; omega)) ?_)
        | (refine am_br rfl (by first | omega | (simp (decide := true) only [am_u_at, am_u_j, am_u_ne]; omega)) (fun h => ?_) (fun h => ?_))
        | (refine am_cV (y' := Y_mt_byStep) rfl lk_mt_54_wt ok_mt_byStep rfl rfl rfl (c_wt_by _ _ _ _ _ _ J (by assumption) (by assumption) (by assumption) hr (by first | omega | (simp (decide := true) only [am_u_at, am_u_j, am_u_ne]; omega)) (by first | omega | (simp (decide := true) only [am_u_at, am_u_j, am_u_ne]; omega)) (by unfold es_vs; omega) (by first | omega | (simp (decide := true) only [am_u_at, am_u_j, am_u_ne]; omega)) (by assumption) hw (by assumption)) ?_; rintro r I ⟨rfl, rfl⟩)
        | (refine am_cU (y' := Y_wt_together) rfl lk_mt_58_wt ok_wt_together rfl rfl rfl (c_wt_together _ _ _ _ (by first | omega | (simp (decide := true) only [am_u_at, am_u_j, am_u_ne]; omega)) (by first | omega | (simp (decide := true) only [am_u_at, am_u_j, am_u_ne]; omega))) ?_; rintro r I ⟨rfl, rfl⟩)
        | (refine am_cV (y' := Y_mt_put) rfl lk_mt_71_wt ok_mt_put rfl rfl rfl (c_wt_put _ _ _ _ _ _ (by first | omega | (simp (decide := true) only [am_u_at, am_u_j, am_u_ne]; omega))) ?_; rintro r I ⟨rfl, rfl⟩)
        | (refine am_mini rfl mk_mt_65 rfl (by first | omega | (simp (decide := true) only [am_u_at, am_u_j, am_u_ne]; omega)) ?_)
        | (refine am_rt rfl (by first | trivial | exact Or.inl rfl | exact Or.inr rfl) ?_))
      · have hg := es_g_wt_cl hr hw (t := 16) ⟨hp.1, hpn⟩ hq (by unfold es_vs; omega) hft
        rw [show es_fd es_om (-1) (fun s => es_b_wt J (J 7 3 - 2 - p).toNat q 16 s) (-12) 25 = _ from es_qc_u es_mm (es_gd_wt hw _)] at hg
        refine tail _ _ _ hpn hft (hf.u _ _ rfl) ?_ ?_ ?_
        · intro j hj
          rw [am_u_eq, e71, am_up_ne (by omega)]
          exact hu j hj
        · intro j
          rw [am_u_eq]
          by_cases c : j = ((p * 37 + q - I 7 1) * 18 + 16).toNat
          · rw [c, am_up_eq]; omega
          · rw [am_up_ne c]; exact hv' j
        · intro x hxs hx7
          rw [am_u_eq, e71]
          by_cases c : x = 16
          · subst c
            rw [am_up_eq, hg]
            rfl
          · rw [am_up_ne (by unfold es_vs at hxs; omega)]
            unfold es_vs at hxs
            exact hx x (by omega) (by omega)
      · have hg := es_g_wt_cl hr hw (t := t) ⟨hp.1, hpn⟩ hq (by unfold es_vs; omega) hft
        rw [show es_fd es_om (-1) (fun s => es_b_wt J (J 7 3 - 2 - p).toNat q t s) (-12) 25 = _ from es_qc_z es_mm (es_gd_wt hw _) (by omega)] at hg
        refine ih (t + 1) _ hpn hft (by omega) (by omega) (by omega) (hf.u _ _ rfl) ?_ ?_ ?_
        · intro j hj
          rw [am_u_eq, e71, am_up_ne (by omega)]
          exact hu j hj
        · intro j
          rw [am_u_eq]
          by_cases c : j = ((p * 37 + q - I 7 1) * 18 + t).toNat
          · rw [c, am_up_eq]; omega
          · rw [am_up_ne c]; exact hv' j
        · intro x hx1 hx2
          rw [am_u_eq, e71]
          by_cases c : x = t
          · subst c
            rw [am_up_eq, hg]
            rfl
          · rw [am_up_ne (by omega)]
            exact hx x (by omega) (by omega)
  have loop1 : ∀ (m k : Nat), p < J 7 3 - 1 → es_fit (J 8 0) (J 8 1) (J 8 2) (J 7 3) p q → k ≤ 25 → 25 - k < m → am_V (d + 3) Y_mt_fillPitch (fun r I' => r = none ∧ am_fr I0 I' [12] ∧ (∀ j : Nat, ¬ ((p * 37 + q - J 7 1) * 18 ≤ j ∧ (j : Int) < (p * 37 + q - J 7 1) * 18 + 18) → I' 12 j = I0 12 j) ∧ (∀ t : Int, es_vs J p t → I' 12 ((p * 37 + q - J 7 1) * 18 + t).toNat = es_g_wt J (J 7 3 - 1 - p).toNat q (es_T t)) ∧ (∀ j : Nat, -1 ≤ I' 12 j ∧ I' 12 j ≤ 1000000000)) 56 [(0, .inr (.inr 11)), (1, .inl p), (2, .inl q), (3, .inr (.inl (es_fd es_om (-1) (fun s => if s = 0 then (-1) else es_b_wt J (J 7 3 - 2 - p).toNat q 0 s) (-12) k))), (5, .inl (-12 + k))] [] I0 := by
    intro m
    induction m with
    | zero => intro k h0 h00 h1 h2; omega
    | succ m ih =>
      intro k hpn hft h1 h2
      have hrw := hrow hpn
      have hb0 := hB 0 (-12 + k)
      have hm := hM k
      refine am_go 1 [] rfl trivial ?_
      repeat' (first
        | (refine am_gp 80 [56, 92] rfl (by first | trivial | exact Or.inl rfl | exact Or.inr rfl | (simp (decide := true) only [am_p, am_u_at, am_u_j, am_u_ne]; omega) | (simp (decide := true) only [am_p, and_true, true_and, true_or, or_true, am_u_at, am_u_j, am_u_ne]; omega) | (simp (decide := true) [am_p, am_u_at, am_u_j, am_u_ne]; omega)) ?_)
        | (show am_V _ _ _ _ _ _ _; simp only [Int.reduceToNat])
        | (refine am_bt rfl (by first | omega | (simp (decide := true) only [am_u_at, am_u_j, am_u_ne]; omega)) (by first | omega | (simp (decide := true) only [am_u_at, am_u_j, am_u_ne]; omega)) ?_)
        | (refine am_bf rfl (by first | omega | (simp (decide := true) only [am_u_at, am_u_j, am_u_ne]; omega)) (by first | omega | (simp (decide := true) only [am_u_at, am_u_j, am_u_ne]; omega)) ?_)
        | (refine am_br rfl (by first | omega | (simp (decide := true) only [am_u_at, am_u_j, am_u_ne]; omega)) (fun h => ?_) (fun h => ?_))
        | (refine am_cV (y' := Y_mt_byStep) rfl lk_mt_54_wt ok_mt_byStep rfl rfl rfl (c_wt_by _ _ _ _ _ _ J (by assumption) (by assumption) (by assumption) hr (by first | omega | (simp (decide := true) only [am_u_at, am_u_j, am_u_ne]; omega)) (by first | omega | (simp (decide := true) only [am_u_at, am_u_j, am_u_ne]; omega)) (by unfold es_vs; omega) (by first | omega | (simp (decide := true) only [am_u_at, am_u_j, am_u_ne]; omega)) (by assumption) hw (by assumption)) ?_; rintro r I0 ⟨rfl, rfl⟩)
        | (refine am_cU (y' := Y_wt_together) rfl lk_mt_58_wt ok_wt_together rfl rfl rfl (c_wt_together _ _ _ _ (by first | omega | (simp (decide := true) only [am_u_at, am_u_j, am_u_ne]; omega)) (by first | omega | (simp (decide := true) only [am_u_at, am_u_j, am_u_ne]; omega))) ?_; rintro r I0 ⟨rfl, rfl⟩)
        | (refine am_rt rfl (by first | trivial | exact Or.inl rfl | exact Or.inr rfl) ?_))
      · have ek : k = 25 := by omega
        subst ek
        exact loop2 17 0 _ hpn hft (by omega) (by omega) (by omega) am_fr.rf (fun j _ => rfl) hv (fun x h3 h4 => by omega)
      · have h9 := ih (k + 1) hpn hft (by omega) (by omega)
        rw [show -12 + ((k + 1 : Nat) : Int) = -12 + (k : Int) + 1 by omega] at h9
        have e9 : es_fd es_om (-1) (fun s => if s = 0 then (-1) else es_b_wt J (J 7 3 - 2 - p).toNat q 0 s) (-12) (k + 1) = es_fd es_om (-1) (fun s => if s = 0 then (-1) else es_b_wt J (J 7 3 - 2 - p).toNat q 0 s) (-12) k := by
          show es_om (es_fd es_om (-1) (fun s => if s = 0 then (-1) else es_b_wt J (J 7 3 - 2 - p).toNat q 0 s) (-12) k) (if -12 + (k : Int) = 0 then (-1) else es_b_wt J (J 7 3 - 2 - p).toNat q 0 (-12 + k)) = _
          rw [if_pos (by omega)]
          exact es_mn_r es_mm (by unfold es_Dm; omega)
        rw [e9] at h9
        exact h9
      · have h9 := ih (k + 1) hpn hft (by omega) (by omega)
        rw [show -12 + ((k + 1 : Nat) : Int) = -12 + (k : Int) + 1 by omega] at h9
        have e9 : es_fd es_om (-1) (fun s => if s = 0 then (-1) else es_b_wt J (J 7 3 - 2 - p).toNat q 0 s) (-12) (k + 1) = es_om (es_fd es_om (-1) (fun s => if s = 0 then (-1) else es_b_wt J (J 7 3 - 2 - p).toNat q 0 s) (-12) k) (es_b_wt J (J 7 3 - 2 - p).toNat q 0 (-12 + k)) := by
          show es_om (es_fd es_om (-1) (fun s => if s = 0 then (-1) else es_b_wt J (J 7 3 - 2 - p).toNat q 0 s) (-12) k) (if -12 + (k : Int) = 0 then (-1) else es_b_wt J (J 7 3 - 2 - p).toNat q 0 (-12 + k)) = _
          rw [if_neg (by omega)]
        rw [e9] at h9
        exact h9
  repeat' (first
    | (refine am_gp 80 [56] rfl (by first | trivial | exact Or.inl rfl | exact Or.inr rfl | (simp (decide := true) only [am_p, am_u_at, am_u_j, am_u_ne]; omega) | (simp (decide := true) only [am_p, and_true, true_and, true_or, or_true, am_u_at, am_u_j, am_u_ne]; omega) | (simp (decide := true) [am_p, am_u_at, am_u_j, am_u_ne]; omega)) ?_)
    | (show am_V _ _ _ _ _ _ _; simp only [Int.reduceToNat])
    | (refine am_bt rfl (by first | omega | (simp (decide := true) only [am_u_at, am_u_j, am_u_ne]; omega)) (by first | omega | (simp (decide := true) only [am_u_at, am_u_j, am_u_ne]; omega)) ?_)
    | (refine am_bf rfl (by first | omega | (simp (decide := true) only [am_u_at, am_u_j, am_u_ne]; omega)) (by first | omega | (simp (decide := true) only [am_u_at, am_u_j, am_u_ne]; omega)) ?_)
    | (refine am_br rfl (by first | omega | (simp (decide := true) only [am_u_at, am_u_j, am_u_ne]; omega)) (fun h => ?_) (fun h => ?_))
    | (refine am_cV (y' := Y_ru_mayStand) rfl lk_mt_39 ok_ru_mayStand rfl rfl rfl (c_mayStand _ _ _ _ (by first | omega | (simp (decide := true) only [am_u_at, am_u_j, am_u_ne]; omega)) (by first | omega | (simp (decide := true) only [am_u_at, am_u_j, am_u_ne]; omega)) (by first | omega | (simp (decide := true) only [am_u_at, am_u_j, am_u_ne]; omega))) ?_; rintro r I0 ⟨rfl, (⟨rfl, hft⟩ | ⟨rfl, hft⟩)⟩ <;> (try (exfalso; omega)))
    | (refine am_cU (y' := Y_wt_ofNone) rfl lk_mt_43_wt ok_wt_ofNone rfl rfl rfl (c_wt_ofNone _ _) ?_; rintro r I0 ⟨rfl, rfl⟩)
    | (refine am_cU (y' := Y_wt_ofEnd) rfl lk_mt_51_wt ok_wt_ofEnd rfl rfl rfl (c_wt_ofEnd _ _) ?_; rintro r I0 ⟨rfl, rfl⟩)
    | (refine am_cV (y' := Y_mt_fillStates) rfl lk_mt_47_wt ok_mt_fillStates rfl rfl rfl (c_wt_fillStates _ _ _ _ _ (by first | omega | (simp (decide := true) only [am_u_at, am_u_j, am_u_ne]; omega))) ?_; rintro r I0 ⟨rfl, hfr, hfs⟩)
    | (refine am_rt rfl (by first | trivial | exact Or.inl rfl | exact Or.inr rfl) ?_))
  · rw [h7, h8] at hft
    have h9 := loop1 26 0 (by omega) hft (by omega) (by omega)
    rw [show -12 + ((0 : Nat) : Int) = -12 by omega] at h9
    exact h9
  · rw [h7, h8] at hft
    rw [a71] at hfs
    have ep : p = J 7 3 - 1 := by omega
    refine ⟨rfl, hfr, ?_, ?_, ?_⟩
    · intro j hj
      rw [hfs j, if_neg hj]
    · intro t ht
      rw [hfs, if_pos (by unfold es_vs at ht; omega), show (J 7 3 - 1 - p).toNat = 0 by omega]
      rw [ep] at hft
      exact (es_G_end _ _ hft).symm
    · intro j
      rw [hfs j]
      split
      · omega
      · exact hv j
  · rw [h7, h8] at hft
    rw [a71] at hfs
    refine ⟨rfl, hfr, ?_, ?_, ?_⟩
    · intro j hj
      rw [hfs j, if_neg hj]
    · intro t ht
      rw [hfs, if_pos (by unfold es_vs at ht; omega)]
      refine (es_G_no _ _ _ ?_).symm
      rw [show J 7 3 - 1 - ((J 7 3 - 1 - p).toNat : Int) = p by omega]
      exact hft
    · intro j
      rw [hfs j]
      split
      · omega
      · exact hv j
theorem c_wt_fill (d : Nat) (I0 : am_I) (hr : es_rb I0) (hv : ∀ j : Nat, -1 ≤ I0 12 j ∧ I0 12 j ≤ 1000000000) (hw : ∀ j : Nat, j < 13 → 0 ≤ I0 13 j ∧ I0 13 j ≤ 1000000) (hfl : I0 11 2 = 0 ∨ (I0 11 2 = 1 ∧ ∀ p : Int, 0 ≤ p → p < I0 7 3 → es_row_wt I0 I0 p)) : am_C (d + 4) Y_mt_fill [.inr (.inr 11)] I0 (fun r I' => r = none ∧ am_fr I0 I' [11, 12] ∧ I' 11 2 = 1 ∧ (∀ j : Nat, -1 ≤ I' 12 j ∧ I' 12 j ≤ 1000000000) ∧ ∀ p : Int, 0 ≤ p → p < I0 7 3 → es_row_wt I0 I' p) := by
  refine am_enter ok_mt_fill rfl ?_
  obtain ⟨r1, r2, r3, r4⟩ := id hr
  have loopp : ∀ (m : Nat) (p : Int) (I : am_I), -1 ≤ p → p < I0 7 3 → p + 1 < m → am_fr I0 I [11, 12] → (∀ j : Nat, -1 ≤ I 12 j ∧ I 12 j ≤ 1000000000) → (∀ p' : Int, p < p' → p' < I0 7 3 → es_row_wt I0 I p') → am_V (d + 4) Y_mt_fill (fun r I' => r = none ∧ am_fr I0 I' [11, 12] ∧ I' 11 2 = 1 ∧ (∀ j : Nat, -1 ≤ I' 12 j ∧ I' 12 j ≤ 1000000000) ∧ ∀ p : Int, 0 ≤ p → p < I0 7 3 → es_row_wt I0 I' p) 18 [(0, .inr (.inr 11)), (1, .inl p)] [] I := by
    intro m
    induction m with
    | zero => intro p I h1 h2 h3; omega
    | succ m ih =>
      intro p I h1 h2 h3 hf hv' hrw
      have loopq : ∀ (k : Nat) (q : Int) (I : am_I), I0 7 1 ≤ q → q ≤ I0 7 2 + 1 → I0 7 2 + 1 - q < k → 0 ≤ p → am_fr I0 I [11, 12] → (∀ j : Nat, -1 ≤ I 12 j ∧ I 12 j ≤ 1000000000) → (∀ p' : Int, p < p' → p' < I0 7 3 → es_row_wt I0 I p') → (∀ q' t : Int, I0 7 1 ≤ q' → q' < q → es_vs I0 p t → I 12 ((p * 37 + q' - I0 7 1) * 18 + t).toNat = es_g_wt I0 (I0 7 3 - 1 - p).toNat q' (es_T t)) → am_V (d + 4) Y_mt_fill (fun r I' => r = none ∧ am_fr I0 I' [11, 12] ∧ I' 11 2 = 1 ∧ (∀ j : Nat, -1 ≤ I' 12 j ∧ I' 12 j ≤ 1000000000) ∧ ∀ p : Int, 0 ≤ p → p < I0 7 3 → es_row_wt I0 I' p) 30 [(0, .inr (.inr 11)), (1, .inl p), (2, .inl q)] [] I := by
        intro k
        induction k with
        | zero => intro q I g1 g2 g3; omega
        | succ k ihq =>
          intro q I g1 g2 g3 hp0 hf hv' hrw hq
          have e7 : I 7 = I0 7 := hf 7 rfl
          have e8 : I 8 = I0 8 := hf 8 rfl
          have e13 : I 13 = I0 13 := hf 13 rfl
          have e71 : I 7 1 = I0 7 1 := congrFun e7 1
          have e72 : I 7 2 = I0 7 2 := congrFun e7 2
          have hrow : p < I0 7 3 - 1 → es_row_wt I0 I (p + 1) := fun h => hrw _ (by omega) (by omega)
          refine am_go 1 [] rfl trivial ?_
          repeat' (first
            | (refine am_gp 80 [18, 30] rfl (by first | trivial | exact Or.inl rfl | exact Or.inr rfl | (simp (decide := true) only [am_p, am_u_at, am_u_j, am_u_ne]; omega) | (simp (decide := true) only [am_p, and_true, true_and, true_or, or_true, am_u_at, am_u_j, am_u_ne]; omega) | (simp (decide := true) [am_p, am_u_at, am_u_j, am_u_ne]; omega)) ?_)
            | (show am_V _ _ _ _ _ _ _; simp only [Int.reduceToNat])
            | (refine am_bt rfl (by first | omega | (simp (decide := true) only [am_u_at, am_u_j, am_u_ne]; omega)) (by first | omega | (simp (decide := true) only [am_u_at, am_u_j, am_u_ne]; omega)) ?_)
            | (refine am_bf rfl (by first | omega | (simp (decide := true) only [am_u_at, am_u_j, am_u_ne]; omega)) (by first | omega | (simp (decide := true) only [am_u_at, am_u_j, am_u_ne]; omega)) ?_)
            | (refine am_br rfl (by first | omega | (simp (decide := true) only [am_u_at, am_u_j, am_u_ne]; omega)) (fun h => ?_) (fun h => ?_))
            | (refine am_cV (y' := Y_mt_fillPitch) rfl lk_mt_35_wt ok_mt_fillPitch rfl rfl rfl (c_wt_fillPitch _ _ _ _ I0 (by assumption) (by assumption) (by assumption) hr (by first | omega | (simp (decide := true) only [am_u_at, am_u_j, am_u_ne]; omega)) (by first | omega | (simp (decide := true) only [am_u_at, am_u_j, am_u_ne]; omega)) (by assumption) hw (by assumption)) ?_; rintro r I ⟨rfl, hfr, hou, hin, hvn⟩)
            | (refine am_rt rfl (by first | trivial | exact Or.inl rfl | exact Or.inr rfl) ?_))
          · refine am_wk [2] ?_
            refine ih (p - 1) _ (by omega) (by omega) (by omega) hf hv' ?_
            intro p' h5 h6
            by_cases c : p' = p
            · rw [c]
              exact fun q' t g7 g8 g9 => hq q' t g7 (by omega) g9
            · exact hrw p' (by omega) h6
          · refine ihq (q + 1) _ (by omega) (by omega) (by omega) hp0 (hf.tr (hfr.wd rfl)) hvn ?_ ?_
            · intro p' h5 h6
              refine es_row_wt_u (hrw p' h5 h6) (fun q' t' g7 g8 g9 => hou _ ?_)
              unfold es_vs at g9
              omega
            · intro q' t g7 g8 g9
              by_cases c : q' = q
              · rw [c]
                exact hin t g9
              · rw [hou _ (by unfold es_vs at g9; omega)]
                exact hq q' t g7 (by omega) g9
      have e71 : I 7 1 = I0 7 1 := by rw [hf 7 rfl]
      refine am_go 1 [] rfl trivial ?_
      repeat' (first
        | (refine am_gp 80 [30] rfl (by first | trivial | exact Or.inl rfl | exact Or.inr rfl | (simp (decide := true) only [am_p, am_u_at, am_u_j, am_u_ne]; omega) | (simp (decide := true) only [am_p, and_true, true_and, true_or, or_true, am_u_at, am_u_j, am_u_ne]; omega) | (simp (decide := true) [am_p, am_u_at, am_u_j, am_u_ne]; omega)) ?_)
        | (show am_V _ _ _ _ _ _ _; simp only [Int.reduceToNat])
        | (refine am_bt rfl (by first | omega | (simp (decide := true) only [am_u_at, am_u_j, am_u_ne]; omega)) (by first | omega | (simp (decide := true) only [am_u_at, am_u_j, am_u_ne]; omega)) ?_)
        | (refine am_bf rfl (by first | omega | (simp (decide := true) only [am_u_at, am_u_j, am_u_ne]; omega)) (by first | omega | (simp (decide := true) only [am_u_at, am_u_j, am_u_ne]; omega)) ?_)
        | (refine am_br rfl (by first | omega | (simp (decide := true) only [am_u_at, am_u_j, am_u_ne]; omega)) (fun h => ?_) (fun h => ?_))
        | (refine am_rt rfl (by first | trivial | exact Or.inl rfl | exact Or.inr rfl) ?_))
      · refine ⟨rfl, hf.u _ _ rfl, by simp (decide := true) only [am_u_at, am_u_j, am_u_ne], ?_, ?_⟩
        · intro j
          rw [am_u_ne (by decide)]
          exact hv' j
        · intro p' h5 h6
          exact es_row_wt_u (hrw p' (by omega) h6) (fun q' t' g7 g8 g9 => by rw [am_u_ne (by decide)])
      · rw [e71]
        exact loopq 38 (I0 7 1) I (by omega) (by omega) (by omega) (by omega) hf hv' hrw (fun q' t g7 g8 g9 => by omega)
  repeat' (first
    | (refine am_gp 80 [18] rfl (by first | trivial | exact Or.inl rfl | exact Or.inr rfl | (simp (decide := true) only [am_p, am_u_at, am_u_j, am_u_ne]; omega) | (simp (decide := true) only [am_p, and_true, true_and, true_or, or_true, am_u_at, am_u_j, am_u_ne]; omega) | (simp (decide := true) [am_p, am_u_at, am_u_j, am_u_ne]; omega)) ?_)
    | (show am_V _ _ _ _ _ _ _; simp only [Int.reduceToNat])
    | (refine am_bt rfl (by first | omega | (simp (decide := true) only [am_u_at, am_u_j, am_u_ne]; omega)) (by first | omega | (simp (decide := true) only [am_u_at, am_u_j, am_u_ne]; omega)) ?_)
    | (refine am_bf rfl (by first | omega | (simp (decide := true) only [am_u_at, am_u_j, am_u_ne]; omega)) (by first | omega | (simp (decide := true) only [am_u_at, am_u_j, am_u_ne]; omega)) ?_)
    | (refine am_br rfl (by first | omega | (simp (decide := true) only [am_u_at, am_u_j, am_u_ne]; omega)) (fun h => ?_) (fun h => ?_))
    | (refine am_rt rfl (by first | trivial | exact Or.inl rfl | exact Or.inr rfl) ?_))
  · exact loopp 17 (I0 7 3 - 1) I0 (by omega) (by omega) (by omega) am_fr.rf hv (fun p' h5 h6 => by omega)
  · refine ⟨rfl, am_fr.rf, by omega, hv, ?_⟩
    rcases hfl with hfl | hfl
    · omega
    · exact hfl.2
end
section
noncomputable def es_g_mo (R : Nat → Int) : Nat → Int → Int → Int := es_G es_oc 0 1 es_id (R 7) (R 8) (R 9) (R 10) (R 11) (R 12) (R 13) (R 14) (R 15)
def es_rm (R : Nat → Int) : Prop := (0 ≤ R 7 ∧ R 7 ≤ R 8 ∧ R 8 ≤ 127 ∧ R 8 - R 7 ≤ 36) ∧ (1 ≤ R 9 ∧ R 9 ≤ 16) ∧ (1 ≤ R 14 ∧ R 14 ≤ 13) ∧ (0 ≤ R 15 ∧ R 15 ≤ 15)
def es_row_mo (R W : Nat → Int) (i : Int) : Prop := ∀ q u : Int, R 7 ≤ q → q ≤ R 8 → 0 ≤ u → u ≤ 17 → W ((37 * i + (q - R 7)) * 18 + u).toNat = es_g_mo R (R 9 - 1 - i).toNat q u
noncomputable def es_f_mo (R : Nat → Int) (m : Nat) (u p q : Int) : Int := if es_bh (R 13) (R 14) (R 15) u (q - p) = -1 then 0 else es_id (q - p) (es_g_mo R m q (es_bh (R 13) (R 14) (R 15) u (q - p)))
theorem es_bh_rng (stp lp rp u s : Int) (hr : 0 ≤ rp ∧ rp ≤ 15) (hu : 0 ≤ u ∧ u ≤ 17) : -1 ≤ es_bh stp lp rp u s ∧ es_bh stp lp rp u s ≤ 17 := by
  unfold es_bh
  repeat' split
  all_goals omega
theorem es_g_mo_D (R : Nat → Int) (m : Nat) (q u : Int) : 0 ≤ es_g_mo R m q u ∧ es_g_mo R m q u ≤ 1000000000000000000 := es_Gc_D m q u
theorem es_f_mo_D (R : Nat → Int) (m : Nat) (u p q : Int) : es_Dc (es_f_mo R m u p q) := by
  unfold es_f_mo es_Dc
  split
  · omega
  · exact es_g_mo_D R m q _
theorem es_fc_D {f : Int → Int} (hf : ∀ x, es_Dc (f x)) (a : Int) (k : Nat) : 0 ≤ es_fd es_oc 0 f a k ∧ es_fd es_oc 0 f a k ≤ 1000000000000000000 := es_fd_D es_mc hf k
theorem c_waysOn (d : Nat) (i p u : Int) (I : am_I) (hr : es_rm (I 44)) (hi : 0 ≤ i ∧ i < I 44 9 - 1) (hp : I 44 7 ≤ p ∧ p ≤ I 44 8) (hu : 0 ≤ u ∧ u ≤ 17) (hrow : es_row_mo (I 44) (I 54) (i + 1)) : am_C (d + 2) Y_mo_waysOn [.inr (.inr 44), .inl i, .inl p, .inl u] I (fun r I' => I' = I ∧ r = some (.inr (.inl (es_fd es_oc 0 (fun q => es_f_mo (I 44) (I 44 9 - 2 - i).toNat u p q) (I 44 7) (I 44 8 + 1 - I 44 7).toNat)))) := by
  refine am_enter ok_mo_waysOn rfl ?_
  obtain ⟨r1, r2, r3, r4⟩ := id hr
  have loop : ∀ (m k : Nat), I 44 7 + k ≤ I 44 8 + 1 → I 44 8 + 1 - (I 44 7 + k) < m → am_V (d + 2) Y_mo_waysOn (fun r I' => I' = I ∧ r = some (.inr (.inl (es_fd es_oc 0 (fun q => es_f_mo (I 44) (I 44 9 - 2 - i).toNat u p q) (I 44 7) (I 44 8 + 1 - I 44 7).toNat)))) 9 [(0, .inr (.inr 44)), (1, .inl i), (2, .inl p), (3, .inl u), (4, .inr (.inl (es_fd es_oc 0 (fun q => es_f_mo (I 44) (I 44 9 - 2 - i).toNat u p q) (I 44 7) k))), (6, .inl (I 44 7 + k))] [] I := by
    intro m
    induction m with
    | zero => intro k h1 h2; omega
    | succ m ih =>
      intro k h1 h2
      have hk := es_fc_D (f := fun q => es_f_mo (I 44) (I 44 9 - 2 - i).toNat u p q) (fun q => es_f_mo_D _ _ _ _ _) (I 44 7) k
      have hbr := es_bh_rng (I 44 13) (I 44 14) (I 44 15) u (I 44 7 + k - p) r4 hu
      have hent : es_bh (I 44 13) (I 44 14) (I 44 15) u (I 44 7 + k - p) ≠ -1 → I 44 7 + k ≤ I 44 8 → I 54 ((37 * (i + 1) + (I 44 7 + k - I 44 7)) * 18 + es_bh (I 44 13) (I 44 14) (I 44 15) u (I 44 7 + k - p)).toNat = es_f_mo (I 44) (I 44 9 - 2 - i).toNat u p (I 44 7 + k) := by
        intro h3 h4
        rw [hrow (I 44 7 + k) _ (by omega) h4 (by omega) (by omega), show I 44 9 - 1 - (i + 1) = I 44 9 - 2 - i by omega]
        unfold es_f_mo
        rw [if_neg h3]
        rfl
      have hfd := es_f_mo_D (I 44) (I 44 9 - 2 - i).toNat u p (I 44 7 + k)
      unfold es_Dc at hfd
      refine am_go 1 [] rfl trivial ?_
      repeat' (first
        | (refine am_gp 80 [9] rfl (by first | trivial | exact Or.inl rfl | exact Or.inr rfl | (simp (decide := true) only [am_p, am_u_at, am_u_j, am_u_ne]; omega) | (simp (decide := true) only [am_p, and_true, true_and, true_or, or_true, am_u_at, am_u_j, am_u_ne]; omega) | (simp (decide := true) [am_p, am_u_at, am_u_j, am_u_ne]; omega)) ?_)
        | (show am_V _ _ _ _ _ _ _; simp only [Int.reduceToNat])
        | (refine am_bt rfl (by first | omega | (simp (decide := true) only [am_u_at, am_u_j, am_u_ne]; omega)) (by first | omega | (simp (decide := true) only [am_u_at, am_u_j, am_u_ne]; omega)) ?_)
        | (refine am_bf rfl (by first | omega | (simp (decide := true) only [am_u_at, am_u_j, am_u_ne]; omega)) (by first | omega | (simp (decide := true) only [am_u_at, am_u_j, am_u_ne]; omega)) ?_)
        | (refine am_br rfl (by first | omega | (simp (decide := true) only [am_u_at, am_u_j, am_u_ne]; omega)) (fun h => ?_) (fun h => ?_))
        | (refine am_cV (y' := Y_mo_behind) rfl lk_mo_158 ok_mo_behind rfl rfl rfl (c_behind _ _ _ _ (by first | omega | (simp (decide := true) only [am_u_at, am_u_j, am_u_ne]; omega)) (by first | omega | (simp (decide := true) only [am_u_at, am_u_j, am_u_ne]; omega)) (by first | omega | (simp (decide := true) only [am_u_at, am_u_j, am_u_ne]; omega)) (by first | omega | (simp (decide := true) only [am_u_at, am_u_j, am_u_ne]; omega))) ?_; rintro r I ⟨rfl, rfl⟩)
        | (refine am_cS (y' := Y_mo_cellAt) rfl lk_mo_147 ok_mo_cellAt rfl rfl (c_cellAt _ _ _ _ _) ?_; rintro r I ⟨rfl, rfl⟩)
        | (refine am_cS (y' := Y_mo_plus) rfl lk_mo_162 ok_mo_plus rfl rfl (c_mo_plus _ _ _ _ (by first | omega | (simp (decide := true) only [am_u_at, am_u_j, am_u_ne]; omega)) (by first | omega | (simp (decide := true) only [am_u_at, am_u_j, am_u_ne]; omega))) ?_; rintro r I ⟨rfl, rfl⟩)
        | (refine am_rt rfl (by first | trivial | exact Or.inl rfl | exact Or.inr rfl) ?_))
      · have ek : (I 44 8 + 1 - I 44 7).toNat = k := by omega
        rw [ek]
        exact ⟨rfl, rfl⟩
      · refine am_wk [7] ?_
        have h9 := ih (k + 1) (by omega) (by omega)
        rw [show I 44 7 + ((k + 1 : Nat) : Int) = I 44 7 + (k : Int) + 1 by omega] at h9
        rw [hent (by omega) (by omega)]
        exact h9
      · refine am_wk [7] ?_
        have h9 := ih (k + 1) (by omega) (by omega)
        rw [show I 44 7 + ((k + 1 : Nat) : Int) = I 44 7 + (k : Int) + 1 by omega] at h9
        have e9 : es_fd es_oc 0 (fun q => es_f_mo (I 44) (I 44 9 - 2 - i).toNat u p q) (I 44 7) (k + 1) = es_fd es_oc 0 (fun q => es_f_mo (I 44) (I 44 9 - 2 - i).toNat u p q) (I 44 7) k := by
          show es_oc (es_fd es_oc 0 (fun q => es_f_mo (I 44) (I 44 9 - 2 - i).toNat u p q) (I 44 7) k) (es_f_mo (I 44) (I 44 9 - 2 - i).toNat u p (I 44 7 + k)) = _
          have e8 : es_f_mo (I 44) (I 44 9 - 2 - i).toNat u p (I 44 7 + k) = 0 := by
            unfold es_f_mo
            rw [if_pos (by omega)]
          rw [e8]
          exact es_mn_r es_mc hk
        rw [e9] at h9
        exact h9
  repeat' (first
    | (refine am_gp 80 [9] rfl (by first | trivial | exact Or.inl rfl | exact Or.inr rfl | (simp (decide := true) only [am_p, am_u_at, am_u_j, am_u_ne]; omega) | (simp (decide := true) only [am_p, and_true, true_and, true_or, or_true, am_u_at, am_u_j, am_u_ne]; omega) | (simp (decide := true) [am_p, am_u_at, am_u_j, am_u_ne]; omega)) ?_)
    | (show am_V _ _ _ _ _ _ _; simp only [Int.reduceToNat])
    | (refine am_bt rfl (by first | omega | (simp (decide := true) only [am_u_at, am_u_j, am_u_ne]; omega)) (by first | omega | (simp (decide := true) only [am_u_at, am_u_j, am_u_ne]; omega)) ?_)
    | (refine am_bf rfl (by first | omega | (simp (decide := true) only [am_u_at, am_u_j, am_u_ne]; omega)) (by first | omega | (simp (decide := true) only [am_u_at, am_u_j, am_u_ne]; omega)) ?_)
    | (refine am_br rfl (by first | omega | (simp (decide := true) only [am_u_at, am_u_j, am_u_ne]; omega)) (fun h => ?_) (fun h => ?_))
    | (refine am_rt rfl (by first | trivial | exact Or.inl rfl | exact Or.inr rfl) ?_))
  have h9 := loop 200 0 (by omega) (by omega)
  rw [show I 44 7 + ((0 : Nat) : Int) = I 44 7 by omega] at h9
  exact h9
theorem es_row_mo_u {R W W' : Nat → Int} {i : Int} (h : es_row_mo R W i) (he : ∀ q u : Int, R 7 ≤ q → q ≤ R 8 → 0 ≤ u → u ≤ 17 → W' ((37 * i + (q - R 7)) * 18 + u).toNat = W ((37 * i + (q - R 7)) * 18 + u).toNat) : es_row_mo R W' i := fun q u h1 h2 h3 h4 => (he q u h1 h2 h3 h4).trans (h q u h1 h2 h3 h4)
theorem c_countWays (d : Nat) (I0 : am_I) (hr : es_rm (I0 44)) : am_C (d + 3) Y_mo_countWays [.inr (.inr 44)] I0 (fun r I' => r = none ∧ am_fr I0 I' [54] ∧ ∀ i : Int, 0 ≤ i → i < I0 44 9 → es_row_mo (I0 44) (I' 54) i) := by
  refine am_enter ok_mo_countWays rfl ?_
  obtain ⟨r1, r2, r3, r4⟩ := id hr
  have loopi : ∀ (m : Nat) (i : Int) (I : am_I), -1 ≤ i → i < I0 44 9 → i + 1 < m → am_fr I0 I [54] → (∀ i' : Int, i < i' → i' < I0 44 9 → es_row_mo (I0 44) (I 54) i') → am_V (d + 3) Y_mo_countWays (fun r I' => r = none ∧ am_fr I0 I' [54] ∧ ∀ i : Int, 0 ≤ i → i < I0 44 9 → es_row_mo (I0 44) (I' 54) i) 7 [(0, .inr (.inr 44)), (1, .inl i)] [] I := by
    intro m
    induction m with
    | zero => intro i I h1 h2 h3; omega
    | succ m ih =>
      intro i I h1 h2 h3 hf hrw
      have loopp : ∀ (k : Nat) (p : Int) (I : am_I), 0 ≤ i → I0 44 7 ≤ p → p ≤ I0 44 8 + 1 → I0 44 8 + 1 - p < k → am_fr I0 I [54] → (∀ i' : Int, i < i' → i' < I0 44 9 → es_row_mo (I0 44) (I 54) i') → (∀ q u : Int, I0 44 7 ≤ q → q < p → 0 ≤ u → u ≤ 17 → I 54 ((37 * i + (q - I0 44 7)) * 18 + u).toNat = es_g_mo (I0 44) (I0 44 9 - 1 - i).toNat q u) → am_V (d + 3) Y_mo_countWays (fun r I' => r = none ∧ am_fr I0 I' [54] ∧ ∀ i : Int, 0 ≤ i → i < I0 44 9 → es_row_mo (I0 44) (I' 54) i) 16 [(0, .inr (.inr 44)), (1, .inl i), (2, .inl p)] [] I := by
        intro k
        induction k with
        | zero => intro p I g0 g1 g2 g3; omega
        | succ k ihp =>
          intro p I g0 g1 g2 g3 hf hrw hq
          have loops : ∀ (n : Nat) (s : Int) (I : am_I), p ≤ I0 44 8 → 0 ≤ s → s ≤ 18 → 18 - s < n → am_fr I0 I [54] → (∀ i' : Int, i < i' → i' < I0 44 9 → es_row_mo (I0 44) (I 54) i') → (∀ q u : Int, I0 44 7 ≤ q → q < p → 0 ≤ u → u ≤ 17 → I 54 ((37 * i + (q - I0 44 7)) * 18 + u).toNat = es_g_mo (I0 44) (I0 44 9 - 1 - i).toNat q u) → (∀ u : Int, 0 ≤ u → u < s → I 54 ((37 * i + (p - I0 44 7)) * 18 + u).toNat = es_g_mo (I0 44) (I0 44 9 - 1 - i).toNat p u) → am_V (d + 3) Y_mo_countWays (fun r I' => r = none ∧ am_fr I0 I' [54] ∧ ∀ i : Int, 0 ≤ i → i < I0 44 9 → es_row_mo (I0 44) (I' 54) i) 26 [(0, .inr (.inr 44)), (1, .inl i), (2, .inl p), (3, .inl s)] [] I := by
            intro n
            induction n with
            | zero => intro s I f0 f1 f2 f3; omega
            | succ n ihs =>
              intro s I f0 f1 f2 f3 hf hrw hq hs
              have e44 : I 44 = I0 44 := hf 44 rfl
              have e7 : I 44 7 = I0 44 7 := congrFun e44 7
              have e8 : I 44 8 = I0 44 8 := congrFun e44 8
              have e9 : I 44 9 = I0 44 9 := congrFun e44 9
              have hr' : es_rm (I 44) := by rw [e44]; exact hr
              have hrw' : i < I0 44 9 - 1 → es_row_mo (I 44) (I 54) (i + 1) := fun h => by rw [e44]; exact hrw _ (by omega) (by omega)
              have step : ∀ v : Int, s < 18 → v = es_g_mo (I0 44) (I0 44 9 - 1 - i).toNat p s → am_V (d + 3) Y_mo_countWays (fun r I' => r = none ∧ am_fr I0 I' [54] ∧ ∀ i : Int, 0 ≤ i → i < I0 44 9 → es_row_mo (I0 44) (I' 54) i) 26 [(0, .inr (.inr 44)), (1, .inl i), (2, .inl p), (3, .inl (s + 1))] [] (am_u I 54 ((37 * i + (p - I 44 7)) * 18 + s).toNat v) := by
                intro v hs8 hv
                refine ihs (s + 1) _ f0 (by omega) (by omega) (by omega) (hf.u _ _ rfl) ?_ ?_ ?_
                · intro i' h5 h6
                  refine es_row_mo_u (hrw i' h5 h6) (fun q u g7 g8 g9 g10 => ?_)
                  rw [am_u_eq, e7, am_up_ne (by omega)]
                · intro q u g7 g8 g9 g10
                  rw [am_u_eq, e7, am_up_ne (by omega)]
                  exact hq q u g7 g8 g9 g10
                · intro u g7 g8
                  rw [am_u_eq, e7]
                  by_cases c : u = s
                  · rw [c, am_up_eq]
                    exact hv
                  · rw [am_up_ne (by omega)]
                    exact hs u g7 (by omega)
              refine am_go 1 [] rfl trivial ?_
              repeat' (first
                | (refine am_gp 80 [16, 26, 74] rfl (by first | trivial | exact Or.inl rfl | exact Or.inr rfl | (simp (decide := true) only [am_p, am_u_at, am_u_j, am_u_ne]; omega) | (simp (decide := true) only [am_p, and_true, true_and, true_or, or_true, am_u_at, am_u_j, am_u_ne]; omega) | (simp (decide := true) [am_p, am_u_at, am_u_j, am_u_ne]; omega)) ?_)
                | (show am_V _ _ _ _ _ _ _; simp only [Int.reduceToNat])
                | (refine am_bt rfl (by first | omega | (simp (decide := true) only [am_u_at, am_u_j, am_u_ne]; omega)) (by first | omega | (simp (decide := true) only [am_u_at, am_u_j, am_u_ne]; omega)) ?_)
                | (refine am_bf rfl (by first | omega | (simp (decide := true) only [am_u_at, am_u_j, am_u_ne]; omega)) (by first | omega | (simp (decide := true) only [am_u_at, am_u_j, am_u_ne]; omega)) ?_)
                | (refine am_br rfl (by first | omega | (simp (decide := true) only [am_u_at, am_u_j, am_u_ne]; omega)) (fun h => ?_) (fun h => ?_))
                | (refine am_cV (y' := Y_mo_fits) rfl lk_mo_151 ok_mo_fits rfl rfl rfl (c_fits _ _ _ _ (by first | omega | (simp (decide := true) only [am_u_at, am_u_j, am_u_ne]; omega)) (by first | omega | (simp (decide := true) only [am_u_at, am_u_j, am_u_ne]; omega)) (by first | omega | (simp (decide := true) only [am_u_at, am_u_j, am_u_ne]; omega)) (by first | omega | (simp (decide := true) only [am_u_at, am_u_j, am_u_ne]; omega)) (by first | omega | (simp (decide := true) only [am_u_at, am_u_j, am_u_ne]; omega))) ?_; rintro r I ⟨rfl, (⟨rfl, hft⟩ | ⟨rfl, hft⟩)⟩ <;> (try (exfalso; omega)))
                | (refine am_cS (y' := Y_mo_cellAt) rfl lk_mo_147 ok_mo_cellAt rfl rfl (c_cellAt _ _ _ _ _) ?_; rintro r I ⟨rfl, rfl⟩)
                | (refine am_rt rfl (by first | trivial | exact Or.inl rfl | exact Or.inr rfl) ?_))
              · refine am_wk [3] ?_
                refine ihp (p + 1) _ g0 (by omega) (by omega) (by omega) hf hrw ?_
                intro q u g7 g8 g9 g10
                by_cases c : q = p
                · rw [c]
                  exact hs u g9 (by omega)
                · exact hq q u g7 (by omega) g9 g10
              · have hrow := hrw' (by omega)
                repeat' (first
                  | (refine am_gp 80 [26] rfl (by first | trivial | exact Or.inl rfl | exact Or.inr rfl | (simp (decide := true) only [am_p, am_u_at, am_u_j, am_u_ne]; omega) | (simp (decide := true) only [am_p, and_true, true_and, true_or, or_true, am_u_at, am_u_j, am_u_ne]; omega) | (simp (decide := true) [am_p, am_u_at, am_u_j, am_u_ne]; omega)) ?_)
                  | (show am_V _ _ _ _ _ _ _; simp only [Int.reduceToNat])
                  | (refine am_bt rfl (by first | omega | (simp (decide := true) only [am_u_at, am_u_j, am_u_ne]; omega)) (by first | omega | (simp (decide := true) only [am_u_at, am_u_j, am_u_ne]; omega)) ?_)
                  | (refine am_bf rfl (by first | omega | (simp (decide := true) only [am_u_at, am_u_j, am_u_ne]; omega)) (by first | omega | (simp (decide := true) only [am_u_at, am_u_j, am_u_ne]; omega)) ?_)
                  | (refine am_br rfl (by first | omega | (simp (decide := true) only [am_u_at, am_u_j, am_u_ne]; omega)) (fun h => ?_) (fun h => ?_))
                  | (refine am_cV (y' := Y_mo_waysOn) rfl lk_mo_154 ok_mo_waysOn rfl rfl rfl (c_waysOn _ _ _ _ _ (by assumption) (by first | omega | (simp (decide := true) only [am_u_at, am_u_j, am_u_ne]; omega)) (by first | omega | (simp (decide := true) only [am_u_at, am_u_j, am_u_ne]; omega)) (by first | omega | (simp (decide := true) only [am_u_at, am_u_j, am_u_ne]; omega)) (by assumption)) ?_; rintro r I ⟨rfl, rfl⟩)
                  | (refine am_rt rfl (by first | trivial | exact Or.inl rfl | exact Or.inr rfl) ?_))
                refine step _ (by omega) ?_
                have em : (I0 44 9 - 1 - i).toNat = (I0 44 9 - 2 - i).toNat + 1 := by omega
                have ep : I0 44 9 - 1 - (((I0 44 9 - 2 - i).toNat + 1 : Nat) : Int) = i := by omega
                rw [e44] at hft ⊢
                unfold es_g_mo
                rw [em, es_G_on _ _ _ (by rw [ep]; exact hft.2)]
                rfl
              · refine step _ (by omega) ?_
                rw [e44] at hft
                unfold es_g_mo
                rw [show (I0 44 9 - 1 - i).toNat = 0 by omega, es_G_end _ _ (by rw [show I0 44 9 - 1 = i by omega]; exact hft.2)]
              · refine step _ (by omega) ?_
                rw [e44] at hft
                unfold es_g_mo
                rw [es_G_no _ _ _ (by rw [show I0 44 9 - 1 - ((I0 44 9 - 1 - i).toNat : Int) = i by omega]; exact fun z => hft ⟨by omega, z⟩)]
          have e8 : I 44 8 = I0 44 8 := by rw [hf 44 rfl]
          refine am_go 1 [] rfl trivial ?_
          repeat' (first
            | (refine am_gp 80 [7, 26] rfl (by first | trivial | exact Or.inl rfl | exact Or.inr rfl | (simp (decide := true) only [am_p, am_u_at, am_u_j, am_u_ne]; omega) | (simp (decide := true) only [am_p, and_true, true_and, true_or, or_true, am_u_at, am_u_j, am_u_ne]; omega) | (simp (decide := true) [am_p, am_u_at, am_u_j, am_u_ne]; omega)) ?_)
            | (show am_V _ _ _ _ _ _ _; simp only [Int.reduceToNat])
            | (refine am_bt rfl (by first | omega | (simp (decide := true) only [am_u_at, am_u_j, am_u_ne]; omega)) (by first | omega | (simp (decide := true) only [am_u_at, am_u_j, am_u_ne]; omega)) ?_)
            | (refine am_bf rfl (by first | omega | (simp (decide := true) only [am_u_at, am_u_j, am_u_ne]; omega)) (by first | omega | (simp (decide := true) only [am_u_at, am_u_j, am_u_ne]; omega)) ?_)
            | (refine am_br rfl (by first | omega | (simp (decide := true) only [am_u_at, am_u_j, am_u_ne]; omega)) (fun h => ?_) (fun h => ?_))
            | (refine am_rt rfl (by first | trivial | exact Or.inl rfl | exact Or.inr rfl) ?_))
          · refine am_wk [2] ?_
            refine ih (i - 1) _ (by omega) (by omega) (by omega) hf ?_
            intro i' h5 h6
            by_cases c : i' = i
            · rw [c]
              exact fun q u g7 g8 g9 g10 => hq q u g7 (by omega) g9 g10
            · exact hrw i' (by omega) h6
          · exact loops 19 0 _ (by omega) (by omega) (by omega) (by omega) hf hrw hq (fun u g7 g8 => by omega)
      have e7 : I 44 7 = I0 44 7 := by rw [hf 44 rfl]
      refine am_go 1 [] rfl trivial ?_
      repeat' (first
        | (refine am_gp 80 [16] rfl (by first | trivial | exact Or.inl rfl | exact Or.inr rfl | (simp (decide := true) only [am_p, am_u_at, am_u_j, am_u_ne]; omega) | (simp (decide := true) only [am_p, and_true, true_and, true_or, or_true, am_u_at, am_u_j, am_u_ne]; omega) | (simp (decide := true) [am_p, am_u_at, am_u_j, am_u_ne]; omega)) ?_)
        | (show am_V _ _ _ _ _ _ _; simp only [Int.reduceToNat])
        | (refine am_bt rfl (by first | omega | (simp (decide := true) only [am_u_at, am_u_j, am_u_ne]; omega)) (by first | omega | (simp (decide := true) only [am_u_at, am_u_j, am_u_ne]; omega)) ?_)
        | (refine am_bf rfl (by first | omega | (simp (decide := true) only [am_u_at, am_u_j, am_u_ne]; omega)) (by first | omega | (simp (decide := true) only [am_u_at, am_u_j, am_u_ne]; omega)) ?_)
        | (refine am_br rfl (by first | omega | (simp (decide := true) only [am_u_at, am_u_j, am_u_ne]; omega)) (fun h => ?_) (fun h => ?_))
        | (refine am_rt rfl (by first | trivial | exact Or.inl rfl | exact Or.inr rfl) ?_))
      · exact ⟨rfl, hf, fun i' h5 h6 => hrw i' (by omega) h6⟩
      · rw [e7]
        exact loopp 200 (I0 44 7) I (by omega) (by omega) (by omega) (by omega) hf hrw (fun q u g7 g8 => by omega)
  repeat' (first
    | (refine am_gp 80 [7] rfl (by first | trivial | exact Or.inl rfl | exact Or.inr rfl | (simp (decide := true) only [am_p, am_u_at, am_u_j, am_u_ne]; omega) | (simp (decide := true) only [am_p, and_true, true_and, true_or, or_true, am_u_at, am_u_j, am_u_ne]; omega) | (simp (decide := true) [am_p, am_u_at, am_u_j, am_u_ne]; omega)) ?_)
    | (show am_V _ _ _ _ _ _ _; simp only [Int.reduceToNat])
    | (refine am_bt rfl (by first | omega | (simp (decide := true) only [am_u_at, am_u_j, am_u_ne]; omega)) (by first | omega | (simp (decide := true) only [am_u_at, am_u_j, am_u_ne]; omega)) ?_)
    | (refine am_bf rfl (by first | omega | (simp (decide := true) only [am_u_at, am_u_j, am_u_ne]; omega)) (by first | omega | (simp (decide := true) only [am_u_at, am_u_j, am_u_ne]; omega)) ?_)
    | (refine am_br rfl (by first | omega | (simp (decide := true) only [am_u_at, am_u_j, am_u_ne]; omega)) (fun h => ?_) (fun h => ?_))
    | (refine am_rt rfl (by first | trivial | exact Or.inl rfl | exact Or.inr rfl) ?_))
  exact loopi 17 (I0 44 9 - 1) I0 (by omega) (by omega) (by omega) am_fr.rf (fun i' h5 h6 => by omega)
noncomputable def es_tot (R : Nat → Int) : Int := es_fd es_oc 0 (fun q => es_g_mo R (R 9 - 1).toNat q 0) (R 7) (R 8 + 1 - R 7).toNat
theorem c_mo_melodies (d : Nat) (I0 : am_I) (hr : es_rm (I0 44)) : am_C (d + 4) Y_mo_melodies [.inr (.inr 44)] I0 (fun r I' => r = some (.inr (.inl (es_tot (I0 44)))) ∧ am_fr I0 I' [54] ∧ ∀ i : Int, 0 ≤ i → i < I0 44 9 → es_row_mo (I0 44) (I' 54) i) := by
  refine am_enter ok_mo_melodies rfl ?_
  obtain ⟨r1, r2, r3, r4⟩ := id hr
  have loop : ∀ (m k : Nat) (I : am_I), am_fr I0 I [54] → (∀ i : Int, 0 ≤ i → i < I0 44 9 → es_row_mo (I0 44) (I 54) i) → I0 44 7 + k ≤ I0 44 8 + 1 → I0 44 8 + 1 - (I0 44 7 + k) < m → am_V (d + 4) Y_mo_melodies (fun r I' => r = some (.inr (.inl (es_tot (I0 44)))) ∧ am_fr I0 I' [54] ∧ ∀ i : Int, 0 ≤ i → i < I0 44 9 → es_row_mo (I0 44) (I' 54) i) 11 [(0, .inr (.inr 44)), (1, .inr (.inl (es_fd es_oc 0 (fun q => es_g_mo (I0 44) (I0 44 9 - 1).toNat q 0) (I0 44 7) k))), (3, .inl (I0 44 7 + k))] [] I := by
    intro m
    induction m with
    | zero => intro k I hf hrw h1 h2; omega
    | succ m ih =>
      intro k I hf hrw h1 h2
      have e44 : I 44 = I0 44 := hf 44 rfl
      have e7 : I 44 7 = I0 44 7 := congrFun e44 7
      have e8 : I 44 8 = I0 44 8 := congrFun e44 8
      have hk := es_fc_D (f := fun q => es_g_mo (I0 44) (I0 44 9 - 1).toNat q 0) (fun q => es_g_mo_D _ _ _ _) (I0 44 7) k
      have hd := es_g_mo_D (I0 44) (I0 44 9 - 1).toNat (I0 44 7 + k) 0
      have hent : I0 44 7 + k ≤ I0 44 8 → I 54 ((37 * 0 + (I0 44 7 + k - I 44 7)) * 18 + 0).toNat = es_g_mo (I0 44) (I0 44 9 - 1).toNat (I0 44 7 + k) 0 := by
        intro h4
        have h5 := hrw 0 (by omega) (by omega) (I0 44 7 + k) 0 (by omega) h4 (by omega) (by omega)
        rw [show I0 44 9 - 1 - 0 = I0 44 9 - 1 by omega] at h5
        rw [e7]
        exact h5
      refine am_go 1 [] rfl trivial ?_
      repeat' (first
        | (refine am_gp 80 [11] rfl (by first | trivial | exact Or.inl rfl | exact Or.inr rfl | (simp (decide := true) only [am_p, am_u_at, am_u_j, am_u_ne]; omega) | (simp (decide := true) only [am_p, and_true, true_and, true_or, or_true, am_u_at, am_u_j, am_u_ne]; omega) | (simp (decide := true) [am_p, am_u_at, am_u_j, am_u_ne]; omega)) ?_)
        | (show am_V _ _ _ _ _ _ _; simp only [Int.reduceToNat])
        | (refine am_bt rfl (by first | omega | (simp (decide := true) only [am_u_at, am_u_j, am_u_ne]; omega)) (by first | omega | (simp (decide := true) only [am_u_at, am_u_j, am_u_ne]; omega)) ?_)
        | (refine am_bf rfl (by first | omega | (simp (decide := true) only [am_u_at, am_u_j, am_u_ne]; omega)) (by first | omega | (simp (decide := true) only [am_u_at, am_u_j, am_u_ne]; omega)) ?_)
        | (refine am_br rfl (by first | omega | (simp (decide := true) only [am_u_at, am_u_j, am_u_ne]; omega)) (fun h => ?_) (fun h => ?_))
        | (refine am_cS (y' := Y_mo_cellAt) rfl lk_mo_147 ok_mo_cellAt rfl rfl (c_cellAt _ _ _ _ _) ?_; rintro r I ⟨rfl, rfl⟩)
        | (refine am_cS (y' := Y_mo_plus) rfl lk_mo_162 ok_mo_plus rfl rfl (c_mo_plus _ _ _ _ (by first | omega | (simp (decide := true) only [am_u_at, am_u_j, am_u_ne]; omega)) (by first | omega | (simp (decide := true) only [am_u_at, am_u_j, am_u_ne]; omega))) ?_; rintro r I ⟨rfl, rfl⟩)
        | (refine am_rt rfl (by first | trivial | exact Or.inl rfl | exact Or.inr rfl) ?_))
      · have ek : (I0 44 8 + 1 - I0 44 7).toNat = k := by omega
        refine ⟨?_, hf, hrw⟩
        unfold es_tot
        rw [ek]
      · have h9 := ih (k + 1) I hf hrw (by omega) (by omega)
        rw [show I0 44 7 + ((k + 1 : Nat) : Int) = I0 44 7 + (k : Int) + 1 by omega] at h9
        rw [hent (by omega)]
        exact h9
  repeat' (first
    | (refine am_gp 80 [11] rfl (by first | trivial | exact Or.inl rfl | exact Or.inr rfl | (simp (decide := true) only [am_p, am_u_at, am_u_j, am_u_ne]; omega) | (simp (decide := true) only [am_p, and_true, true_and, true_or, or_true, am_u_at, am_u_j, am_u_ne]; omega) | (simp (decide := true) [am_p, am_u_at, am_u_j, am_u_ne]; omega)) ?_)
    | (show am_V _ _ _ _ _ _ _; simp only [Int.reduceToNat])
    | (refine am_bt rfl (by first | omega | (simp (decide := true) only [am_u_at, am_u_j, am_u_ne]; omega)) (by first | omega | (simp (decide := true) only [am_u_at, am_u_j, am_u_ne]; omega)) ?_)
    | (refine am_bf rfl (by first | omega | (simp (decide := true) only [am_u_at, am_u_j, am_u_ne]; omega)) (by first | omega | (simp (decide := true) only [am_u_at, am_u_j, am_u_ne]; omega)) ?_)
    | (refine am_br rfl (by first | omega | (simp (decide := true) only [am_u_at, am_u_j, am_u_ne]; omega)) (fun h => ?_) (fun h => ?_))
    | (refine am_cV (y' := Y_mo_countWays) rfl lk_mo_166 ok_mo_countWays rfl rfl rfl (c_countWays _ _ (by assumption)) ?_; rintro r I ⟨rfl, hfr, hrows⟩)
    | (refine am_rt rfl (by first | trivial | exact Or.inl rfl | exact Or.inr rfl) ?_))
  have e7 : I 44 7 = I0 44 7 := by rw [hfr 44 rfl]
  have h9 := loop 200 0 I hfr hrows (by omega) (by omega)
  rw [show I0 44 7 + ((0 : Nat) : Int) = I 44 7 by omega] at h9
  exact h9
end
section
def es_mk (a b c d e f g h i : Int) : Nat → Int
  | 7 => a
  | 8 => b
  | 9 => c
  | 10 => d
  | 11 => e
  | 12 => f
  | 13 => g
  | 14 => h
  | 15 => i
  | _ => 0
def es_cut (R : Nat → Int) : Nat → Int := es_mk (R 7) (R 8) (R 9) (R 10) (R 11) (R 12) (R 13) (R 14) (R 15)
def es_Rc (J : am_I) : Nat → Int := es_mk (J 7 1) (J 7 2) (J 7 3) (J 8 0) (J 8 1) (J 8 2) (J 8 3) (J 7 4) (J 7 5)
theorem es_fd_l {op : Int → Int → Int} {e : Int} {D : Int → Prop} (h : es_mn op e D) {f : Int → Int} (hf : ∀ x, D (f x)) (a : Int) (m : Nat) : es_fd op e f a (m + 1) = op (f a) (es_fd op e f (a + 1) m) := by
  have h1 := es_fd_add h hf a 1 m
  rw [show 1 + m = m + 1 by omega] at h1
  rw [h1]
  show op (op e (f (a + ((0 : Nat) : Int)))) (es_fd op e f (a + ((1 : Nat) : Int)) m) = _
  rw [h.2.2.2.2 _ (hf _), show a + ((0 : Nat) : Int) = a by omega, show a + ((1 : Nat) : Int) = a + 1 by omega]
theorem es_fc_0 {f : Int → Int} (hf : ∀ x, es_Dc (f x)) {a : Int} : ∀ m : Nat, es_fd es_oc 0 f a m = 0 → ∀ x, a ≤ x → x < a + (m : Int) → f x = 0
  | 0, _, x, h1, h2 => by omega
  | m + 1, h, x, h1, h2 => by
    have h3 : min 1000000000000000000 (es_fd es_oc 0 f a m + f (a + m)) = 0 := h
    have h4 := es_fc_D hf a m
    have h5 := hf (a + m)
    unfold es_Dc at h5
    by_cases c : x = a + m
    · rw [c]; omega
    · exact es_fc_0 hf m (by omega) x h1 (by omega)
def es_pk (f : Int → Int) : Int → Nat → Int → Int × Int
  | a, 0, l => (a, l)
  | a, m + 1, l => if l < f a then (a, l) else es_pk f (a + 1) m (l - f a)
theorem es_pk_ok {f : Int → Int} (hf : ∀ x, es_Dc (f x)) : ∀ (m : Nat) (a l : Int), 0 ≤ l → l < es_fd es_oc 0 f a m → (a ≤ (es_pk f a m l).1 ∧ (es_pk f a m l).1 < a + (m : Int)) ∧ 0 ≤ (es_pk f a m l).2 ∧ (es_pk f a m l).2 < f (es_pk f a m l).1
  | 0, a, l, h1, h2 => by
    have h3 : l < 0 := h2
    omega
  | m + 1, a, l, h1, h2 => by
    rw [es_fd_l es_mc hf a m] at h2
    have h3 : l < min 1000000000000000000 (f a + es_fd es_oc 0 f (a + 1) m) := h2
    show (a ≤ (if l < f a then (a, l) else es_pk f (a + 1) m (l - f a)).1 ∧ (if l < f a then (a, l) else es_pk f (a + 1) m (l - f a)).1 < a + ((m + 1 : Nat) : Int)) ∧ 0 ≤ (if l < f a then (a, l) else es_pk f (a + 1) m (l - f a)).2 ∧ (if l < f a then (a, l) else es_pk f (a + 1) m (l - f a)).2 < f (if l < f a then (a, l) else es_pk f (a + 1) m (l - f a)).1
    by_cases c : l < f a
    · rw [if_pos c]
      exact ⟨⟨by show a ≤ a; omega, by show a < a + ((m + 1 : Nat) : Int); omega⟩, h1, c⟩
    · rw [if_neg c]
      have h4 := es_pk_ok hf m (a + 1) (l - f a) (by omega) (by omega)
      exact ⟨⟨by omega, by omega⟩, h4.2.1, h4.2.2⟩
noncomputable def es_w (R : Nat → Int) (i b u q : Int) : Int := if R 7 ≤ q ∧ q ≤ R 8 then (if i = 0 then es_g_mo R (R 9 - 1).toNat q 0 else es_f_mo R (R 9 - 1 - i).toNat u b q) else 0
def es_us (R : Nat → Int) (i b u q : Int) : Int := if i = 0 then 0 else es_bh (R 13) (R 14) (R 15) u (q - b)
theorem es_w_D (R : Nat → Int) (i b u q : Int) : es_Dc (es_w R i b u q) := by
  unfold es_w
  split
  · split
    · exact es_g_mo_D _ _ _ _
    · exact es_f_mo_D _ _ _ _ _
  · unfold es_Dc; omega
theorem es_w_g {R : Nat → Int} {i b u q : Int} (h : es_w R i b u q ≠ 0) : (R 7 ≤ q ∧ q ≤ R 8) ∧ es_w R i b u q = es_g_mo R (R 9 - 1 - i).toNat q (es_us R i b u q) ∧ (es_us R i b u q ≠ -1) := by
  unfold es_w at h ⊢
  unfold es_us
  split at h
  · rename_i h1
    refine ⟨h1, ?_⟩
    rw [if_pos h1]
    split at h
    · rename_i h2
      rw [if_pos h2, if_pos h2, h2, show R 9 - 1 - 0 = R 9 - 1 by omega]
      exact ⟨rfl, by omega⟩
    · rename_i h2
      rw [if_neg h2, if_neg h2]
      unfold es_f_mo at h ⊢
      split at h
      · exact absurd rfl h
      · rename_i h3
        rw [if_neg h3]
        exact ⟨rfl, h3⟩
  · exact absurd rfl h
theorem es_us_rng {R : Nat → Int} (hr : es_rm R) {i b u q : Int} (hu : 0 ≤ u ∧ u ≤ 17) (h : es_us R i b u q ≠ -1) : 0 ≤ es_us R i b u q ∧ es_us R i b u q ≤ 17 := by
  unfold es_us at h ⊢
  split at h
  · rename_i c
    rw [if_pos c]; omega
  · rename_i c
    rw [if_neg c]
    have := es_bh_rng (R 13) (R 14) (R 15) u (q - b) hr.2.2.2 hu
    omega
theorem es_w_sum {R : Nat → Int} (hr : es_rm R) {i b u : Int} (hi : 0 ≤ i ∧ i + 1 < R 9) (hf : es_fit (R 10) (R 11) (R 12) (R 9) i b) : es_g_mo R (R 9 - 1 - i).toNat b u = es_fd es_oc 0 (es_w R (i + 1) b u) (R 7) (R 8 + 1 - R 7).toNat := by
  have em : (R 9 - 1 - i).toNat = (R 9 - 1 - (i + 1)).toNat + 1 := by omega
  have ep : R 9 - 1 - (((R 9 - 1 - (i + 1)).toNat + 1 : Nat) : Int) = i := by omega
  rw [em]
  unfold es_g_mo
  rw [es_G_on _ _ _ (by rw [ep]; exact hf)]
  refine es_fd_cg _ (fun x h1 h2 => ?_)
  obtain ⟨r1, r2, r3, r4⟩ := hr
  have e : es_w R (i + 1) b u x = es_f_mo R (R 9 - 1 - (i + 1)).toNat u b x := by
    unfold es_w
    rw [if_pos (by omega), if_neg (by omega)]
  rw [e]
  rfl
theorem es_g_fit {R : Nat → Int} {i b u : Int} (hi : 0 ≤ i ∧ i < R 9) (h : es_g_mo R (R 9 - 1 - i).toNat b u ≠ 0) : es_fit (R 10) (R 11) (R 12) (R 9) i b := by
  refine Classical.byContradiction (fun c => h ?_)
  unfold es_g_mo
  exact es_G_no _ _ _ (by rw [show R 9 - 1 - ((R 9 - 1 - i).toNat : Int) = i by omega]; exact c)
noncomputable def es_st (R : Nat → Int) (i : Int) (x : Int × Int × Int) : Int × Int × Int := ((es_pk (es_w R i x.1 x.2.1) (R 7) (R 8 + 1 - R 7).toNat x.2.2).1, es_us R i x.1 x.2.1 (es_pk (es_w R i x.1 x.2.1) (R 7) (R 8 + 1 - R 7).toNat x.2.2).1, (es_pk (es_w R i x.1 x.2.1) (R 7) (R 8 + 1 - R 7).toNat x.2.2).2)
noncomputable def es_sp (R : Nat → Int) (k : Int) : Nat → Int × Int × Int
  | 0 => (R 7, 0, k)
  | i + 1 => es_st R i (es_sp R k i)
def es_al (R : Nat → Int) (i : Int) (x : Int × Int × Int) : Prop := (R 7 ≤ x.1 ∧ x.1 ≤ R 8) ∧ (0 ≤ x.2.1 ∧ x.2.1 ≤ 17) ∧ 0 ≤ x.2.2 ∧ (i < R 9 → x.2.2 < es_fd es_oc 0 (es_w R i x.1 x.2.1) (R 7) (R 8 + 1 - R 7).toNat)
theorem es_st_al {R : Nat → Int} (hr : es_rm R) {i : Int} (hi : 0 ≤ i ∧ i < R 9) {x : Int × Int × Int} (h : es_al R i x) : es_al R (i + 1) (es_st R i x) ∧ (es_st R i x).2.2 < es_w R i x.1 x.2.1 (es_st R i x).1 := by
  obtain ⟨a1, a2, a3, a4⟩ := h
  have hk := es_pk_ok (f := es_w R i x.1 x.2.1) (fun q => es_w_D _ _ _ _ _) (R 8 + 1 - R 7).toNat (R 7) x.2.2 a3 (a4 hi.2)
  unfold es_st es_al
  generalize es_pk (es_w R i x.1 x.2.1) (R 7) (R 8 + 1 - R 7).toNat x.2.2 = z at hk ⊢
  obtain ⟨k1, k2, k3⟩ := hk
  have hw := es_w_g (R := R) (i := i) (b := x.1) (u := x.2.1) (q := z.1) (by omega)
  have hu := es_us_rng hr (i := i) (b := x.1) (q := z.1) a2 hw.2.2
  obtain ⟨r1, r2, r3, r4⟩ := id hr
  refine ⟨⟨by show R 7 ≤ z.1 ∧ z.1 ≤ R 8; omega, hu, k2, fun hn => ?_⟩, k3⟩
  show z.2 < es_fd es_oc 0 (es_w R (i + 1) z.1 (es_us R i x.1 x.2.1 z.1)) (R 7) (R 8 + 1 - R 7).toNat
  have hft := es_g_fit (R := R) (i := i) (b := z.1) (u := es_us R i x.1 x.2.1 z.1) hi (by rw [← hw.2.1]; omega)
  rw [← es_w_sum hr ⟨hi.1, hn⟩ hft, ← hw.2.1]
  exact k3
theorem es_sp_al {R : Nat → Int} (hr : es_rm R) {k : Int} (hk : 0 ≤ k ∧ k < es_tot R) : ∀ i : Nat, (i : Int) ≤ R 9 → es_al R i (es_sp R k i)
  | 0, _ => by
    obtain ⟨r1, r2, r3, r4⟩ := id hr
    refine ⟨by show R 7 ≤ R 7 ∧ R 7 ≤ R 8; omega, by show (0 : Int) ≤ 0 ∧ (0 : Int) ≤ 17; omega, hk.1, fun _ => ?_⟩
    show k < es_fd es_oc 0 (es_w R ((0 : Nat) : Int) (R 7) 0) (R 7) (R 8 + 1 - R 7).toNat
    have e1 : es_tot R = es_fd es_oc 0 (es_w R ((0 : Nat) : Int) (R 7) 0) (R 7) (R 8 + 1 - R 7).toNat := by
      unfold es_tot
      refine es_fd_cg _ (fun x h1 h2 => ?_)
      unfold es_w
      rw [if_pos (by omega), if_pos (by omega)]
    rw [← e1]
    exact hk.2
  | i + 1, h => (es_st_al hr ⟨by omega, by omega⟩ (es_sp_al hr hk i (by omega))).1
noncomputable def es_ah (R P : Nat → Int) : Nat → Nat → Int → Int → Int → Int
  | 0, _, _, _, s => s
  | m + 1, i, b, u, s => if es_w R i b u (P i) = 0 then es_oc s (es_fd es_oc 0 (es_w R i b u) (R 7) (min (P i) (R 8 + 1) - R 7).toNat) else es_ah R P m (i + 1) (P i) (es_us R i b u (P i)) (es_oc s (es_fd es_oc 0 (es_w R i b u) (R 7) (min (P i) (R 8 + 1) - R 7).toNat))
theorem es_ah_cg {R P Q : Nat → Int} : ∀ (m i : Nat) (b u s : Int), (∀ j : Nat, j < i + m → P j = Q j) → es_ah R P m i b u s = es_ah R Q m i b u s
  | 0, i, b, u, s, h => rfl
  | m + 1, i, b, u, s, h => by
    unfold es_ah
    rw [h i (by omega), es_ah_cg m (i + 1) (Q i) _ _ (fun j hj => h j (by omega))]
theorem es_ah_0 {R P : Nat → Int} (hr : es_rm R) {m i : Nat} {b u s : Int} (hs : 0 ≤ s ∧ s ≤ 1000000000000000000) (hi : (i : Int) + 1 + m ≤ R 9) (hf : es_fit (R 10) (R 11) (R 12) (R 9) i b) (hg : es_g_mo R (R 9 - 1 - i).toNat b u = 0) : es_ah R P m (i + 1) b u s = s := by
  cases m with
  | zero => rfl
  | succ m =>
    rw [es_w_sum hr ⟨by omega, by omega⟩ hf] at hg
    have h0 := es_fc_0 (f := es_w R (i + 1) b u) (fun q => es_w_D _ _ _ _ _) _ hg
    obtain ⟨r1, r2, r3, r4⟩ := id hr
    have hw : ∀ q, es_w R (i + 1) b u q = 0 := by
      intro q
      by_cases c : R 7 ≤ q ∧ q ≤ R 8
      · exact h0 q c.1 (by omega)
      · unfold es_w
        rw [if_neg c]
    unfold es_ah
    rw [show ((i + 1 : Nat) : Int) = (i : Int) + 1 by omega, if_pos (hw _), es_fd_e es_mc _ (fun x _ _ => hw x)]
    exact es_mn_r es_mc hs
theorem es_rb_m {J : am_I} (h : es_rb J) : es_rm (es_Rc J) := h
def es_v0 (J : am_I) (p t : Int) : Prop := (p = 0 ∧ t = 0) ∨ (0 < p ∧ es_vs J (p - 1) t)
theorem es_v0_u {J : am_I} (hr : es_rb J) {p b t q : Int} (hp : 0 ≤ p ∧ p < J 7 3) (hv : es_v0 J p t) (hw : es_w (es_Rc J) p b (es_T t) q ≠ 0) : es_v0 J (p + 1) (if p = 0 then 0 else es_nx (J 7 4) t (q - b)) ∧ es_T (if p = 0 then 0 else es_nx (J 7 4) t (q - b)) = es_us (es_Rc J) p b (es_T t) q := by
  obtain ⟨r1, r2, r3, r4⟩ := id hr
  have h1 := (es_w_g hw).2.2
  unfold es_v0 at hv ⊢
  unfold es_us at h1 ⊢
  by_cases c : p = 0
  · rw [if_pos c, if_pos c]
    refine ⟨Or.inr ⟨by omega, ?_⟩, rfl⟩
    unfold es_vs; omega
  · rw [if_neg c] at h1
    rw [if_neg c, if_neg c]
    have hv' : es_vs J (p - 1) t := by
      rcases hv with hv | hv
      · omega
      · exact hv.2
    have ht : 0 ≤ t ∧ t ≤ 17 := by unfold es_vs at hv'; omega
    have hk := es_key (stp := J 8 3) (lp := J 7 4) (rp := J 7 5) (t := t) (q - b) r3 r4 ht (by unfold es_vs at hv'; omega)
    have hm : es_may (J 8 3) (J 7 5) t (q - b) := Classical.byContradiction (fun z => h1 (hk.2 z))
    refine ⟨Or.inr ⟨by omega, ?_⟩, (hk.1 hm).1.symm⟩
    have h3 := es_nx_c (J 7 4) t (q - b)
    unfold es_may at hm
    unfold es_vs at hv' ⊢
    omega
end
section
theorem c_ct_on (d : Nat) (p b t q : Int) (I J : am_I) (h7 : I 7 = J 7) (h8 : I 8 = J 8) (hr : es_rb J) (hp : 0 ≤ p ∧ p < J 7 3) (hb : J 7 1 ≤ b ∧ b ≤ J 7 2) (ht : es_v0 J p t) (hq : 0 ≤ q ∧ q ≤ 127) (hrows : ∀ p' : Int, 0 ≤ p' → p' < J 7 3 → es_row_ct J I p') : am_C (d + 3) Y_mt_onward [.inr (.inr 9), .inl p, .inl b, .inl t, .inl q] I (fun r I' => I' = I ∧ r = some (.inr (.inl (es_w (es_Rc J) p b (es_T t) q)))) := by
  have hr' : es_rb I := by unfold es_rb; rw [h7]; exact hr
  obtain ⟨r1, r2, r3, r4⟩ := id hr
  have ht' : 0 ≤ t ∧ t ≤ 17 := by unfold es_v0 es_vs at ht; omega
  refine am_C_mono (c_ct_onward d p b t q I hr' (by omega) (by rw [h7]; omega) ht' hq) ?_
  have R7 : es_Rc J 7 = J 7 1 := rfl
  have R8 : es_Rc J 8 = J 7 2 := rfl
  have R9 : es_Rc J 9 = J 7 3 := rfl
  have R13 : es_Rc J 13 = J 8 3 := rfl
  have R14 : es_Rc J 14 = J 7 4 := rfl
  have R15 : es_Rc J 15 = J 7 5 := rfl
  rintro r I' ⟨e0, (⟨h, rfl⟩ | ⟨h, rfl⟩ | ⟨h, rfl⟩)⟩
  · refine ⟨e0, ?_⟩
    rw [h7] at h ⊢
    unfold es_w
    rw [R7, R8, R9, if_pos h.2, if_pos h.1]
    have h5 : t = 0 := by unfold es_v0 at ht; omega
    have h4 := hrows 0 (by omega) (by omega) q 0 h.2.1 h.2.2 (by unfold es_vs; omega)
    rw [show (0 * 37 + q - J 7 1) * 18 + 0 = (q - J 7 1) * 18 by omega, show J 7 3 - 1 - 0 = J 7 3 - 1 by omega] at h4
    rw [h4]
    rfl
  · refine ⟨e0, ?_⟩
    rw [h7, h8] at h
    rw [h7]
    have hvs : es_vs J (p - 1) t := by
      rcases ht with ht | ht
      · omega
      · exact ht.2
    have hk := (es_key (lp := J 7 4) (t := t) (q - b) r3 r4 ht' (by unfold es_vs at hvs; omega)).1 h.2.2.2
    unfold es_w
    rw [R7, R8, R9, if_pos ⟨h.2.1, h.2.2.1⟩, if_neg (by omega)]
    unfold es_f_mo
    rw [R13, R14, R15, hk.1, if_neg hk.2]
    have hvn : es_vs J p (es_nx (J 7 4) t (q - b)) := by
      have h3 := es_nx_c (J 7 4) t (q - b)
      have h4 := h.2.2.2
      unfold es_may at h4
      unfold es_vs at hvs ⊢
      omega
    rw [hrows p (by omega) (by omega) q _ h.2.1 h.2.2.1 hvn]
    rfl
  · refine ⟨e0, ?_⟩
    rw [h7, h8] at h
    unfold es_w
    rw [R7, R8, R9]
    by_cases c : J 7 1 ≤ q ∧ q ≤ J 7 2
    · rw [if_pos c, if_neg (by omega)]
      have hvs : es_vs J (p - 1) t := by
        rcases ht with ht | ht
        · omega
        · exact ht.2
      have hk := (es_key (stp := J 8 3) (lp := J 7 4) (t := t) (q - b) r3 r4 ht' (by unfold es_vs at hvs; omega)).2 (fun z => h (Or.inr ⟨by unfold es_v0 at ht; omega, c.1, c.2, z⟩))
      unfold es_f_mo
      rw [R13, R14, R15, if_pos hk]
    · rw [if_neg c]
theorem es_cf_fd {f : Int → Int} {a : Int} : ∀ m : Nat, es_cf f a m = es_fd es_oc 0 f a m
  | 0 => rfl
  | m + 1 => by
    show min 1000000000000000000 (es_cf f a m + f (a + m)) = min 1000000000000000000 (es_fd es_oc 0 f a m + f (a + m))
    rw [es_cf_fd m]
theorem c_ct_tot (d : Nat) (I J : am_I) (h7 : I 7 = J 7) (h8 : I 8 = J 8) (hr : es_rb J) (hv : ∀ j : Nat, 0 ≤ I 10 j ∧ I 10 j ≤ 1000000000000000000) (hrows : ∀ p' : Int, 0 ≤ p' → p' < J 7 3 → es_row_ct J I p') : am_C (d + 3) Y_mt_total [.inr (.inr 9)] I (fun r I' => I' = I ∧ r = some (.inr (.inl (es_tot (es_Rc J))))) := by
  have hr' : es_rb I := by unfold es_rb; rw [h7]; exact hr
  obtain ⟨r1, r2, r3, r4⟩ := id hr
  refine am_C_mono (c_ct_total d I hr' hv) ?_
  rintro r I' ⟨e0, rfl⟩
  refine ⟨e0, ?_⟩
  rw [h7, es_cf_fd]
  congr 3
  refine es_fd_cg _ (fun x h1 h2 => ?_)
  show I 10 ((0 * 37 + x - J 7 1) * 18 + 0).toNat = es_g_mo (es_Rc J) (J 7 3 - 1).toNat x 0
  have h4 := hrows 0 (by omega) (by omega) x 0 h1 (by omega) (by unfold es_vs; omega)
  rw [show J 7 3 - 1 - 0 = J 7 3 - 1 by omega] at h4
  rw [h4]
  rfl
theorem c_ct_stateAt2 (d : Nat) (p b t q : Int) (I J : am_I) (h7 : I 7 = J 7) (hr : es_rb J) (hp : 0 ≤ p ∧ p < 16) (hb : 0 ≤ b ∧ b ≤ 127) (ht : 0 ≤ t ∧ t ≤ 17) (hq : 0 ≤ q ∧ q ≤ 127) : am_C (d + 2) Y_mt_stateAt [.inr (.inr 9), .inl p, .inl b, .inl t, .inl q] I (fun r I' => I' = I ∧ r = some (.inl (if p = 0 then 0 else es_nx (J 7 4) t (q - b)))) := by
  have hr' : es_rb I := by unfold es_rb; rw [h7]; exact hr
  refine am_C_mono (c_ct_stateAt d p b t q I hr' hp hb ht hq) ?_
  rintro r I' ⟨e0, (⟨h, rfl⟩ | ⟨h, rfl⟩)⟩
  · exact ⟨e0, by rw [if_pos h]⟩
  · exact ⟨e0, by rw [if_neg (by omega), h7]⟩
theorem c_ct_spell (d : Nat) (k : Int) (I0 J : am_I) (h7 : I0 7 = J 7) (h8 : I0 8 = J 8) (hr : es_rb J) (hrows : ∀ p' : Int, 0 ≤ p' → p' < J 7 3 → es_row_ct J I0 p') (hk : 0 ≤ k ∧ k < es_tot (es_Rc J)) : am_C (d + 4) Y_ct_spell [.inr (.inr 9), .inr (.inl k), .inr (.inr 1)] I0 (fun r I' => r = none ∧ am_fr I0 I' [1, 2, 3] ∧ I' 1 2 = J 7 3 ∧ ∀ j : Nat, (j : Int) < J 7 3 → I' 2 j = (es_sp (es_Rc J) k (j + 1)).1 ∧ I' 3 j = 24) := by
  refine am_enter ok_ct_spell rfl ?_
  obtain ⟨r1, r2, r3, r4⟩ := id hr
  have hal := es_sp_al (es_rb_m hr) hk
  have R7 : es_Rc J 7 = J 7 1 := rfl
  have R8 : es_Rc J 8 = J 7 2 := rfl
  have R9 : es_Rc J 9 = J 7 3 := rfl
  have loopp : ∀ (m p : Nat) (t : Int) (I : am_I), (p : Int) ≤ J 7 3 → J 7 3 - p < m → am_fr I0 I [1, 2, 3] → I 1 2 = p → (∀ j : Nat, j < p → I 2 j = (es_sp (es_Rc J) k (j + 1)).1 ∧ I 3 j = 24) → es_v0 J p t → es_T t = (es_sp (es_Rc J) k p).2.1 → am_V (d + 4) Y_ct_spell (fun r I' => r = none ∧ am_fr I0 I' [1, 2, 3] ∧ I' 1 2 = J 7 3 ∧ ∀ j : Nat, (j : Int) < J 7 3 → I' 2 j = (es_sp (es_Rc J) k (j + 1)).1 ∧ I' 3 j = 24) 23 [(0, .inr (.inr 9)), (1, .inr (.inl k)), (3, .inr (.inr 1)), (4, .inr (.inl (es_sp (es_Rc J) k p).2.2)), (6, .inl (es_sp (es_Rc J) k p).1), (7, .inl t), (8, .inl p)] [] I := by
    intro m
    induction m with
    | zero => intro p t I h1 h2; omega
    | succ m ih =>
      intro p t I h1 h2 hf hsz hin hv hT
      have e7 : I 7 = J 7 := (hf 7 rfl).trans h7
      have e8 : I 8 = J 8 := (hf 8 rfl).trans h8
      have e71 : I 7 1 = J 7 1 := congrFun e7 1
      have e72 : I 7 2 = J 7 2 := congrFun e7 2
      have e73 : I 7 3 = J 7 3 := congrFun e7 3
      have hrows' : ∀ p' : Int, 0 ≤ p' → p' < J 7 3 → es_row_ct J I p' := fun p' g1 g2 => es_row_ct_u (hrows p' g1 g2) (fun q' t' _ _ _ => by rw [hf 10 rfl])
      have ha := hal p (by omega)
      have hst : (p : Int) < J 7 3 → _ := fun h => es_st_al (es_rb_m hr) (i := p) ⟨by omega, by omega⟩ ha
      have hsp : es_sp (es_Rc J) k (p + 1) = es_st (es_Rc J) p (es_sp (es_Rc J) k p) := rfl
      obtain ⟨a1, a2, a3, a4⟩ := ha
      rw [R7, R8] at a1
      generalize es_sp (es_Rc J) k p = x at *
      have ht17 : 0 ≤ t ∧ t ≤ 17 := by unfold es_v0 es_vs at hv; omega
      have fin : ∀ (q here : Int), (p : Int) < J 7 3 → q = (es_sp (es_Rc J) k (p + 1)).1 → am_V (d + 4) Y_ct_spell (fun r I' => r = none ∧ am_fr I0 I' [1, 2, 3] ∧ I' 1 2 = J 7 3 ∧ ∀ j : Nat, (j : Int) < J 7 3 → I' 2 j = (es_sp (es_Rc J) k (j + 1)).1 ∧ I' 3 j = 24) 105 [(0, .inr (.inr 9)), (1, .inr (.inl k)), (3, .inr (.inr 1)), (4, .inr (.inl (es_sp (es_Rc J) k (p + 1)).2.2)), (6, .inl x.1), (7, .inl t), (8, .inl p), (9, .inl q), (10, .inr (.inl here))] [] I := by
        intro q here hpn hq
        obtain ⟨s1, s2⟩ := hst hpn
        rw [← hsp] at s1 s2
        have hqr := s1.1
        rw [R7, R8, ← hq] at hqr
        rw [← hq, ← hT] at s2
        have hs0 := s1.2.2.1
        have hv2 := es_v0_u hr (b := x.1) (q := q) ⟨by omega, hpn⟩ hv (by omega)
        repeat' (first
          | (refine am_gp 80 [23] rfl (by first | trivial | exact Or.inl rfl | exact Or.inr rfl | (simp (decide := true) only [am_p, am_u_at, am_u_j, am_u_ne]; omega) | (simp (decide := true) only [am_p, and_true, true_and, true_or, or_true, am_u_at, am_u_j, am_u_ne]; omega) | (simp (decide := true) [am_p, am_u_at, am_u_j, am_u_ne]; omega)) ?_)
          | (show am_V _ _ _ _ _ _ _; simp only [Int.reduceToNat])
          | (refine am_bt rfl (by first | omega | (simp (decide := true) only [am_u_at, am_u_j, am_u_ne]; omega)) (by first | omega | (simp (decide := true) only [am_u_at, am_u_j, am_u_ne]; omega)) ?_)
          | (refine am_bf rfl (by first | omega | (simp (decide := true) only [am_u_at, am_u_j, am_u_ne]; omega)) (by first | omega | (simp (decide := true) only [am_u_at, am_u_j, am_u_ne]; omega)) ?_)
          | (refine am_br rfl (by first | omega | (simp (decide := true) only [am_u_at, am_u_j, am_u_ne]; omega)) (fun h => ?_) (fun h => ?_))
          | (refine am_cU (y' := Y_mt_stateAt) rfl lk_ct_40_ct ok_mt_stateAt rfl rfl rfl (c_ct_stateAt2 _ _ _ _ _ _ J (by assumption) hr (by first | omega | (simp (decide := true) only [am_u_at, am_u_j, am_u_ne]; omega)) (by first | omega | (simp (decide := true) only [am_u_at, am_u_j, am_u_ne]; omega)) (by first | omega | (simp (decide := true) only [am_u_at, am_u_j, am_u_ne]; omega)) (by first | omega | (simp (decide := true) only [am_u_at, am_u_j, am_u_ne]; omega))) ?_; rintro r I ⟨rfl, rfl⟩)
          | (refine am_cV (y' := Y_no_push) rfl lk_ct_44 ok_no_push rfl rfl rfl (c_push_row _ _ _ _ (by first | omega | (simp (decide := true) only [am_u_at, am_u_j, am_u_ne]; omega))) ?_; rintro r I ⟨rfl, rfl⟩)
          | (refine am_rt rfl (by first | trivial | exact Or.inl rfl | exact Or.inr rfl) ?_))
        refine am_wk [9, 10] ?_
        have h9 := ih (p + 1) (if (p : Int) = 0 then 0 else es_nx (J 7 4) t (q - x.1)) (am_u (am_u (am_u I 2 (I 1 2).toNat q) 3 (I 1 2).toNat 24) 1 2 (I 1 2 + 1)) (by omega) (by omega) (((hf.u _ _ rfl).u _ _ rfl).u _ _ rfl) ?_ ?_ ?_ ?_
        · rw [← hq, show ((p + 1 : Nat) : Int) = (p : Int) + 1 by omega] at h9
          exact h9
        · simp (decide := true) only [am_u_at, am_u_j, am_u_ne]; omega
        · intro j hj
          simp (decide := true) only [am_u_at, am_u_j, am_u_ne]
          rw [am_u_eq, am_u_eq, hsz]
          by_cases c : j = (p : Int).toNat
          · rw [c, am_up_eq, am_up_eq]
            rw [show (p : Int).toNat = p by omega]
            exact ⟨hq, rfl⟩
          · rw [am_up_ne c, am_up_ne c]
            exact hin j (by omega)
        · rw [show ((p + 1 : Nat) : Int) = (p : Int) + 1 by omega]
          exact hv2.1
        · rw [hv2.2, hT, hsp]
          unfold es_st
          rw [hsp] at hq
          unfold es_st at hq
          rw [hq]
      have loopq : ∀ (n : Nat) (q l : Int), (p : Int) < J 7 3 → J 7 1 ≤ q → q ≤ J 7 2 → J 7 2 - q < n → 0 ≤ l → l ≤ 1000000000000000000 → l < es_fd es_oc 0 (es_w (es_Rc J) p x.1 x.2.1) q (J 7 2 + 1 - q).toNat → es_pk (es_w (es_Rc J) p x.1 x.2.1) q (J 7 2 + 1 - q).toNat l = es_pk (es_w (es_Rc J) p x.1 x.2.1) (J 7 1) (J 7 2 + 1 - J 7 1).toNat x.2.2 → am_V (d + 4) Y_ct_spell (fun r I' => r = none ∧ am_fr I0 I' [1, 2, 3] ∧ I' 1 2 = J 7 3 ∧ ∀ j : Nat, (j : Int) < J 7 3 → I' 2 j = (es_sp (es_Rc J) k (j + 1)).1 ∧ I' 3 j = 24) 58 [(0, .inr (.inr 9)), (1, .inr (.inl k)), (3, .inr (.inr 1)), (4, .inr (.inl l)), (6, .inl x.1), (7, .inl t), (8, .inl p), (9, .inl q), (10, .inr (.inl (es_w (es_Rc J) p x.1 x.2.1 q)))] [] I := by
        intro n
        induction n with
        | zero => intro q l g0 g1 g2 g3; omega
        | succ n ihq =>
          intro q l g0 g1 g2 g3 g4 g5 g6 g7
          have hwd := es_w_D (es_Rc J) p x.1 x.2.1 q
          unfold es_Dc at hwd
          have em : (J 7 2 + 1 - q).toNat = (J 7 2 + 1 - (q + 1)).toNat + 1 := by omega
          rw [em, es_fd_l es_mc (fun z => es_w_D _ _ _ _ _)] at g6
          have g6' : l < min 1000000000000000000 (es_w (es_Rc J) p x.1 x.2.1 q + es_fd es_oc 0 (es_w (es_Rc J) p x.1 x.2.1) (q + 1) (J 7 2 + 1 - (q + 1)).toNat) := g6
          rw [em] at g7
          have done : l < es_w (es_Rc J) p x.1 x.2.1 q → q = (es_sp (es_Rc J) k (p + 1)).1 ∧ l = (es_sp (es_Rc J) k (p + 1)).2.2 := by
            intro hl
            have e1 : es_pk (es_w (es_Rc J) p x.1 x.2.1) q ((J 7 2 + 1 - (q + 1)).toNat + 1) l = (q, l) := by
              show (if l < es_w (es_Rc J) p x.1 x.2.1 q then (q, l) else _) = _
              rw [if_pos hl]
            rw [e1] at g7
            rw [hsp]
            unfold es_st
            rw [R7, R8, ← g7]
            exact ⟨rfl, rfl⟩
          refine am_go 1 [] rfl trivial ?_
          repeat' (first
            | (refine am_gp 80 [58, 105, 88] rfl (by first | trivial | exact Or.inl rfl | exact Or.inr rfl | (simp (decide := true) only [am_p, am_u_at, am_u_j, am_u_ne]; omega) | (simp (decide := true) only [am_p, and_true, true_and, true_or, or_true, am_u_at, am_u_j, am_u_ne]; omega) | (simp (decide := true) [am_p, am_u_at, am_u_j, am_u_ne]; omega)) ?_)
            | (show am_V _ _ _ _ _ _ _; simp only [Int.reduceToNat])
            | (refine am_bt rfl (by first | omega | (simp (decide := true) only [am_u_at, am_u_j, am_u_ne]; omega)) (by first | omega | (simp (decide := true) only [am_u_at, am_u_j, am_u_ne]; omega)) ?_)
            | (refine am_bf rfl (by first | omega | (simp (decide := true) only [am_u_at, am_u_j, am_u_ne]; omega)) (by first | omega | (simp (decide := true) only [am_u_at, am_u_j, am_u_ne]; omega)) ?_)
            | (refine am_br rfl (by first | omega | (simp (decide := true) only [am_u_at, am_u_j, am_u_ne]; omega)) (fun h => ?_) (fun h => ?_))
            | (refine am_rt rfl (by first | trivial | exact Or.inl rfl | exact Or.inr rfl) ?_))
          · have hl : l < es_w (es_Rc J) p x.1 x.2.1 q := by
              have e2 : (J 7 2 + 1 - (q + 1)).toNat = 0 := by omega
              rw [e2] at g6'
              have e3 : es_fd es_oc 0 (es_w (es_Rc J) p x.1 x.2.1) (q + 1) 0 = 0 := rfl
              omega
            have hd := done hl
            rw [hd.2]
            exact fin q _ g0 hd.1
          · have hd := done (by omega)
            rw [hd.2]
            exact fin q _ g0 hd.1
          · rw [← hT]
            repeat' (first
              | (refine am_gp 80 [58] rfl (by first | trivial | exact Or.inl rfl | exact Or.inr rfl | (simp (decide := true) only [am_p, am_u_at, am_u_j, am_u_ne]; omega) | (simp (decide := true) only [am_p, and_true, true_and, true_or, or_true, am_u_at, am_u_j, am_u_ne]; omega) | (simp (decide := true) [am_p, am_u_at, am_u_j, am_u_ne]; omega)) ?_)
              | (show am_V _ _ _ _ _ _ _; simp only [Int.reduceToNat])
              | (refine am_bt rfl (by first | omega | (simp (decide := true) only [am_u_at, am_u_j, am_u_ne]; omega)) (by first | omega | (simp (decide := true) only [am_u_at, am_u_j, am_u_ne]; omega)) ?_)
              | (refine am_bf rfl (by first | omega | (simp (decide := true) only [am_u_at, am_u_j, am_u_ne]; omega)) (by first | omega | (simp (decide := true) only [am_u_at, am_u_j, am_u_ne]; omega)) ?_)
              | (refine am_br rfl (by first | omega | (simp (decide := true) only [am_u_at, am_u_j, am_u_ne]; omega)) (fun h => ?_) (fun h => ?_))
              | (refine am_cU (y' := Y_mt_onward) rfl lk_ct_33_ct ok_mt_onward rfl rfl rfl (c_ct_on _ _ _ _ _ _ J (by assumption) (by assumption) hr (by first | omega | (simp (decide := true) only [am_u_at, am_u_j, am_u_ne]; omega)) (by first | omega | (simp (decide := true) only [am_u_at, am_u_j, am_u_ne]; omega)) (by assumption) (by first | omega | (simp (decide := true) only [am_u_at, am_u_j, am_u_ne]; omega)) (by assumption)) ?_; rintro r I ⟨rfl, rfl⟩)
              | (refine am_rt rfl (by first | trivial | exact Or.inl rfl | exact Or.inr rfl) ?_))
            rw [hT]
            have g8 : es_pk (es_w (es_Rc J) p x.1 x.2.1) q ((J 7 2 + 1 - (q + 1)).toNat + 1) l = es_pk (es_w (es_Rc J) p x.1 x.2.1) (q + 1) (J 7 2 + 1 - (q + 1)).toNat (l - es_w (es_Rc J) p x.1 x.2.1 q) := by
              show (if l < es_w (es_Rc J) p x.1 x.2.1 q then (q, l) else _) = _
              rw [if_neg (by omega)]
            exact ihq (q + 1) _ g0 (by omega) (by omega) (by omega) (by omega) (by omega) (by omega) (g8.symm.trans g7)
      refine am_go 1 [] rfl trivial ?_
      repeat' (first
        | (refine am_gp 80 [58] rfl (by first | trivial | exact Or.inl rfl | exact Or.inr rfl | (simp (decide := true) only [am_p, am_u_at, am_u_j, am_u_ne]; omega) | (simp (decide := true) only [am_p, and_true, true_and, true_or, or_true, am_u_at, am_u_j, am_u_ne]; omega) | (simp (decide := true) [am_p, am_u_at, am_u_j, am_u_ne]; omega)) ?_)
        | (show am_V _ _ _ _ _ _ _; simp only [Int.reduceToNat])
        | (refine am_bt rfl (by first | omega | (simp (decide := true) only [am_u_at, am_u_j, am_u_ne]; omega)) (by first | omega | (simp (decide := true) only [am_u_at, am_u_j, am_u_ne]; omega)) ?_)
        | (refine am_bf rfl (by first | omega | (simp (decide := true) only [am_u_at, am_u_j, am_u_ne]; omega)) (by first | omega | (simp (decide := true) only [am_u_at, am_u_j, am_u_ne]; omega)) ?_)
        | (refine am_br rfl (by first | omega | (simp (decide := true) only [am_u_at, am_u_j, am_u_ne]; omega)) (fun h => ?_) (fun h => ?_))
        | (refine am_cU (y' := Y_mt_onward) rfl lk_ct_33_ct ok_mt_onward rfl rfl rfl (c_ct_on _ _ _ _ _ _ J (by assumption) (by assumption) hr (by first | omega | (simp (decide := true) only [am_u_at, am_u_j, am_u_ne]; omega)) (by first | omega | (simp (decide := true) only [am_u_at, am_u_j, am_u_ne]; omega)) (by assumption) (by first | omega | (simp (decide := true) only [am_u_at, am_u_j, am_u_ne]; omega)) (by assumption)) ?_; rintro r I ⟨rfl, rfl⟩)
        | (refine am_rt rfl (by first | trivial | exact Or.inl rfl | exact Or.inr rfl) ?_))
      · have ep : (p : Int) = J 7 3 := by omega
        exact ⟨rfl, hf, by omega, fun j hj => hin j (by omega)⟩
      · rw [e71, hT]
        rw [R7, R8, R9] at a4
        have a5 := a4 (by omega)
        have a6 := es_fc_D (f := es_w (es_Rc J) p x.1 x.2.1) (fun z => es_w_D _ _ _ _ _) (J 7 1) (J 7 2 + 1 - J 7 1).toNat
        exact loopq 200 (J 7 1) x.2.2 (by omega) (by omega) (by omega) (by omega) a3 (by omega) a5 rfl
  have a71 : I0 7 1 = J 7 1 := congrFun h7 1
  repeat' (first
    | (refine am_gp 80 [23] rfl (by first | trivial | exact Or.inl rfl | exact Or.inr rfl | (simp (decide := true) only [am_p, am_u_at, am_u_j, am_u_ne]; omega) | (simp (decide := true) only [am_p, and_true, true_and, true_or, or_true, am_u_at, am_u_j, am_u_ne]; omega) | (simp (decide := true) [am_p, am_u_at, am_u_j, am_u_ne]; omega)) ?_)
    | (show am_V _ _ _ _ _ _ _; simp only [Int.reduceToNat])
    | (refine am_bt rfl (by first | omega | (simp (decide := true) only [am_u_at, am_u_j, am_u_ne]; omega)) (by first | omega | (simp (decide := true) only [am_u_at, am_u_j, am_u_ne]; omega)) ?_)
    | (refine am_bf rfl (by first | omega | (simp (decide := true) only [am_u_at, am_u_j, am_u_ne]; omega)) (by first | omega | (simp (decide := true) only [am_u_at, am_u_j, am_u_ne]; omega)) ?_)
    | (refine am_br rfl (by first | omega | (simp (decide := true) only [am_u_at, am_u_j, am_u_ne]; omega)) (fun h => ?_) (fun h => ?_))
    | (refine am_rt rfl (by first | trivial | exact Or.inl rfl | exact Or.inr rfl) ?_))
  rw [a71]
  exact loopp 17 0 0 _ (by omega) (by omega) (am_fr.rf.u _ _ rfl) (by simp (decide := true) only [am_u_at, am_u_j, am_u_ne]) (fun j hj => by omega) (Or.inl ⟨rfl, rfl⟩) rfl
end
section
theorem c_ct_ahead (d : Nat) (I J : am_I) (h7 : I 7 = J 7) (h8 : I 8 = J 8) (hr : es_rb J) (hrows : ∀ p' : Int, 0 ≤ p' → p' < J 7 3 → es_row_ct J I p') (hsz : I 1 2 = J 7 3) (hpt : ∀ j : Nat, (j : Int) < J 7 3 → 0 ≤ I 2 j ∧ I 2 j ≤ 127) : am_C (d + 4) Y_ct_ahead [.inr (.inr 9), .inr (.inr 1)] I (fun r I' => I' = I ∧ r = some (.inr (.inl (es_ah (es_Rc J) (I 2) (J 7 3).toNat 0 (J 7 1) 0 0)))) := by
  refine am_enter ok_ct_ahead rfl ?_
  obtain ⟨r1, r2, r3, r4⟩ := id hr
  have a71 : I 7 1 = J 7 1 := congrFun h7 1
  have a72 : I 7 2 = J 7 2 := congrFun h7 2
  have a73 : I 7 3 = J 7 3 := congrFun h7 3
  have R7 : es_Rc J 7 = J 7 1 := rfl
  have R8 : es_Rc J 8 = J 7 2 := rfl
  have R9 : es_Rc J 9 = J 7 3 := rfl
  generalize hTT : es_ah (es_Rc J) (I 2) (J 7 3).toNat 0 (J 7 1) 0 0 = TT
  have loopp : ∀ (m p : Nat) (b t s : Int), (p : Int) + m = J 7 3 → (J 7 1 ≤ b ∧ b ≤ J 7 2) → es_v0 J p t → (0 ≤ s ∧ s ≤ 1000000000000000000) → es_ah (es_Rc J) (I 2) m p b (es_T t) s = TT → am_V (d + 4) Y_ct_ahead (fun r I' => I' = I ∧ r = some (.inr (.inl TT))) 17 [(0, .inr (.inr 9)), (1, .inr (.inr 1)), (2, .inr (.inl s)), (4, .inl b), (5, .inl t), (6, .inl p)] [] I := by
    intro m
    induction m with
    | zero =>
      intro p b t s h1 h2 h3 h4 h5
      have h6 : s = TT := h5
      repeat' (first
        | (refine am_gp 80 [] rfl (by first | trivial | exact Or.inl rfl | exact Or.inr rfl | (simp (decide := true) only [am_p, am_u_at, am_u_j, am_u_ne]; omega) | (simp (decide := true) only [am_p, and_true, true_and, true_or, or_true, am_u_at, am_u_j, am_u_ne]; omega) | (simp (decide := true) [am_p, am_u_at, am_u_j, am_u_ne]; omega)) ?_)
        | (show am_V _ _ _ _ _ _ _; simp only [Int.reduceToNat])
        | (refine am_bt rfl (by first | omega | (simp (decide := true) only [am_u_at, am_u_j, am_u_ne]; omega)) (by first | omega | (simp (decide := true) only [am_u_at, am_u_j, am_u_ne]; omega)) ?_)
        | (refine am_bf rfl (by first | omega | (simp (decide := true) only [am_u_at, am_u_j, am_u_ne]; omega)) (by first | omega | (simp (decide := true) only [am_u_at, am_u_j, am_u_ne]; omega)) ?_)
        | (refine am_br rfl (by first | omega | (simp (decide := true) only [am_u_at, am_u_j, am_u_ne]; omega)) (fun h => ?_) (fun h => ?_))
        | (refine am_rt rfl (by first | trivial | exact Or.inl rfl | exact Or.inr rfl) ?_))
      exact ⟨rfl, by rw [h6]⟩
    | succ m ih =>
      intro p b t s h1 h2 h3 h4 h5
      have hown := hpt p (by omega)
      have ht17 : 0 ≤ t ∧ t ≤ 17 := by unfold es_v0 es_vs at h3; omega
      have hwo := es_w_D (es_Rc J) p b (es_T t) (I 2 p)
      unfold es_Dc at hwo
      have hah : (if es_w (es_Rc J) p b (es_T t) (I 2 p) = 0 then es_oc s (es_fd es_oc 0 (es_w (es_Rc J) p b (es_T t)) (J 7 1) (min (I 2 p) (J 7 2 + 1) - J 7 1).toNat) else es_ah (es_Rc J) (I 2) m (p + 1) (I 2 p) (es_us (es_Rc J) p b (es_T t) (I 2 p)) (es_oc s (es_fd es_oc 0 (es_w (es_Rc J) p b (es_T t)) (J 7 1) (min (I 2 p) (J 7 2 + 1) - J 7 1).toNat))) = TT := h5
      have ep : (p : Int).toNat = p := by omega
      have loopq : ∀ (n k : Nat), k ≤ (min (I 2 p) (J 7 2 + 1) - J 7 1).toNat → (min (I 2 p) (J 7 2 + 1) - J 7 1).toNat - k < n → am_V (d + 4) Y_ct_ahead (fun r I' => I' = I ∧ r = some (.inr (.inl TT))) 56 [(0, .inr (.inr 9)), (1, .inr (.inr 1)), (2, .inr (.inl (es_oc s (es_fd es_oc 0 (es_w (es_Rc J) p b (es_T t)) (J 7 1) k)))), (4, .inl b), (5, .inl t), (6, .inl p), (7, .inl (I 2 p)), (8, .inl (J 7 1 + k))] [] I := by
        intro n
        induction n with
        | zero => intro k g1 g2; omega
        | succ n ihq =>
          intro k g1 g2
          have hk := es_fc_D (f := es_w (es_Rc J) p b (es_T t)) (fun z => es_w_D _ _ _ _ _) (J 7 1) k
          have hk2 : 0 ≤ es_oc s (es_fd es_oc 0 (es_w (es_Rc J) p b (es_T t)) (J 7 1) k) ∧ es_oc s (es_fd es_oc 0 (es_w (es_Rc J) p b (es_T t)) (J 7 1) k) ≤ 1000000000000000000 := es_mc.2.1 _ _ h4 hk
          have hwk := es_w_D (es_Rc J) p b (es_T t) (J 7 1 + k)
          have hwk2 : 0 ≤ es_w (es_Rc J) p b (es_T t) (J 7 1 + k) ∧ es_w (es_Rc J) p b (es_T t) (J 7 1 + k) ≤ 1000000000000000000 := hwk
          have fin : k = (min (I 2 p) (J 7 2 + 1) - J 7 1).toNat → am_V (d + 4) Y_ct_ahead (fun r I' => I' = I ∧ r = some (.inr (.inl TT))) 98 [(0, .inr (.inr 9)), (1, .inr (.inr 1)), (2, .inr (.inl (es_oc s (es_fd es_oc 0 (es_w (es_Rc J) p b (es_T t)) (J 7 1) k)))), (4, .inl b), (5, .inl t), (6, .inl p), (7, .inl (I 2 p)), (8, .inl (J 7 1 + k))] [] I := by
            intro ek
            rw [← ek] at hah
            repeat' (first
              | (refine am_gp 80 [17] rfl (by first | trivial | exact Or.inl rfl | exact Or.inr rfl | (simp (decide := true) only [am_p, am_u_at, am_u_j, am_u_ne]; omega) | (simp (decide := true) only [am_p, and_true, true_and, true_or, or_true, am_u_at, am_u_j, am_u_ne]; omega) | (simp (decide := true) [am_p, am_u_at, am_u_j, am_u_ne]; omega)) ?_)
              | (show am_V _ _ _ _ _ _ _; simp only [Int.reduceToNat])
              | (refine am_bt rfl (by first | omega | (simp (decide := true) only [am_u_at, am_u_j, am_u_ne]; omega)) (by first | omega | (simp (decide := true) only [am_u_at, am_u_j, am_u_ne]; omega)) ?_)
              | (refine am_bf rfl (by first | omega | (simp (decide := true) only [am_u_at, am_u_j, am_u_ne]; omega)) (by first | omega | (simp (decide := true) only [am_u_at, am_u_j, am_u_ne]; omega)) ?_)
              | (refine am_br rfl (by first | omega | (simp (decide := true) only [am_u_at, am_u_j, am_u_ne]; omega)) (fun h => ?_) (fun h => ?_))
              | (refine am_cU (y' := Y_mt_onward) rfl lk_ct_33_ct ok_mt_onward rfl rfl rfl (c_ct_on _ _ _ _ _ _ J (by assumption) (by assumption) hr (by first | omega | (simp (decide := true) only [am_u_at, am_u_j, am_u_ne]; omega)) (by first | omega | (simp (decide := true) only [am_u_at, am_u_j, am_u_ne]; omega)) (by assumption) (by first | omega | (simp (decide := true) only [am_u_at, am_u_j, am_u_ne]; omega)) (by assumption)) ?_; rintro r I ⟨rfl, rfl⟩)
              | (refine am_cU (y' := Y_mt_stateAt) rfl lk_ct_40_ct ok_mt_stateAt rfl rfl rfl (c_ct_stateAt2 _ _ _ _ _ _ J (by assumption) hr (by first | omega | (simp (decide := true) only [am_u_at, am_u_j, am_u_ne]; omega)) (by first | omega | (simp (decide := true) only [am_u_at, am_u_j, am_u_ne]; omega)) (by first | omega | (simp (decide := true) only [am_u_at, am_u_j, am_u_ne]; omega)) (by first | omega | (simp (decide := true) only [am_u_at, am_u_j, am_u_ne]; omega))) ?_; rintro r I ⟨rfl, rfl⟩)
              | (refine am_rt rfl (by first | trivial | exact Or.inl rfl | exact Or.inr rfl) ?_))
            · refine am_wk [7, 8] ?_
              rw [if_neg (by omega)] at hah
              have hv2 := es_v0_u hr (b := b) (q := I 2 p) ⟨by omega, by omega⟩ h3 (by omega)
              have hwg := (es_w_g (R := es_Rc J) (i := p) (b := b) (u := es_T t) (q := I 2 p) (by omega)).1
              rw [R7, R8] at hwg
              rw [← hv2.2] at hah
              have h9 := ih (p + 1) (I 2 p) (if (p : Int) = 0 then 0 else es_nx (J 7 4) t (I 2 p - b)) _ (by omega) hwg (by rw [show ((p + 1 : Nat) : Int) = (p : Int) + 1 by omega]; exact hv2.1) hk2 hah
              rw [show ((p + 1 : Nat) : Int) = (p : Int) + 1 by omega] at h9
              exact h9
            · rw [if_pos (by omega)] at hah
              exact ⟨rfl, by rw [hah]⟩
          refine am_go 1 [] rfl trivial ?_
          repeat' (first
            | (refine am_gp 80 [56, 98] rfl (by first | trivial | exact Or.inl rfl | exact Or.inr rfl | (simp (decide := true) only [am_p, am_u_at, am_u_j, am_u_ne]; omega) | (simp (decide := true) only [am_p, and_true, true_and, true_or, or_true, am_u_at, am_u_j, am_u_ne]; omega) | (simp (decide := true) [am_p, am_u_at, am_u_j, am_u_ne]; omega)) ?_)
            | (show am_V _ _ _ _ _ _ _; simp only [Int.reduceToNat])
            | (refine am_bt rfl (by first | omega | (simp (decide := true) only [am_u_at, am_u_j, am_u_ne]; omega)) (by first | omega | (simp (decide := true) only [am_u_at, am_u_j, am_u_ne]; omega)) ?_)
            | (refine am_bf rfl (by first | omega | (simp (decide := true) only [am_u_at, am_u_j, am_u_ne]; omega)) (by first | omega | (simp (decide := true) only [am_u_at, am_u_j, am_u_ne]; omega)) ?_)
            | (refine am_br rfl (by first | omega | (simp (decide := true) only [am_u_at, am_u_j, am_u_ne]; omega)) (fun h => ?_) (fun h => ?_))
            | (refine am_cU (y' := Y_mt_onward) rfl lk_ct_33_ct ok_mt_onward rfl rfl rfl (c_ct_on _ _ _ _ _ _ J (by assumption) (by assumption) hr (by first | omega | (simp (decide := true) only [am_u_at, am_u_j, am_u_ne]; omega)) (by first | omega | (simp (decide := true) only [am_u_at, am_u_j, am_u_ne]; omega)) (by assumption) (by first | omega | (simp (decide := true) only [am_u_at, am_u_j, am_u_ne]; omega)) (by assumption)) ?_; rintro r I ⟨rfl, rfl⟩)
            | (refine am_cN (y' := Y_es_cappedSum) rfl lk_ct_9 ok_es_cappedSum rfl rfl (c_capped _ _ _ _ (by first | omega | (simp (decide := true) only [am_u_at, am_u_j, am_u_ne]; omega)) (by first | omega | (simp (decide := true) only [am_u_at, am_u_j, am_u_ne]; omega))) ?_; rintro r I ⟨rfl, rfl⟩)
            | (refine am_rt rfl (by first | trivial | exact Or.inl rfl | exact Or.inr rfl) ?_))
          · exact fin (by omega)
          · exact fin (by omega)
          · have h9 := ihq (k + 1) (by omega) (by omega)
            rw [show J 7 1 + ((k + 1 : Nat) : Int) = J 7 1 + (k : Int) + 1 by omega] at h9
            have e9 : es_oc s (es_fd es_oc 0 (es_w (es_Rc J) p b (es_T t)) (J 7 1) (k + 1)) = es_oc (es_oc s (es_fd es_oc 0 (es_w (es_Rc J) p b (es_T t)) (J 7 1) k)) (es_w (es_Rc J) p b (es_T t) (J 7 1 + k)) := (es_mc.2.2.1 _ _ _ h4 hk hwk).symm
            rw [e9] at h9
            exact h9
      refine am_go 1 [] rfl trivial ?_
      repeat' (first
        | (refine am_gp 80 [56] rfl (by first | trivial | exact Or.inl rfl | exact Or.inr rfl | (simp (decide := true) only [am_p, am_u_at, am_u_j, am_u_ne]; omega) | (simp (decide := true) only [am_p, and_true, true_and, true_or, or_true, am_u_at, am_u_j, am_u_ne]; omega) | (simp (decide := true) [am_p, am_u_at, am_u_j, am_u_ne]; omega)) ?_)
        | (show am_V _ _ _ _ _ _ _; simp only [Int.reduceToNat])
        | (refine am_bt rfl (by first | omega | (simp (decide := true) only [am_u_at, am_u_j, am_u_ne]; omega)) (by first | omega | (simp (decide := true) only [am_u_at, am_u_j, am_u_ne]; omega)) ?_)
        | (refine am_bf rfl (by first | omega | (simp (decide := true) only [am_u_at, am_u_j, am_u_ne]; omega)) (by first | omega | (simp (decide := true) only [am_u_at, am_u_j, am_u_ne]; omega)) ?_)
        | (refine am_br rfl (by first | omega | (simp (decide := true) only [am_u_at, am_u_j, am_u_ne]; omega)) (fun h => ?_) (fun h => ?_))
        | (refine am_rt rfl (by first | trivial | exact Or.inl rfl | exact Or.inr rfl) ?_))
      rw [ep, a71]
      have h9 := loopq 200 0 (by omega) (by omega)
      rw [show J 7 1 + ((0 : Nat) : Int) = J 7 1 by omega, show es_oc s (es_fd es_oc 0 (es_w (es_Rc J) p b (es_T t)) (J 7 1) 0) = s from es_mn_r es_mc h4] at h9
      exact h9
  repeat' (first
    | (refine am_gp 80 [17] rfl (by first | trivial | exact Or.inl rfl | exact Or.inr rfl | (simp (decide := true) only [am_p, am_u_at, am_u_j, am_u_ne]; omega) | (simp (decide := true) only [am_p, and_true, true_and, true_or, or_true, am_u_at, am_u_j, am_u_ne]; omega) | (simp (decide := true) [am_p, am_u_at, am_u_j, am_u_ne]; omega)) ?_)
    | (show am_V _ _ _ _ _ _ _; simp only [Int.reduceToNat])
    | (refine am_bt rfl (by first | omega | (simp (decide := true) only [am_u_at, am_u_j, am_u_ne]; omega)) (by first | omega | (simp (decide := true) only [am_u_at, am_u_j, am_u_ne]; omega)) ?_)
    | (refine am_bf rfl (by first | omega | (simp (decide := true) only [am_u_at, am_u_j, am_u_ne]; omega)) (by first | omega | (simp (decide := true) only [am_u_at, am_u_j, am_u_ne]; omega)) ?_)
    | (refine am_br rfl (by first | omega | (simp (decide := true) only [am_u_at, am_u_j, am_u_ne]; omega)) (fun h => ?_) (fun h => ?_))
    | (refine am_rt rfl (by first | trivial | exact Or.inl rfl | exact Or.inr rfl) ?_))
  rw [a71]
  exact loopp (J 7 3).toNat 0 (J 7 1) 0 0 (by omega) (by omega) (Or.inl ⟨rfl, rfl⟩) (by omega) hTT
def es_i9 (I : am_I) : Prop := (∀ j : Nat, 0 ≤ I 10 j ∧ I 10 j ≤ 1000000000000000000) ∧ (I 9 2 = 0 ∨ (I 9 2 = 1 ∧ ∀ p : Int, 0 ≤ p → p < I 7 3 → es_row_ct I I p))
theorem es_row_ct_J {J J' I : am_I} {p : Int} (h7 : J' 7 = J 7) (h8 : J' 8 = J 8) (h : es_row_ct J I p) : es_row_ct J' I p := by
  unfold es_row_ct es_vs es_g_ct at h ⊢
  rw [h7, h8]
  exact h
theorem es_i9_mk {J I : am_I} (h7 : I 7 = J 7) (h8 : I 8 = J 8) (hv : ∀ j : Nat, 0 ≤ I 10 j ∧ I 10 j ≤ 1000000000000000000) (h9 : I 9 2 = 1) (hrows : ∀ p : Int, 0 ≤ p → p < J 7 3 → es_row_ct J I p) : es_i9 I := ⟨hv, Or.inr ⟨h9, fun p h1 h2 => es_row_ct_J h7 h8 (hrows p h1 (by rw [h7] at h2; exact h2))⟩⟩
theorem c_es_melodies (d : Nat) (I0 : am_I) (hr : es_rb I0) (h9 : es_i9 I0) : am_C (d + 5) Y_es_melodies [.inr (.inr 0)] I0 (fun r I' => r = some (.inr (.inl (es_tot (es_Rc I0)))) ∧ am_fr I0 I' [9, 10] ∧ es_i9 I') := by
  refine am_enter ok_es_melodies rfl ?_
  obtain ⟨hv, hfl⟩ := h9
  repeat' (first
    | (refine am_gp 80 [] rfl (by first | trivial | exact Or.inl rfl | exact Or.inr rfl | (simp (decide := true) only [am_p, am_u_at, am_u_j, am_u_ne]; omega) | (simp (decide := true) only [am_p, and_true, true_and, true_or, or_true, am_u_at, am_u_j, am_u_ne]; omega) | (simp (decide := true) [am_p, am_u_at, am_u_j, am_u_ne]; omega)) ?_)
    | (show am_V _ _ _ _ _ _ _; simp only [Int.reduceToNat])
    | (refine am_bt rfl (by first | omega | (simp (decide := true) only [am_u_at, am_u_j, am_u_ne]; omega)) (by first | omega | (simp (decide := true) only [am_u_at, am_u_j, am_u_ne]; omega)) ?_)
    | (refine am_bf rfl (by first | omega | (simp (decide := true) only [am_u_at, am_u_j, am_u_ne]; omega)) (by first | omega | (simp (decide := true) only [am_u_at, am_u_j, am_u_ne]; omega)) ?_)
    | (refine am_br rfl (by first | omega | (simp (decide := true) only [am_u_at, am_u_j, am_u_ne]; omega)) (fun h => ?_) (fun h => ?_))
    | (refine am_cU (y' := Y_mt_fill) rfl lk_es_114_ct ok_mt_fill rfl rfl rfl (c_ct_fill _ I0 hr hv hfl) ?_; rintro r I ⟨rfl, hfr, hf1, hvn, hrows⟩)
    | (refine am_cU (y' := Y_mt_total) rfl lk_es_117_ct ok_mt_total rfl rfl rfl (c_ct_tot _ _ I0 (hfr 7 rfl) (hfr 8 rfl) hr hvn hrows) ?_; rintro r I ⟨rfl, rfl⟩)
    | (refine am_rt rfl (by first | trivial | exact Or.inl rfl | exact Or.inr rfl) ?_))
  exact ⟨rfl, hfr, es_i9_mk (hfr 7 rfl) (hfr 8 rfl) hvn hf1 hrows⟩
theorem c_es_melody (d : Nat) (k : Int) (I0 : am_I) (hk : -9223372036854775808 ≤ k ∧ k < 9223372036854775808) (hr : es_rb I0) (h9 : es_i9 I0) : am_C (d + 5) Y_es_melody [.inr (.inr 0), .inr (.inl k)] I0 (fun r I' => (k < 0 ∧ r = some (.inl (-2)) ∧ I' = I0) ∨ ((0 ≤ k ∧ es_tot (es_Rc I0) ≤ k) ∧ r = some (.inl (-1)) ∧ am_fr I0 I' [9, 10] ∧ es_i9 I') ∨ ((0 ≤ k ∧ k < es_tot (es_Rc I0)) ∧ r = some (.inl 1) ∧ am_fr I0 I' [1, 2, 3, 9, 10, 23] ∧ es_i9 I' ∧ I' 23 9 = 0 ∧ I' 1 2 = I0 7 3 ∧ ∀ j : Nat, (j : Int) < I0 7 3 → I' 2 j = (es_sp (es_Rc I0) k (j + 1)).1 ∧ I' 3 j = 24)) := by
  refine am_enter ok_es_melody rfl ?_
  obtain ⟨hv, hfl⟩ := h9
  have htd : 0 ≤ es_tot (es_Rc I0) ∧ es_tot (es_Rc I0) ≤ 1000000000000000000 := es_fc_D (fun q => es_g_mo_D _ _ _ _) _ _
  repeat' (first
    | (refine am_gp 80 [] rfl (by first | trivial | exact Or.inl rfl | exact Or.inr rfl | (simp (decide := true) only [am_p, am_u_at, am_u_j, am_u_ne]; omega) | (simp (decide := true) only [am_p, and_true, true_and, true_or, or_true, am_u_at, am_u_j, am_u_ne]; omega) | (simp (decide := true) [am_p, am_u_at, am_u_j, am_u_ne]; omega)) ?_)
    | (show am_V _ _ _ _ _ _ _; simp only [Int.reduceToNat])
    | (refine am_bt rfl (by first | omega | (simp (decide := true) only [am_u_at, am_u_j, am_u_ne]; omega)) (by first | omega | (simp (decide := true) only [am_u_at, am_u_j, am_u_ne]; omega)) ?_)
    | (refine am_bf rfl (by first | omega | (simp (decide := true) only [am_u_at, am_u_j, am_u_ne]; omega)) (by first | omega | (simp (decide := true) only [am_u_at, am_u_j, am_u_ne]; omega)) ?_)
    | (refine am_br rfl (by first | omega | (simp (decide := true) only [am_u_at, am_u_j, am_u_ne]; omega)) (fun h => ?_) (fun h => ?_))
    | (refine am_cU (y' := Y_mt_fill) rfl lk_es_114_ct ok_mt_fill rfl rfl rfl (c_ct_fill _ I0 hr hv hfl) ?_; rintro r I ⟨rfl, hfr, hf1, hvn, hrows⟩)
    | (refine am_cU (y' := Y_mt_total) rfl lk_es_117_ct ok_mt_total rfl rfl rfl (c_ct_tot _ _ I0 (hfr 7 rfl) (hfr 8 rfl) hr hvn hrows) ?_; rintro r I ⟨rfl, rfl⟩)
    | (refine am_cV (y' := Y_ct_spell) rfl lk_es_121_ct ok_ct_spell rfl rfl rfl (c_ct_spell _ _ _ I0 (hfr 7 rfl) (hfr 8 rfl) hr hrows (by first | omega | (simp (decide := true) only [am_u_at, am_u_j, am_u_ne]; omega))) ?_; rintro r I ⟨rfl, hfs, hsz, hsp⟩)
    | (refine am_cV (y' := Y_ju_forget) rfl lk_es_84 ok_ju_forget rfl rfl rfl (c_ju_forget _ _) ?_; rintro r I ⟨rfl, rfl⟩)
    | (refine am_rt rfl (by first | trivial | exact Or.inl rfl | exact Or.inr rfl) ?_))
  · refine Or.inr (Or.inr ⟨⟨by omega, by omega⟩, rfl, ?_, ?_, ?_, ?_, ?_⟩)
    · exact ((hfr.wd rfl).tr (hfs.wd rfl)).u _ _ rfl
    · refine es_i9_mk (J := I0) ?_ ?_ ?_ ?_ ?_
      · rw [am_u_ne (by decide), hfs 7 rfl, hfr 7 rfl]
      · rw [am_u_ne (by decide), hfs 8 rfl, hfr 8 rfl]
      · intro j
        rw [am_u_ne (by decide), hfs 10 rfl]
        exact hvn j
      · rw [am_u_ne (by decide), hfs 9 rfl]
        exact hf1
      · intro p h1 h2
        refine es_row_ct_u (hrows p h1 h2) (fun q t _ _ _ => ?_)
        rw [am_u_ne (by decide), hfs 10 rfl]
    · simp (decide := true) only [am_u_at, am_u_j, am_u_ne]
    · rw [am_u_ne (by decide)]
      exact hsz
    · intro j hj
      rw [am_u_ne (by decide), am_u_ne (by decide)]
      exact hsp j hj
  · exact Or.inr (Or.inl ⟨⟨by omega, by omega⟩, rfl, hfr, es_i9_mk (hfr 7 rfl) (hfr 8 rfl) hvn hf1 hrows⟩)
  · exact Or.inl ⟨by omega, rfl, rfl⟩
theorem c_es_place (d : Nat) (I0 : am_I) (hr : es_rb I0) (h9 : es_i9 I0) (hn : 0 ≤ I0 1 2 ∧ I0 1 2 ≤ 24) (hp2 : ∀ j : Nat, (j : Int) < I0 1 2 → 0 ≤ I0 2 j ∧ I0 2 j ≤ 127) : am_C (d + 5) Y_es_place [.inr (.inr 0)] I0 (fun r I' => (I0 1 2 ≠ I0 7 3 ∧ r = some (.inr (.inl (-1))) ∧ I' = I0) ∨ (I0 1 2 = I0 7 3 ∧ r = some (.inr (.inl (es_ah (es_Rc I0) (I0 2) (I0 7 3).toNat 0 (I0 7 1) 0 0))) ∧ am_fr I0 I' [9, 10] ∧ es_i9 I')) := by
  refine am_enter ok_es_place rfl ?_
  obtain ⟨hv, hfl⟩ := h9
  obtain ⟨r1, r2, r3, r4⟩ := id hr
  repeat' (first
    | (refine am_gp 80 [21] rfl (by first | trivial | exact Or.inl rfl | exact Or.inr rfl | (simp (decide := true) only [am_p, am_u_at, am_u_j, am_u_ne]; omega) | (simp (decide := true) only [am_p, and_true, true_and, true_or, or_true, am_u_at, am_u_j, am_u_ne]; omega) | (simp (decide := true) [am_p, am_u_at, am_u_j, am_u_ne]; omega)) ?_)
    | (show am_V _ _ _ _ _ _ _; simp only [Int.reduceToNat])
    | (refine am_bt rfl (by first | omega | (simp (decide := true) only [am_u_at, am_u_j, am_u_ne]; omega)) (by first | omega | (simp (decide := true) only [am_u_at, am_u_j, am_u_ne]; omega)) ?_)
    | (refine am_bf rfl (by first | omega | (simp (decide := true) only [am_u_at, am_u_j, am_u_ne]; omega)) (by first | omega | (simp (decide := true) only [am_u_at, am_u_j, am_u_ne]; omega)) ?_)
    | (refine am_br rfl (by first | omega | (simp (decide := true) only [am_u_at, am_u_j, am_u_ne]; omega)) (fun h => ?_) (fun h => ?_))
    | (refine am_rt rfl (by first | trivial | exact Or.inl rfl | exact Or.inr rfl) ?_))
  · have hpt : ∀ j : Nat, (j : Int) < I0 7 3 → 0 ≤ I0 2 j ∧ I0 2 j ≤ 127 := fun j hj => hp2 j (by omega)
    repeat' (first
      | (refine am_gp 80 [] rfl (by first | trivial | exact Or.inl rfl | exact Or.inr rfl | (simp (decide := true) only [am_p, am_u_at, am_u_j, am_u_ne]; omega) | (simp (decide := true) only [am_p, and_true, true_and, true_or, or_true, am_u_at, am_u_j, am_u_ne]; omega) | (simp (decide := true) [am_p, am_u_at, am_u_j, am_u_ne]; omega)) ?_)
      | (show am_V _ _ _ _ _ _ _; simp only [Int.reduceToNat])
      | (refine am_bt rfl (by first | omega | (simp (decide := true) only [am_u_at, am_u_j, am_u_ne]; omega)) (by first | omega | (simp (decide := true) only [am_u_at, am_u_j, am_u_ne]; omega)) ?_)
      | (refine am_bf rfl (by first | omega | (simp (decide := true) only [am_u_at, am_u_j, am_u_ne]; omega)) (by first | omega | (simp (decide := true) only [am_u_at, am_u_j, am_u_ne]; omega)) ?_)
      | (refine am_br rfl (by first | omega | (simp (decide := true) only [am_u_at, am_u_j, am_u_ne]; omega)) (fun h => ?_) (fun h => ?_))
      | (refine am_cU (y' := Y_mt_fill) rfl lk_es_114_ct ok_mt_fill rfl rfl rfl (c_ct_fill _ I0 hr hv hfl) ?_; rintro r I ⟨rfl, hfr, hf1, hvn, hrows⟩)
      | (refine am_cV (y' := Y_ct_ahead) rfl lk_es_127_ct ok_ct_ahead rfl rfl rfl (c_ct_ahead _ _ I0 (hfr 7 rfl) (hfr 8 rfl) hr hrows (by rw [hfr 1 rfl]; omega) (by rw [hfr 2 rfl]; exact hpt)) ?_; rintro r I ⟨rfl, rfl⟩)
      | (refine am_rt rfl (by first | trivial | exact Or.inl rfl | exact Or.inr rfl) ?_))
    refine Or.inr ⟨by omega, ?_, hfr, es_i9_mk (hfr 7 rfl) (hfr 8 rfl) hvn hf1 hrows⟩
    rw [hfr 2 rfl]
  · exact Or.inl ⟨by omega, rfl, rfl⟩
end
section
theorem c_mo_melody (d : Nat) (k : Int) (I0 : am_I) (hk : -9223372036854775808 ≤ k ∧ k < 9223372036854775808) (hr : es_rm (I0 44)) : am_C (d + 5) Y_mo_melody [.inr (.inr 44), .inr (.inl k)] I0 (fun r I' => (k < 0 ∧ r = some (.inl (-2)) ∧ I' = I0) ∨ ((0 ≤ k ∧ es_tot (es_cut (I0 44)) ≤ k) ∧ r = some (.inl (-1)) ∧ am_fr I0 I' [54]) ∨ ((0 ≤ k ∧ k < es_tot (es_cut (I0 44))) ∧ r = some (.inl 1) ∧ am_fr I0 I' [44, 45, 46, 54] ∧ I' 44 = am_up (am_up (I0 44) 0 (I0 44 9)) 6 0 ∧ ∀ j : Nat, (j : Int) < I0 44 9 → I' 45 j = (es_sp (es_cut (I0 44)) k (j + 1)).1 ∧ I' 46 j = 24)) := by
  refine am_enter ok_mo_melody rfl ?_
  obtain ⟨r1, r2, r3, r4⟩ := id hr
  have hrR : es_rm (es_cut (I0 44)) := hr
  have htd : 0 ≤ es_tot (es_cut (I0 44)) ∧ es_tot (es_cut (I0 44)) ≤ 1000000000000000000 := es_fc_D (fun q => es_g_mo_D _ _ _ _) _ _
  have htt : es_tot (I0 44) = es_tot (es_cut (I0 44)) := rfl
  have R7 : es_cut (I0 44) 7 = I0 44 7 := rfl
  have R8 : es_cut (I0 44) 8 = I0 44 8 := rfl
  have R9 : es_cut (I0 44) 9 = I0 44 9 := rfl
  have R13 : es_cut (I0 44) 13 = I0 44 13 := rfl
  have R14 : es_cut (I0 44) 14 = I0 44 14 := rfl
  have R15 : es_cut (I0 44) 15 = I0 44 15 := rfl
  have main : ∀ I1 : am_I, am_fr I0 I1 [54] → (∀ i : Int, 0 ≤ i → i < I0 44 9 → es_row_mo (I0 44) (I1 54) i) → (0 ≤ k ∧ k < es_tot (es_cut (I0 44))) → am_V (d + 5) Y_mo_melody (fun r I' => (k < 0 ∧ r = some (.inl (-2)) ∧ I' = I0) ∨ ((0 ≤ k ∧ es_tot (es_cut (I0 44)) ≤ k) ∧ r = some (.inl (-1)) ∧ am_fr I0 I' [54]) ∨ ((0 ≤ k ∧ k < es_tot (es_cut (I0 44))) ∧ r = some (.inl 1) ∧ am_fr I0 I' [44, 45, 46, 54] ∧ I' 44 = am_up (am_up (I0 44) 0 (I0 44 9)) 6 0 ∧ ∀ j : Nat, (j : Int) < I0 44 9 → I' 45 j = (es_sp (es_cut (I0 44)) k (j + 1)).1 ∧ I' 46 j = 24)) 36 [(0, .inr (.inr 44)), (1, .inr (.inl k)), (3, .inr (.inl k)), (5, .inl 0), (6, .inl 0)] [] I1 := by
    intro I1 hfr hrows hkt
    have hal := es_sp_al hrR hkt
    have loopi : ∀ (m i : Nat) (I : am_I), (i : Int) ≤ I0 44 9 → I0 44 9 - i < m → am_fr I0 I [45, 46, 54] → I 54 = I1 54 → (∀ j : Nat, j < i → I 45 j = (es_sp (es_cut (I0 44)) k (j + 1)).1 ∧ I 46 j = 24) → am_V (d + 5) Y_mo_melody (fun r I' => (k < 0 ∧ r = some (.inl (-2)) ∧ I' = I0) ∨ ((0 ≤ k ∧ es_tot (es_cut (I0 44)) ≤ k) ∧ r = some (.inl (-1)) ∧ am_fr I0 I' [54]) ∨ ((0 ≤ k ∧ k < es_tot (es_cut (I0 44))) ∧ r = some (.inl 1) ∧ am_fr I0 I' [44, 45, 46, 54] ∧ I' 44 = am_up (am_up (I0 44) 0 (I0 44 9)) 6 0 ∧ ∀ j : Nat, (j : Int) < I0 44 9 → I' 45 j = (es_sp (es_cut (I0 44)) k (j + 1)).1 ∧ I' 46 j = 24)) 36 [(0, .inr (.inr 44)), (1, .inr (.inl k)), (3, .inr (.inl (es_sp (es_cut (I0 44)) k i).2.2)), (5, .inl (es_sp (es_cut (I0 44)) k i).2.1), (6, .inl i)] [] I := by
      intro m
      induction m with
      | zero => intro i I h1 h2; omega
      | succ m ih =>
        intro i I h1 h2 hf h54 hin
        have e44 : I 44 = I0 44 := hf 44 rfl
        have e7 : I 44 7 = I0 44 7 := congrFun e44 7
        have e8 : I 44 8 = I0 44 8 := congrFun e44 8
        have e9 : I 44 9 = I0 44 9 := congrFun e44 9
        have e14 : I 44 14 = I0 44 14 := congrFun e44 14
        have e15 : I 44 15 = I0 44 15 := congrFun e44 15
        have ha := hal i (by omega)
        have hst : (i : Int) < I0 44 9 → _ := fun h => es_st_al hrR (i := i) ⟨by omega, by omega⟩ ha
        have hsp : es_sp (es_cut (I0 44)) k (i + 1) = es_st (es_cut (I0 44)) i (es_sp (es_cut (I0 44)) k i) := rfl
        obtain ⟨a1, a2, a3, a4⟩ := ha
        rw [R7, R8] at a1
        have hprev : 0 < (i : Int) → I 45 ((i : Int) - 1).toNat = (es_sp (es_cut (I0 44)) k i).1 := by
          intro h
          have h5 := (hin ((i : Int) - 1).toNat (by omega)).1
          rw [show ((i : Int) - 1).toNat + 1 = i by omega] at h5
          exact h5
        generalize es_sp (es_cut (I0 44)) k i = x at *
        have fin : ∀ (q l q2 u : Int), (i : Int) < I0 44 9 → q = (es_sp (es_cut (I0 44)) k (i + 1)).1 → l = (es_sp (es_cut (I0 44)) k (i + 1)).2.2 → u = (es_sp (es_cut (I0 44)) k (i + 1)).2.1 → (0 ≤ q2 ∧ q2 ≤ 200) → am_V (d + 5) Y_mo_melody (fun r I' => (k < 0 ∧ r = some (.inl (-2)) ∧ I' = I0) ∨ ((0 ≤ k ∧ es_tot (es_cut (I0 44)) ≤ k) ∧ r = some (.inl (-1)) ∧ am_fr I0 I' [54]) ∨ ((0 ≤ k ∧ k < es_tot (es_cut (I0 44))) ∧ r = some (.inl 1) ∧ am_fr I0 I' [44, 45, 46, 54] ∧ I' 44 = am_up (am_up (I0 44) 0 (I0 44 9)) 6 0 ∧ ∀ j : Nat, (j : Int) < I0 44 9 → I' 45 j = (es_sp (es_cut (I0 44)) k (j + 1)).1 ∧ I' 46 j = 24)) 54 [(0, .inr (.inr 44)), (1, .inr (.inl k)), (3, .inr (.inl l)), (5, .inl u), (6, .inl i), (7, .inl 1), (8, .inl q2)] [] (am_u (am_u I 45 (i : Int).toNat q) 46 (i : Int).toNat 24) := by
          intro q l q2 u hin9 hq hl hu hq2
          have h9 := ih (i + 1) (am_u (am_u I 45 (i : Int).toNat q) 46 (i : Int).toNat 24) (by omega) (by omega) ((hf.u _ _ rfl).u _ _ rfl) (by rw [am_u_ne (by decide), am_u_ne (by decide)]; exact h54) ?_
          · rw [← hl, ← hu, show ((i + 1 : Nat) : Int) = (i : Int) + 1 by omega] at h9
            repeat' (first
              | (refine am_gp 80 [36] rfl (by first | trivial | exact Or.inl rfl | exact Or.inr rfl | (simp (decide := true) only [am_p, am_u_at, am_u_j, am_u_ne]; omega) | (simp (decide := true) only [am_p, and_true, true_and, true_or, or_true, am_u_at, am_u_j, am_u_ne]; omega) | (simp (decide := true) [am_p, am_u_at, am_u_j, am_u_ne]; omega)) ?_)
              | (show am_V _ _ _ _ _ _ _; simp only [Int.reduceToNat])
              | (refine am_bt rfl (by first | omega | (simp (decide := true) only [am_u_at, am_u_j, am_u_ne]; omega)) (by first | omega | (simp (decide := true) only [am_u_at, am_u_j, am_u_ne]; omega)) ?_)
              | (refine am_bf rfl (by first | omega | (simp (decide := true) only [am_u_at, am_u_j, am_u_ne]; omega)) (by first | omega | (simp (decide := true) only [am_u_at, am_u_j, am_u_ne]; omega)) ?_)
              | (refine am_br rfl (by first | omega | (simp (decide := true) only [am_u_at, am_u_j, am_u_ne]; omega)) (fun h => ?_) (fun h => ?_))
              | (refine am_rt rfl (by first | trivial | exact Or.inl rfl | exact Or.inr rfl) ?_))
            · exact am_wk [7, 8] h9
            · exact am_wk [7, 8] h9
          · intro j hj
            simp (decide := true) only [am_u_at, am_u_j, am_u_ne]
            rw [am_u_eq, am_u_eq, show (i : Int).toNat = i by omega]
            by_cases c : j = i
            · rw [c, am_up_eq, am_up_eq]
              exact ⟨hq, rfl⟩
            · rw [am_up_ne c, am_up_ne c]
              exact hin j (by omega)
        have loopq : ∀ (n : Nat) (q l : Int), (i : Int) < I0 44 9 → I0 44 7 ≤ q → q ≤ I0 44 8 + 1 → I0 44 8 + 1 - q < n → 0 ≤ l → l ≤ 1000000000000000000 → l < es_fd es_oc 0 (es_w (es_cut (I0 44)) i x.1 x.2.1) q (I0 44 8 + 1 - q).toNat → es_pk (es_w (es_cut (I0 44)) i x.1 x.2.1) q (I0 44 8 + 1 - q).toNat l = es_pk (es_w (es_cut (I0 44)) i x.1 x.2.1) (I0 44 7) (I0 44 8 + 1 - I0 44 7).toNat x.2.2 → am_V (d + 5) Y_mo_melody (fun r I' => (k < 0 ∧ r = some (.inl (-2)) ∧ I' = I0) ∨ ((0 ≤ k ∧ es_tot (es_cut (I0 44)) ≤ k) ∧ r = some (.inl (-1)) ∧ am_fr I0 I' [54]) ∨ ((0 ≤ k ∧ k < es_tot (es_cut (I0 44))) ∧ r = some (.inl 1) ∧ am_fr I0 I' [44, 45, 46, 54] ∧ I' 44 = am_up (am_up (I0 44) 0 (I0 44 9)) 6 0 ∧ ∀ j : Nat, (j : Int) < I0 44 9 → I' 45 j = (es_sp (es_cut (I0 44)) k (j + 1)).1 ∧ I' 46 j = 24)) 54 [(0, .inr (.inr 44)), (1, .inr (.inl k)), (3, .inr (.inl l)), (5, .inl x.2.1), (6, .inl i), (7, .inl 0), (8, .inl q)] [] I := by
          intro n
          induction n with
          | zero => intro q l g0 g1 g2 g3; omega
          | succ n ihq =>
            intro q l g0 g1 g2 g3 g4 g5 g6 g7
            have hq8 : q ≤ I0 44 8 := by
              refine Classical.byContradiction (fun c => ?_)
              rw [show (I0 44 8 + 1 - q).toNat = 0 by omega] at g6
              have e3 : es_fd es_oc 0 (es_w (es_cut (I0 44)) i x.1 x.2.1) q 0 = 0 := rfl
              omega
            have hwd := es_w_D (es_cut (I0 44)) i x.1 x.2.1 q
            unfold es_Dc at hwd
            have em : (I0 44 8 + 1 - q).toNat = (I0 44 8 + 1 - (q + 1)).toNat + 1 := by omega
            rw [em, es_fd_l es_mc (fun z => es_w_D _ _ _ _ _)] at g6
            have g6' : l < min 1000000000000000000 (es_w (es_cut (I0 44)) i x.1 x.2.1 q + es_fd es_oc 0 (es_w (es_cut (I0 44)) i x.1 x.2.1) (q + 1) (I0 44 8 + 1 - (q + 1)).toNat) := g6
            rw [em] at g7
            have done : l < es_w (es_cut (I0 44)) i x.1 x.2.1 q → q = (es_sp (es_cut (I0 44)) k (i + 1)).1 ∧ l = (es_sp (es_cut (I0 44)) k (i + 1)).2.2 ∧ es_us (es_cut (I0 44)) i x.1 x.2.1 q = (es_sp (es_cut (I0 44)) k (i + 1)).2.1 := by
              intro hl
              have e1 : es_pk (es_w (es_cut (I0 44)) i x.1 x.2.1) q ((I0 44 8 + 1 - (q + 1)).toNat + 1) l = (q, l) := by
                show (if l < es_w (es_cut (I0 44)) i x.1 x.2.1 q then (q, l) else _) = _
                rw [if_pos hl]
              rw [e1] at g7
              rw [hsp]
              unfold es_st
              rw [R7, R8, ← g7]
              exact ⟨rfl, rfl, rfl⟩
            have cont : ¬ l < es_w (es_cut (I0 44)) i x.1 x.2.1 q → am_V (d + 5) Y_mo_melody (fun r I' => (k < 0 ∧ r = some (.inl (-2)) ∧ I' = I0) ∨ ((0 ≤ k ∧ es_tot (es_cut (I0 44)) ≤ k) ∧ r = some (.inl (-1)) ∧ am_fr I0 I' [54]) ∨ ((0 ≤ k ∧ k < es_tot (es_cut (I0 44))) ∧ r = some (.inl 1) ∧ am_fr I0 I' [44, 45, 46, 54] ∧ I' 44 = am_up (am_up (I0 44) 0 (I0 44 9)) 6 0 ∧ ∀ j : Nat, (j : Int) < I0 44 9 → I' 45 j = (es_sp (es_cut (I0 44)) k (j + 1)).1 ∧ I' 46 j = 24)) 54 [(0, .inr (.inr 44)), (1, .inr (.inl k)), (3, .inr (.inl (l - es_w (es_cut (I0 44)) i x.1 x.2.1 q))), (5, .inl x.2.1), (6, .inl i), (7, .inl 0), (8, .inl (q + 1))] [] I := by
              intro hl
              have g8 : es_pk (es_w (es_cut (I0 44)) i x.1 x.2.1) q ((I0 44 8 + 1 - (q + 1)).toNat + 1) l = es_pk (es_w (es_cut (I0 44)) i x.1 x.2.1) (q + 1) (I0 44 8 + 1 - (q + 1)).toNat (l - es_w (es_cut (I0 44)) i x.1 x.2.1 q) := by
                show (if l < es_w (es_cut (I0 44)) i x.1 x.2.1 q then (q, l) else _) = _
                rw [if_neg hl]
              exact ihq (q + 1) _ g0 (by omega) (by omega) (by omega) (by omega) (by omega) (by omega) (g8.symm.trans g7)
            have hbr := es_bh_rng (I 44 13) (I 44 14) (I 44 15) x.2.1 (q - I 45 ((i : Int) - 1).toNat) (by omega) a2
            have hw0 : (i : Int) = 0 → I 54 ((37 * (i : Int) + (q - I 44 7)) * 18 + 0).toNat = es_w (es_cut (I0 44)) i x.1 x.2.1 q ∧ es_us (es_cut (I0 44)) i x.1 x.2.1 q = 0 := by
              intro hi0
              rw [h54, e7, hrows i (by omega) (by omega) q 0 (by omega) (by omega) (by omega) (by omega)]
              unfold es_w es_us
              rw [R7, R8, R9, if_pos ⟨by omega, by omega⟩, if_pos hi0, if_pos hi0, show I0 44 9 - 1 - (i : Int) = I0 44 9 - 1 by omega]
              exact ⟨rfl, rfl⟩
            have hw1 : (i : Int) ≠ 0 → es_bh (I 44 13) (I 44 14) (I 44 15) x.2.1 (q - I 45 ((i : Int) - 1).toNat) ≠ -1 → I 54 ((37 * (i : Int) + (q - I 44 7)) * 18 + es_bh (I 44 13) (I 44 14) (I 44 15) x.2.1 (q - I 45 ((i : Int) - 1).toNat)).toNat = es_w (es_cut (I0 44)) i x.1 x.2.1 q ∧ es_us (es_cut (I0 44)) i x.1 x.2.1 q = es_bh (I 44 13) (I 44 14) (I 44 15) x.2.1 (q - I 45 ((i : Int) - 1).toNat) := by
              intro hi0 hb1
              rw [hprev (by omega), e44] at hb1 hbr
              rw [hprev (by omega), h54, e44, hrows i (by omega) (by omega) q _ (by omega) (by omega) (by omega) (by omega)]
              unfold es_w es_us
              rw [R7, R8, R9, if_pos ⟨by omega, by omega⟩, if_neg hi0, if_neg hi0]
              unfold es_f_mo
              rw [R13, R14, R15, if_neg hb1]
              exact ⟨rfl, rfl⟩
            have hw2 : (i : Int) ≠ 0 → es_bh (I 44 13) (I 44 14) (I 44 15) x.2.1 (q - I 45 ((i : Int) - 1).toNat) = -1 → es_w (es_cut (I0 44)) i x.1 x.2.1 q = 0 := by
              intro hi0 hb1
              rw [hprev (by omega), e44] at hb1
              unfold es_w
              rw [R7, R8, R9, if_pos ⟨by omega, by omega⟩, if_neg hi0]
              unfold es_f_mo
              rw [R13, R14, R15, if_pos hb1]
            refine am_go 1 [] rfl trivial ?_
            repeat' (first
              | (refine am_gp 80 [54, 36] rfl (by first | trivial | exact Or.inl rfl | exact Or.inr rfl | (simp (decide := true) only [am_p, am_u_at, am_u_j, am_u_ne]; omega) | (simp (decide := true) only [am_p, and_true, true_and, true_or, or_true, am_u_at, am_u_j, am_u_ne]; omega) | (simp (decide := true) [am_p, am_u_at, am_u_j, am_u_ne]; omega)) ?_)
              | (show am_V _ _ _ _ _ _ _; simp only [Int.reduceToNat])
              | (refine am_bt rfl (by first | omega | (simp (decide := true) only [am_u_at, am_u_j, am_u_ne]; omega)) (by first | omega | (simp (decide := true) only [am_u_at, am_u_j, am_u_ne]; omega)) ?_)
              | (refine am_bf rfl (by first | omega | (simp (decide := true) only [am_u_at, am_u_j, am_u_ne]; omega)) (by first | omega | (simp (decide := true) only [am_u_at, am_u_j, am_u_ne]; omega)) ?_)
              | (refine am_br rfl (by first | omega | (simp (decide := true) only [am_u_at, am_u_j, am_u_ne]; omega)) (fun h => ?_) (fun h => ?_))
              | (refine am_cV (y' := Y_mo_behind) rfl lk_mo_158 ok_mo_behind rfl rfl rfl (c_behind _ _ _ _ (by first | omega | (simp (decide := true) only [am_u_at, am_u_j, am_u_ne]; omega)) (by first | omega | (simp (decide := true) only [am_u_at, am_u_j, am_u_ne]; omega)) (by first | omega | (simp (decide := true) only [am_u_at, am_u_j, am_u_ne]; omega)) (by first | omega | (simp (decide := true) only [am_u_at, am_u_j, am_u_ne]; omega))) ?_; rintro r I ⟨rfl, rfl⟩)
              | (refine am_cS (y' := Y_mo_cellAt) rfl lk_mo_147 ok_mo_cellAt rfl rfl (c_cellAt _ _ _ _ _) ?_; rintro r I ⟨rfl, rfl⟩)
              | (refine am_cV (y' := Y_mo_lay) rfl lk_mo_173 ok_mo_lay rfl rfl rfl (c_lay _ _ _ _ _ (by first | omega | (simp (decide := true) only [am_u_at, am_u_j, am_u_ne]; omega))) ?_; rintro r I ⟨rfl, rfl⟩)
              | (refine am_rt rfl (by first | trivial | exact Or.inl rfl | exact Or.inr rfl) ?_))
            · refine am_wk [9, 10] ?_
              rw [(hw1 (by omega) (by omega)).1]
              exact cont (by omega)
            · refine am_wk [9, 10] ?_
              have hd := done (by omega)
              exact fin q l (q + 1) _ g0 hd.1 hd.2.1 ((hw1 (by omega) (by omega)).2.symm.trans hd.2.2) (by omega)
            · refine am_wk [9, 10] ?_
              have h9 := cont (by rw [hw2 (by omega) (by omega)]; omega)
              rw [hw2 (by omega) (by omega)] at h9
              exact h9
            · refine am_wk [9, 10] ?_
              rw [(hw0 (by omega)).1]
              exact cont (by omega)
            · refine am_wk [9, 10] ?_
              have hd := done (by omega)
              exact fin q l (q + 1) _ g0 hd.1 hd.2.1 ((hw0 (by omega)).2.symm.trans hd.2.2) (by omega)
        refine am_go 1 [] rfl trivial ?_
        repeat' (first
          | (refine am_gp 80 [54] rfl (by first | trivial | exact Or.inl rfl | exact Or.inr rfl | (simp (decide := true) only [am_p, am_u_at, am_u_j, am_u_ne]; omega) | (simp (decide := true) only [am_p, and_true, true_and, true_or, or_true, am_u_at, am_u_j, am_u_ne]; omega) | (simp (decide := true) [am_p, am_u_at, am_u_j, am_u_ne]; omega)) ?_)
          | (show am_V _ _ _ _ _ _ _; simp only [Int.reduceToNat])
          | (refine am_bt rfl (by first | omega | (simp (decide := true) only [am_u_at, am_u_j, am_u_ne]; omega)) (by first | omega | (simp (decide := true) only [am_u_at, am_u_j, am_u_ne]; omega)) ?_)
          | (refine am_bf rfl (by first | omega | (simp (decide := true) only [am_u_at, am_u_j, am_u_ne]; omega)) (by first | omega | (simp (decide := true) only [am_u_at, am_u_j, am_u_ne]; omega)) ?_)
          | (refine am_br rfl (by first | omega | (simp (decide := true) only [am_u_at, am_u_j, am_u_ne]; omega)) (fun h => ?_) (fun h => ?_))
          | (refine am_cV (y' := Y_mo_laid) rfl lk_mo_177 ok_mo_laid rfl rfl rfl (c_laid _ _ _) ?_; rintro r I ⟨rfl, rfl⟩)
          | (refine am_rt rfl (by first | trivial | exact Or.inl rfl | exact Or.inr rfl) ?_))
        · have ei : (i : Int) = I0 44 9 := by omega
          refine Or.inr (Or.inr ⟨hkt, rfl, ((hf.wd rfl).u _ _ rfl).u _ _ rfl, ?_, ?_⟩)
          · rw [am_u_eq, am_u_eq, e44]
          · intro j hj
            rw [am_u_ne (by decide), am_u_ne (by decide), am_u_ne (by decide), am_u_ne (by decide)]
            exact hin j (by omega)
        · rw [e7]
          rw [R7, R8, R9] at a4
          have a5 := a4 (by omega)
          have a6 := es_fc_D (f := es_w (es_cut (I0 44)) i x.1 x.2.1) (fun z => es_w_D _ _ _ _ _) (I0 44 7) (I0 44 8 + 1 - I0 44 7).toNat
          exact loopq 200 (I0 44 7) x.2.2 (by omega) (by omega) (by omega) (by omega) a3 (by omega) a5 rfl
    exact loopi 17 0 I1 (by omega) (by omega) (hfr.wd rfl) rfl (fun j hj => by omega)
  repeat' (first
    | (refine am_gp 80 [36] rfl (by first | trivial | exact Or.inl rfl | exact Or.inr rfl | (simp (decide := true) only [am_p, am_u_at, am_u_j, am_u_ne]; omega) | (simp (decide := true) only [am_p, and_true, true_and, true_or, or_true, am_u_at, am_u_j, am_u_ne]; omega) | (simp (decide := true) [am_p, am_u_at, am_u_j, am_u_ne]; omega)) ?_)
    | (show am_V _ _ _ _ _ _ _; simp only [Int.reduceToNat])
    | (refine am_bt rfl (by first | omega | (simp (decide := true) only [am_u_at, am_u_j, am_u_ne]; omega)) (by first | omega | (simp (decide := true) only [am_u_at, am_u_j, am_u_ne]; omega)) ?_)
    | (refine am_bf rfl (by first | omega | (simp (decide := true) only [am_u_at, am_u_j, am_u_ne]; omega)) (by first | omega | (simp (decide := true) only [am_u_at, am_u_j, am_u_ne]; omega)) ?_)
    | (refine am_br rfl (by first | omega | (simp (decide := true) only [am_u_at, am_u_j, am_u_ne]; omega)) (fun h => ?_) (fun h => ?_))
    | (refine am_cV (y' := Y_mo_melodies) rfl lk_mo_169 ok_mo_melodies rfl rfl rfl (c_mo_melodies _ _ hr) ?_; rintro r I ⟨rfl, hfr, hrows⟩)
    | (refine am_rt rfl (by first | trivial | exact Or.inl rfl | exact Or.inr rfl) ?_))
  · exact Or.inr (Or.inl ⟨⟨by omega, by omega⟩, rfl, hfr⟩)
  · exact main _ hfr hrows ⟨by omega, by omega⟩
  · exact Or.inl ⟨by omega, rfl, rfl⟩
theorem es_w_g2 {R : Nat → Int} {i b u q : Int} (h1 : R 7 ≤ q ∧ q ≤ R 8) (h3 : es_us R i b u q ≠ -1) : es_w R i b u q = es_g_mo R (R 9 - 1 - i).toNat q (es_us R i b u q) := by
  unfold es_w
  unfold es_us at h3 ⊢
  rw [if_pos h1]
  by_cases h2 : i = 0
  · rw [if_pos h2, if_pos h2, h2, show R 9 - 1 - 0 = R 9 - 1 by omega]
  · rw [if_neg h2] at h3
    rw [if_neg h2, if_neg h2]
    unfold es_f_mo
    rw [if_neg h3]
    rfl
theorem c_mo_place (d : Nat) (I0 : am_I) (hr : es_rm (I0 44)) (hn : 0 ≤ I0 44 0 ∧ I0 44 0 ≤ 24) (hpt : ∀ j : Nat, (j : Int) < I0 44 0 → 0 ≤ I0 45 j ∧ I0 45 j ≤ 127) : am_C (d + 4) Y_mo_place [.inr (.inr 44)] I0 (fun r I' => (I0 44 0 ≠ I0 44 9 ∧ r = some (.inr (.inl (-1))) ∧ I' = I0) ∨ (I0 44 0 = I0 44 9 ∧ r = some (.inr (.inl (es_ah (es_cut (I0 44)) (I0 45) (I0 44 9).toNat 0 (I0 44 7) 0 0))) ∧ am_fr I0 I' [54])) := by
  refine am_enter ok_mo_place rfl ?_
  obtain ⟨r1, r2, r3, r4⟩ := id hr
  have hrR : es_rm (es_cut (I0 44)) := hr
  have R7 : es_cut (I0 44) 7 = I0 44 7 := rfl
  have R8 : es_cut (I0 44) 8 = I0 44 8 := rfl
  have R9 : es_cut (I0 44) 9 = I0 44 9 := rfl
  have R13 : es_cut (I0 44) 13 = I0 44 13 := rfl
  have R14 : es_cut (I0 44) 14 = I0 44 14 := rfl
  have R15 : es_cut (I0 44) 15 = I0 44 15 := rfl
  generalize hTT : es_ah (es_cut (I0 44)) (I0 45) (I0 44 9).toNat 0 (I0 44 7) 0 0 = TT
  have loopi : ∀ (m i : Nat) (b u s : Int) (I : am_I), am_fr I0 I [54] → (∀ i : Int, 0 ≤ i → i < I0 44 9 → es_row_mo (I0 44) (I 54) i) → I0 44 0 = I0 44 9 → (i : Int) + m = I0 44 9 → (I0 44 7 ≤ b ∧ b ≤ I0 44 8) → (0 < (i : Int) → b = I0 45 ((i : Int) - 1).toNat) → (0 ≤ u ∧ u ≤ 17) → (0 ≤ s ∧ s ≤ 1000000000000000000) → es_ah (es_cut (I0 44)) (I0 45) m i b u s = TT → am_V (d + 4) Y_mo_place (fun r I' => (I0 44 0 ≠ I0 44 9 ∧ r = some (.inr (.inl (-1))) ∧ I' = I0) ∨ (I0 44 0 = I0 44 9 ∧ r = some (.inr (.inl TT)) ∧ am_fr I0 I' [54])) 26 [(0, .inr (.inr 44)), (1, .inr (.inl s)), (3, .inl u), (4, .inl i)] [] I := by
    intro m
    induction m with
    | zero =>
      intro i b u s I hf hrows hn9 h1 h2 h3 h4 h5 h6
      have e9 : I 44 9 = I0 44 9 := by rw [hf 44 rfl]
      have h7 : s = TT := h6
      repeat' (first
        | (refine am_gp 80 [] rfl (by first | trivial | exact Or.inl rfl | exact Or.inr rfl | (simp (decide := true) only [am_p, am_u_at, am_u_j, am_u_ne]; omega) | (simp (decide := true) only [am_p, and_true, true_and, true_or, or_true, am_u_at, am_u_j, am_u_ne]; omega) | (simp (decide := true) [am_p, am_u_at, am_u_j, am_u_ne]; omega)) ?_)
        | (show am_V _ _ _ _ _ _ _; simp only [Int.reduceToNat])
        | (refine am_bt rfl (by first | omega | (simp (decide := true) only [am_u_at, am_u_j, am_u_ne]; omega)) (by first | omega | (simp (decide := true) only [am_u_at, am_u_j, am_u_ne]; omega)) ?_)
        | (refine am_bf rfl (by first | omega | (simp (decide := true) only [am_u_at, am_u_j, am_u_ne]; omega)) (by first | omega | (simp (decide := true) only [am_u_at, am_u_j, am_u_ne]; omega)) ?_)
        | (refine am_br rfl (by first | omega | (simp (decide := true) only [am_u_at, am_u_j, am_u_ne]; omega)) (fun h => ?_) (fun h => ?_))
        | (refine am_rt rfl (by first | trivial | exact Or.inl rfl | exact Or.inr rfl) ?_))
      exact Or.inr ⟨hn9, by rw [h7], hf⟩
    | succ m ih =>
      intro i b u s I hf hrows hn9 h1 h2 h3 h4 h5 h6
      have e44 : I 44 = I0 44 := hf 44 rfl
      have e45 : I 45 = I0 45 := hf 45 rfl
      have e7 : I 44 7 = I0 44 7 := congrFun e44 7
      have e8 : I 44 8 = I0 44 8 := congrFun e44 8
      have e9 : I 44 9 = I0 44 9 := congrFun e44 9
      have e14 : I 44 14 = I0 44 14 := congrFun e44 14
      have e15 : I 44 15 = I0 44 15 := congrFun e44 15
      have ep : (i : Int).toNat = i := by omega
      have ho : I 45 (i : Int).toNat = I0 45 i := by rw [ep, e45]
      have hown := hpt i (by omega)
      have hprev : 0 < (i : Int) → I 45 ((i : Int) - 1).toNat = b := by
        intro h
        rw [e45, h3 h]
      have hwo := es_w_D (es_cut (I0 44)) i b u (I0 45 i)
      unfold es_Dc at hwo
      have hah : (if es_w (es_cut (I0 44)) i b u (I0 45 i) = 0 then es_oc s (es_fd es_oc 0 (es_w (es_cut (I0 44)) i b u) (I0 44 7) (min (I0 45 i) (I0 44 8 + 1) - I0 44 7).toNat) else es_ah (es_cut (I0 44)) (I0 45) m (i + 1) (I0 45 i) (es_us (es_cut (I0 44)) i b u (I0 45 i)) (es_oc s (es_fd es_oc 0 (es_w (es_cut (I0 44)) i b u) (I0 44 7) (min (I0 45 i) (I0 44 8 + 1) - I0 44 7).toNat))) = TT := h6
      have loopq : ∀ (n k : Nat), k ≤ (min (I0 45 i) (I0 44 8 + 1) - I0 44 7).toNat → (min (I0 45 i) (I0 44 8 + 1) - I0 44 7).toNat - k < n → am_V (d + 4) Y_mo_place (fun r I' => (I0 44 0 ≠ I0 44 9 ∧ r = some (.inr (.inl (-1))) ∧ I' = I0) ∨ (I0 44 0 = I0 44 9 ∧ r = some (.inr (.inl TT)) ∧ am_fr I0 I' [54])) 41 [(0, .inr (.inr 44)), (1, .inr (.inl (es_oc s (es_fd es_oc 0 (es_w (es_cut (I0 44)) i b u) (I0 44 7) k)))), (3, .inl u), (4, .inl i), (5, .inl (I0 44 7 + k))] [] I := by
        intro n
        induction n with
        | zero => intro k g1 g2; omega
        | succ n ihq =>
          intro k g1 g2
          have hk := es_fc_D (f := es_w (es_cut (I0 44)) i b u) (fun z => es_w_D _ _ _ _ _) (I0 44 7) k
          have hk2 : 0 ≤ es_oc s (es_fd es_oc 0 (es_w (es_cut (I0 44)) i b u) (I0 44 7) k) ∧ es_oc s (es_fd es_oc 0 (es_w (es_cut (I0 44)) i b u) (I0 44 7) k) ≤ 1000000000000000000 := es_mc.2.1 _ _ h5 hk
          have hwk := es_w_D (es_cut (I0 44)) i b u (I0 44 7 + k)
          have hwk2 : 0 ≤ es_w (es_cut (I0 44)) i b u (I0 44 7 + k) ∧ es_w (es_cut (I0 44)) i b u (I0 44 7 + k) ≤ 1000000000000000000 := hwk
          have fin : k = (min (I0 45 i) (I0 44 8 + 1) - I0 44 7).toNat → am_V (d + 4) Y_mo_place (fun r I' => (I0 44 0 ≠ I0 44 9 ∧ r = some (.inr (.inl (-1))) ∧ I' = I0) ∨ (I0 44 0 = I0 44 9 ∧ r = some (.inr (.inl TT)) ∧ am_fr I0 I' [54])) 130 [(0, .inr (.inr 44)), (1, .inr (.inl (es_oc s (es_fd es_oc 0 (es_w (es_cut (I0 44)) i b u) (I0 44 7) k)))), (3, .inl u), (4, .inl i), (5, .inl (I0 44 7 + k))] [] I := by
            intro ek
            rw [← ek] at hah
            have hbr := es_bh_rng (I 44 13) (I 44 14) (I 44 15) u (I 45 (i : Int).toNat - I 45 ((i : Int) - 1).toNat) (by omega) h4
            have ret : es_w (es_cut (I0 44)) i b u (I0 45 i) = 0 → es_oc s (es_fd es_oc 0 (es_w (es_cut (I0 44)) i b u) (I0 44 7) k) = TT := by
              intro h0
              rw [if_pos h0] at hah
              exact hah
            have w0 : (i : Int) = 0 → es_us (es_cut (I0 44)) i b u (I0 45 i) = 0 := by
              intro hi0
              unfold es_us
              rw [if_pos hi0]
            have w1 : (i : Int) ≠ 0 → es_bh (I 44 13) (I 44 14) (I 44 15) u (I 45 (i : Int).toNat - I 45 ((i : Int) - 1).toNat) = es_us (es_cut (I0 44)) i b u (I0 45 i) := by
              intro hi0
              rw [hprev (by omega), ho, e44]
              unfold es_us
              rw [if_neg hi0]
              rfl
            have nofit : ¬ ((I0 44 7 ≤ I0 45 i ∧ I0 45 i ≤ I0 44 8) ∧ es_fit (I0 44 10) (I0 44 11) (I0 44 12) (I0 44 9) i (I0 45 i)) → es_w (es_cut (I0 44)) i b u (I0 45 i) = 0 := by
              intro hft
              refine Classical.byContradiction (fun c => ?_)
              have hg := es_w_g c
              refine hft ⟨hg.1, es_g_fit (R := es_cut (I0 44)) (i := i) (b := I0 45 i) (u := es_us (es_cut (I0 44)) i b u (I0 45 i)) ⟨by omega, by omega⟩ ?_⟩
              rw [← hg.2.1]
              exact c
            have go : ((I0 44 7 ≤ I0 45 i ∧ I0 45 i ≤ I0 44 8) ∧ es_fit (I0 44 10) (I0 44 11) (I0 44 12) (I0 44 9) i (I0 45 i)) → es_us (es_cut (I0 44)) i b u (I0 45 i) ≠ -1 → am_V (d + 4) Y_mo_place (fun r I' => (I0 44 0 ≠ I0 44 9 ∧ r = some (.inr (.inl (-1))) ∧ I' = I0) ∨ (I0 44 0 = I0 44 9 ∧ r = some (.inr (.inl TT)) ∧ am_fr I0 I' [54])) 26 [(0, .inr (.inr 44)), (1, .inr (.inl (es_oc s (es_fd es_oc 0 (es_w (es_cut (I0 44)) i b u) (I0 44 7) k)))), (3, .inl (es_us (es_cut (I0 44)) i b u (I0 45 i))), (4, .inl ((i : Int) + 1))] [] I := by
              intro hft hus
              have h9 := ih (i + 1) (I0 45 i) (es_us (es_cut (I0 44)) i b u (I0 45 i)) (es_oc s (es_fd es_oc 0 (es_w (es_cut (I0 44)) i b u) (I0 44 7) k)) I hf hrows hn9 (by omega) hft.1 (fun _ => by rw [show (((i + 1 : Nat) : Int) - 1).toNat = i by omega]) (es_us_rng hrR h4 hus) hk2 ?_
              · rw [show ((i + 1 : Nat) : Int) = (i : Int) + 1 by omega] at h9
                exact h9
              · by_cases c : es_w (es_cut (I0 44)) i b u (I0 45 i) = 0
                · rw [if_pos c] at hah
                  rw [es_w_g2 (R := es_cut (I0 44)) hft.1 hus] at c
                  rw [es_ah_0 (R := es_cut (I0 44)) hrR hk2 (by rw [R9]; omega) hft.2 c]
                  exact hah
                · rw [if_neg c] at hah
                  exact hah
            repeat' (first
              | (refine am_gp 80 [26] rfl (by first | trivial | exact Or.inl rfl | exact Or.inr rfl | (simp (decide := true) only [am_p, am_u_at, am_u_j, am_u_ne]; omega) | (simp (decide := true) only [am_p, and_true, true_and, true_or, or_true, am_u_at, am_u_j, am_u_ne]; omega) | (simp (decide := true) [am_p, am_u_at, am_u_j, am_u_ne]; omega)) ?_)
              | (show am_V _ _ _ _ _ _ _; simp only [Int.reduceToNat])
              | (refine am_bt rfl (by first | omega | (simp (decide := true) only [am_u_at, am_u_j, am_u_ne]; omega)) (by first | omega | (simp (decide := true) only [am_u_at, am_u_j, am_u_ne]; omega)) ?_)
              | (refine am_bf rfl (by first | omega | (simp (decide := true) only [am_u_at, am_u_j, am_u_ne]; omega)) (by first | omega | (simp (decide := true) only [am_u_at, am_u_j, am_u_ne]; omega)) ?_)
              | (refine am_br rfl (by first | omega | (simp (decide := true) only [am_u_at, am_u_j, am_u_ne]; omega)) (fun h => ?_) (fun h => ?_))
              | (refine am_cV (y' := Y_mo_behind) rfl lk_mo_158 ok_mo_behind rfl rfl rfl (c_behind _ _ _ _ (by first | omega | (simp (decide := true) only [am_u_at, am_u_j, am_u_ne]; omega)) (by first | omega | (simp (decide := true) only [am_u_at, am_u_j, am_u_ne]; omega)) (by first | omega | (simp (decide := true) only [am_u_at, am_u_j, am_u_ne]; omega)) (by first | omega | (simp (decide := true) only [am_u_at, am_u_j, am_u_ne]; omega))) ?_; rintro r I ⟨rfl, rfl⟩)
              | (refine am_cV (y' := Y_mo_fits) rfl lk_mo_151 ok_mo_fits rfl rfl rfl (c_fits _ _ _ _ (by first | omega | (simp (decide := true) only [am_u_at, am_u_j, am_u_ne]; omega)) (by first | omega | (simp (decide := true) only [am_u_at, am_u_j, am_u_ne]; omega)) (by first | omega | (simp (decide := true) only [am_u_at, am_u_j, am_u_ne]; omega)) (by first | omega | (simp (decide := true) only [am_u_at, am_u_j, am_u_ne]; omega)) (by first | omega | (simp (decide := true) only [am_u_at, am_u_j, am_u_ne]; omega))) ?_; rintro r I ⟨rfl, (⟨rfl, hft⟩ | ⟨rfl, hft⟩)⟩ <;> (try (exfalso; omega)))
              | (refine am_rt rfl (by first | trivial | exact Or.inl rfl | exact Or.inr rfl) ?_))
            · have hw := ret (Classical.byContradiction (fun c => (es_w_g c).2.2 (by rw [← w1 (by omega)]; omega)))
              exact Or.inr ⟨hn9, by rw [hw], hf⟩
            · refine am_wk [5] ?_
              rw [e44, ho] at hft
              have h9 := go hft (by rw [← w1 (by omega)]; omega)
              rw [← w1 (by omega)] at h9
              exact h9
            · rw [e44, ho] at hft
              exact Or.inr ⟨hn9, by rw [ret (nofit hft)], hf⟩
            · refine am_wk [5] ?_
              rw [e44, ho] at hft
              have h9 := go hft (by rw [w0 (by omega)]; omega)
              rw [w0 (by omega)] at h9
              exact h9
            · rw [e44, ho] at hft
              exact Or.inr ⟨hn9, by rw [ret (nofit hft)], hf⟩
          have hbr := es_bh_rng (I 44 13) (I 44 14) (I 44 15) u (I0 44 7 + k - I 45 ((i : Int) - 1).toNat) (by omega) h4
          have hw0 : (i : Int) = 0 → I0 44 7 + k ≤ I0 44 8 → I 54 ((37 * (i : Int) + (I0 44 7 + k - I 44 7)) * 18 + 0).toNat = es_w (es_cut (I0 44)) i b u (I0 44 7 + k) := by
            intro hi0 hq8
            rw [e7, hrows i (by omega) (by omega) (I0 44 7 + k) 0 (by omega) (by omega) (by omega) (by omega)]
            unfold es_w
            rw [R7, R8, R9, if_pos ⟨by omega, by omega⟩, if_pos hi0, show I0 44 9 - 1 - (i : Int) = I0 44 9 - 1 by omega]
            rfl
          have hw1 : (i : Int) ≠ 0 → I0 44 7 + k ≤ I0 44 8 → es_bh (I 44 13) (I 44 14) (I 44 15) u (I0 44 7 + k - I 45 ((i : Int) - 1).toNat) ≠ -1 → I 54 ((37 * (i : Int) + (I0 44 7 + k - I 44 7)) * 18 + es_bh (I 44 13) (I 44 14) (I 44 15) u (I0 44 7 + k - I 45 ((i : Int) - 1).toNat)).toNat = es_w (es_cut (I0 44)) i b u (I0 44 7 + k) := by
            intro hi0 hq8 hb1
            rw [hprev (by omega), e44] at hb1 hbr
            rw [hprev (by omega), e44, hrows i (by omega) (by omega) (I0 44 7 + k) _ (by omega) (by omega) (by omega) (by omega)]
            unfold es_w
            rw [R7, R8, R9, if_pos ⟨by omega, by omega⟩, if_neg hi0]
            unfold es_f_mo
            rw [R13, R14, R15, if_neg hb1]
            rfl
          have hw2 : (i : Int) ≠ 0 → I0 44 7 + k ≤ I0 44 8 → es_bh (I 44 13) (I 44 14) (I 44 15) u (I0 44 7 + k - I 45 ((i : Int) - 1).toNat) = -1 → es_w (es_cut (I0 44)) i b u (I0 44 7 + k) = 0 := by
            intro hi0 hq8 hb1
            rw [hprev (by omega), e44] at hb1
            unfold es_w
            rw [R7, R8, R9, if_pos ⟨by omega, by omega⟩, if_neg hi0]
            unfold es_f_mo
            rw [R13, R14, R15, if_pos hb1]
          have e9' : es_oc s (es_fd es_oc 0 (es_w (es_cut (I0 44)) i b u) (I0 44 7) (k + 1)) = es_oc (es_oc s (es_fd es_oc 0 (es_w (es_cut (I0 44)) i b u) (I0 44 7) k)) (es_w (es_cut (I0 44)) i b u (I0 44 7 + k)) := (es_mc.2.2.1 _ _ _ h5 hk hwk).symm
          refine am_go 1 [] rfl trivial ?_
          repeat' (first
            | (refine am_gp 80 [41, 130] rfl (by first | trivial | exact Or.inl rfl | exact Or.inr rfl | (simp (decide := true) only [am_p, am_u_at, am_u_j, am_u_ne]; omega) | (simp (decide := true) only [am_p, and_true, true_and, true_or, or_true, am_u_at, am_u_j, am_u_ne]; omega) | (simp (decide := true) [am_p, am_u_at, am_u_j, am_u_ne]; omega)) ?_)
            | (show am_V _ _ _ _ _ _ _; simp only [Int.reduceToNat])
            | (refine am_bt rfl (by first | omega | (simp (decide := true) only [am_u_at, am_u_j, am_u_ne]; omega)) (by first | omega | (simp (decide := true) only [am_u_at, am_u_j, am_u_ne]; omega)) ?_)
            | (refine am_bf rfl (by first | omega | (simp (decide := true) only [am_u_at, am_u_j, am_u_ne]; omega)) (by first | omega | (simp (decide := true) only [am_u_at, am_u_j, am_u_ne]; omega)) ?_)
            | (refine am_br rfl (by first | omega | (simp (decide := true) only [am_u_at, am_u_j, am_u_ne]; omega)) (fun h => ?_) (fun h => ?_))
            | (refine am_cV (y' := Y_mo_behind) rfl lk_mo_158 ok_mo_behind rfl rfl rfl (c_behind _ _ _ _ (by first | omega | (simp (decide := true) only [am_u_at, am_u_j, am_u_ne]; omega)) (by first | omega | (simp (decide := true) only [am_u_at, am_u_j, am_u_ne]; omega)) (by first | omega | (simp (decide := true) only [am_u_at, am_u_j, am_u_ne]; omega)) (by first | omega | (simp (decide := true) only [am_u_at, am_u_j, am_u_ne]; omega))) ?_; rintro r I ⟨rfl, rfl⟩)
            | (refine am_cS (y' := Y_mo_cellAt) rfl lk_mo_147 ok_mo_cellAt rfl rfl (c_cellAt _ _ _ _ _) ?_; rintro r I ⟨rfl, rfl⟩)
            | (refine am_cS (y' := Y_mo_plus) rfl lk_mo_162 ok_mo_plus rfl rfl (c_mo_plus _ _ _ _ (by first | omega | (simp (decide := true) only [am_u_at, am_u_j, am_u_ne]; omega)) (by first | omega | (simp (decide := true) only [am_u_at, am_u_j, am_u_ne]; omega))) ?_; rintro r I ⟨rfl, rfl⟩)
            | (refine am_rt rfl (by first | trivial | exact Or.inl rfl | exact Or.inr rfl) ?_))
          · exact fin (by omega)
          · exact fin (by omega)
          · refine am_wk [6] ?_
            have h9 := ihq (k + 1) (by omega) (by omega)
            rw [show I0 44 7 + ((k + 1 : Nat) : Int) = I0 44 7 + (k : Int) + 1 by omega, e9', ← hw1 (by omega) (by omega) (by omega)] at h9
            exact h9
          · refine am_wk [6] ?_
            have h9 := ihq (k + 1) (by omega) (by omega)
            rw [show I0 44 7 + ((k + 1 : Nat) : Int) = I0 44 7 + (k : Int) + 1 by omega, e9', hw2 (by omega) (by omega) (by omega), es_mn_r es_mc hk2] at h9
            exact h9
          · refine am_wk [6] ?_
            have h9 := ihq (k + 1) (by omega) (by omega)
            rw [show I0 44 7 + ((k + 1 : Nat) : Int) = I0 44 7 + (k : Int) + 1 by omega, e9', ← hw0 (by omega) (by omega)] at h9
            exact h9
      refine am_go 1 [] rfl trivial ?_
      repeat' (first
        | (refine am_gp 80 [41] rfl (by first | trivial | exact Or.inl rfl | exact Or.inr rfl | (simp (decide := true) only [am_p, am_u_at, am_u_j, am_u_ne]; omega) | (simp (decide := true) only [am_p, and_true, true_and, true_or, or_true, am_u_at, am_u_j, am_u_ne]; omega) | (simp (decide := true) [am_p, am_u_at, am_u_j, am_u_ne]; omega)) ?_)
        | (show am_V _ _ _ _ _ _ _; simp only [Int.reduceToNat])
        | (refine am_bt rfl (by first | omega | (simp (decide := true) only [am_u_at, am_u_j, am_u_ne]; omega)) (by first | omega | (simp (decide := true) only [am_u_at, am_u_j, am_u_ne]; omega)) ?_)
        | (refine am_bf rfl (by first | omega | (simp (decide := true) only [am_u_at, am_u_j, am_u_ne]; omega)) (by first | omega | (simp (decide := true) only [am_u_at, am_u_j, am_u_ne]; omega)) ?_)
        | (refine am_br rfl (by first | omega | (simp (decide := true) only [am_u_at, am_u_j, am_u_ne]; omega)) (fun h => ?_) (fun h => ?_))
        | (refine am_rt rfl (by first | trivial | exact Or.inl rfl | exact Or.inr rfl) ?_))
      rw [e7]
      have h9 := loopq 200 0 (by omega) (by omega)
      rw [show I0 44 7 + ((0 : Nat) : Int) = I0 44 7 by omega, show es_oc s (es_fd es_oc 0 (es_w (es_cut (I0 44)) i b u) (I0 44 7) 0) = s from es_mn_r es_mc h5] at h9
      exact h9
  repeat' (first
    | (refine am_gp 80 [26] rfl (by first | trivial | exact Or.inl rfl | exact Or.inr rfl | (simp (decide := true) only [am_p, am_u_at, am_u_j, am_u_ne]; omega) | (simp (decide := true) only [am_p, and_true, true_and, true_or, or_true, am_u_at, am_u_j, am_u_ne]; omega) | (simp (decide := true) [am_p, am_u_at, am_u_j, am_u_ne]; omega)) ?_)
    | (show am_V _ _ _ _ _ _ _; simp only [Int.reduceToNat])
    | (refine am_bt rfl (by first | omega | (simp (decide := true) only [am_u_at, am_u_j, am_u_ne]; omega)) (by first | omega | (simp (decide := true) only [am_u_at, am_u_j, am_u_ne]; omega)) ?_)
    | (refine am_bf rfl (by first | omega | (simp (decide := true) only [am_u_at, am_u_j, am_u_ne]; omega)) (by first | omega | (simp (decide := true) only [am_u_at, am_u_j, am_u_ne]; omega)) ?_)
    | (refine am_br rfl (by first | omega | (simp (decide := true) only [am_u_at, am_u_j, am_u_ne]; omega)) (fun h => ?_) (fun h => ?_))
    | (refine am_cV (y' := Y_mo_countWays) rfl lk_mo_166 ok_mo_countWays rfl rfl rfl (c_countWays _ _ (by assumption)) ?_; rintro r I ⟨rfl, hfr, hrows⟩)
    | (refine am_rt rfl (by first | trivial | exact Or.inl rfl | exact Or.inr rfl) ?_))
  · exact loopi (I0 44 9).toNat 0 (I0 44 7) 0 0 _ hfr hrows (by omega) (by omega) (by omega) (fun h => by omega) (by omega) (by omega) hTT
  · exact Or.inl ⟨by omega, rfl, rfl⟩
end
section
def es_hw (w : Nat → Int) : Prop := ∀ j : Nat, j < 13 → 0 ≤ w j ∧ w j ≤ 1000000
noncomputable def es_gw (R : Nat → Int) (sf : Int → Int → Int) : Nat → Int → Int → Int := es_G es_om (-1) 0 sf (R 7) (R 8) (R 9) (R 10) (R 11) (R 12) (R 13) (R 14) (R 15)
noncomputable def es_x (R : Nat → Int) (sf : Int → Int → Int) (i b u q : Int) : Int := if R 7 ≤ q ∧ q ≤ R 8 then (if i = 0 then es_gw R sf (R 9 - 1).toNat q 0 else (if es_bh (R 13) (R 14) (R 15) u (q - b) = -1 then -1 else sf (q - b) (es_gw R sf (R 9 - 1 - i).toNat q (es_bh (R 13) (R 14) (R 15) u (q - b))))) else -1
theorem es_gw_D {w : Nat → Int} (hw : es_hw w) (R : Nat → Int) (m : Nat) (q u : Int) : -1 ≤ es_gw R (es_ws w) m q u ∧ es_gw R (es_ws w) m q u ≤ 1000000 * (m : Int) := ⟨es_Gw_D hw m q u, es_Gw_le hw m q u⟩
theorem es_x_D {w : Nat → Int} (hw : es_hw w) {R : Nat → Int} (hr : es_rm R) {i : Int} (hi : 0 ≤ i) (b u q : Int) : -1 ≤ es_x R (es_ws w) i b u q ∧ es_x R (es_ws w) i b u q ≤ 20000000 := by
  unfold es_x
  obtain ⟨r1, r2, r3, r4⟩ := id hr
  split
  · split
    · have := es_gw_D hw R (R 9 - 1).toNat q 0
      omega
    · split
      · omega
      · have h1 := es_gw_D hw R (R 9 - 1 - i).toNat q (es_bh (R 13) (R 14) (R 15) u (q - b))
        have h2 := es_ws_D hw (q - b) _ h1.1
        have h3 := es_wsle hw (s := q - b) (b := 16000000) (by omega) (show es_gw R (es_ws w) (R 9 - 1 - i).toNat q (es_bh (R 13) (R 14) (R 15) u (q - b)) ≤ 16000000 by omega)
        unfold es_Dm at h2
        omega
  · omega
theorem es_ws_neg {w : Nat → Int} {s v : Int} (h : 0 ≤ es_ws w s v) : 0 ≤ v := by
  unfold es_ws at h
  split at h
  · omega
  · omega
theorem es_x_g {w : Nat → Int} {R : Nat → Int} {i b u q : Int} (h : 0 ≤ es_x R (es_ws w) i b u q) : (R 7 ≤ q ∧ q ≤ R 8) ∧ 0 ≤ es_gw R (es_ws w) (R 9 - 1 - i).toNat q (es_us R i b u q) ∧ es_us R i b u q ≠ -1 := by
  unfold es_x at h
  unfold es_us
  split at h
  · rename_i h1
    refine ⟨h1, ?_⟩
    split at h
    · rename_i h2
      rw [if_pos h2, h2, show R 9 - 1 - 0 = R 9 - 1 by omega]
      exact ⟨h, by omega⟩
    · rename_i h2
      rw [if_neg h2]
      split at h
      · omega
      · rename_i h3
        exact ⟨es_ws_neg h, h3⟩
  · omega
theorem es_x_sum {R : Nat → Int} (hr : es_rm R) {sf : Int → Int → Int} {i b u : Int} (hi : 0 ≤ i ∧ i + 1 < R 9) (hf : es_fit (R 10) (R 11) (R 12) (R 9) i b) : es_gw R sf (R 9 - 1 - i).toNat b u = es_fd es_om (-1) (es_x R sf (i + 1) b u) (R 7) (R 8 + 1 - R 7).toNat := by
  have em : (R 9 - 1 - i).toNat = (R 9 - 1 - (i + 1)).toNat + 1 := by omega
  have ep : R 9 - 1 - (((R 9 - 1 - (i + 1)).toNat + 1 : Nat) : Int) = i := by omega
  rw [em]
  unfold es_gw
  rw [es_G_on _ _ _ (by rw [ep]; exact hf)]
  refine es_fd_cg _ (fun x h1 h2 => ?_)
  obtain ⟨r1, r2, r3, r4⟩ := hr
  have e : es_x R sf (i + 1) b u x = (if es_bh (R 13) (R 14) (R 15) u (x - b) = -1 then -1 else sf (x - b) (es_gw R sf (R 9 - 1 - (i + 1)).toNat x (es_bh (R 13) (R 14) (R 15) u (x - b)))) := by
    unfold es_x
    rw [if_pos (by omega), if_neg (by omega)]
  rw [e]
  rfl
theorem es_gw_fit {R : Nat → Int} {sf : Int → Int → Int} {i b u : Int} (hi : 0 ≤ i ∧ i < R 9) (h : 0 ≤ es_gw R sf (R 9 - 1 - i).toNat b u) : es_fit (R 10) (R 11) (R 12) (R 9) i b := by
  refine Classical.byContradiction (fun c => ?_)
  have h1 : es_gw R sf (R 9 - 1 - i).toNat b u = -1 := by
    unfold es_gw
    exact es_G_no _ _ _ (by rw [show R 9 - 1 - ((R 9 - 1 - i).toNat : Int) = i by omega]; exact c)
  omega
theorem es_fm_at {f : Int → Int} {a : Int} : ∀ m : Nat, -1 < es_fd es_om (-1) f a m → ∃ x, a ≤ x ∧ x < a + (m : Int) ∧ f x = es_fd es_om (-1) f a m
  | 0, h => by
    have h1 : (-1 : Int) < -1 := h
    omega
  | m + 1, h => by
    have e : es_fd es_om (-1) f a (m + 1) = max (es_fd es_om (-1) f a m) (f (a + m)) := rfl
    rw [e] at h ⊢
    by_cases c : es_fd es_om (-1) f a m ≤ f (a + m)
    · exact ⟨a + m, by omega, by omega, by omega⟩
    · obtain ⟨x, h1, h2, h3⟩ := es_fm_at (f := f) (a := a) m (by omega)
      exact ⟨x, h1, by omega, by omega⟩
theorem es_fm_ub {f : Int → Int} {a : Int} : ∀ m : Nat, ∀ x, a ≤ x → x < a + (m : Int) → f x ≤ es_fd es_om (-1) f a m
  | 0, x, h1, h2 => by omega
  | m + 1, x, h1, h2 => by
    have e : es_fd es_om (-1) f a (m + 1) = max (es_fd es_om (-1) f a m) (f (a + m)) := rfl
    rw [e]
    by_cases c : x = a + m
    · rw [c]; omega
    · have := es_fm_ub (f := f) (a := a) m x h1 (by omega)
      omega
def es_fst (f : Int → Int) (v : Int) : Int → Nat → Int
  | a, 0 => a
  | a, m + 1 => if f a = v then a else es_fst f v (a + 1) m
theorem es_fst_eq {f : Int → Int} {v : Int} : ∀ (m : Nat) (a x : Int), a ≤ x → x < a + (m : Int) → f x = v → (∀ y, a ≤ y → y < x → f y ≠ v) → es_fst f v a m = x
  | 0, a, x, h1, h2, h3, h4 => by omega
  | m + 1, a, x, h1, h2, h3, h4 => by
    show (if f a = v then a else es_fst f v (a + 1) m) = x
    by_cases c : a = x
    · rw [c, if_pos h3]
    · rw [if_neg (h4 a (by omega) (by omega))]
      exact es_fst_eq m (a + 1) x (by omega) (by omega) h3 (fun y h5 h6 => h4 y (by omega) h6)
theorem es_fst_ok {f : Int → Int} {v : Int} : ∀ (m : Nat) (a : Int), (∃ x, a ≤ x ∧ x < a + (m : Int) ∧ f x = v) → a ≤ es_fst f v a m ∧ es_fst f v a m < a + (m : Int) ∧ f (es_fst f v a m) = v
  | 0, a, h => by
    obtain ⟨x, h1, h2, h3⟩ := h
    omega
  | m + 1, a, h => by
    show a ≤ (if f a = v then a else es_fst f v (a + 1) m) ∧ (if f a = v then a else es_fst f v (a + 1) m) < a + ((m + 1 : Nat) : Int) ∧ f (if f a = v then a else es_fst f v (a + 1) m) = v
    by_cases c : f a = v
    · rw [if_pos c]
      exact ⟨by omega, by omega, c⟩
    · rw [if_neg c]
      obtain ⟨x, h1, h2, h3⟩ := h
      have hx : x ≠ a := fun e => c (e ▸ h3)
      have h4 := es_fst_ok m (a + 1) ⟨x, by omega, by omega, h3⟩
      exact ⟨by omega, by omega, h4.2.2⟩
noncomputable def es_dt (R : Nat → Int) (sf : Int → Int → Int) : Int := es_fd es_om (-1) (fun q => es_gw R sf (R 9 - 1).toNat q 0) (R 7) (R 8 + 1 - R 7).toNat
noncomputable def es_dl (R : Nat → Int) (sf : Int → Int → Int) (i : Nat) (x : Int × Int) : Int := if i = 0 then es_dt R sf else es_gw R sf (R 9 - (i : Int)).toNat x.1 x.2
noncomputable def es_ds (R : Nat → Int) (sf : Int → Int → Int) (i : Nat) (x : Int × Int) : Int × Int := (es_fst (es_x R sf i x.1 x.2) (es_dl R sf i x) (R 7) (R 8 + 1 - R 7).toNat, es_us R i x.1 x.2 (es_fst (es_x R sf i x.1 x.2) (es_dl R sf i x) (R 7) (R 8 + 1 - R 7).toNat))
noncomputable def es_dp (R : Nat → Int) (sf : Int → Int → Int) : Nat → Int × Int
  | 0 => (R 7, 0)
  | i + 1 => es_ds R sf i (es_dp R sf i)
def es_da (R : Nat → Int) (sf : Int → Int → Int) (i : Nat) (x : Int × Int) : Prop := (R 7 ≤ x.1 ∧ x.1 ≤ R 8) ∧ (0 ≤ x.2 ∧ x.2 ≤ 17) ∧ 0 ≤ es_dl R sf i x ∧ ((i : Int) < R 9 → ∃ q, R 7 ≤ q ∧ q < R 7 + ((R 8 + 1 - R 7).toNat : Int) ∧ es_x R sf i x.1 x.2 q = es_dl R sf i x)
theorem es_ds_da {w : Nat → Int} {R : Nat → Int} (hr : es_rm R) {i : Nat} (hi : (i : Int) < R 9) {x : Int × Int} (h : es_da R (es_ws w) i x) : es_da R (es_ws w) (i + 1) (es_ds R (es_ws w) i x) ∧ es_x R (es_ws w) i x.1 x.2 (es_ds R (es_ws w) i x).1 = es_dl R (es_ws w) i x := by
  obtain ⟨a1, a2, a3, a4⟩ := h
  have hk := es_fst_ok _ _ (a4 hi)
  unfold es_ds
  generalize es_fst (es_x R (es_ws w) i x.1 x.2) (es_dl R (es_ws w) i x) (R 7) (R 8 + 1 - R 7).toNat = z at hk ⊢
  obtain ⟨k1, k2, k3⟩ := hk
  have hg := es_x_g (w := w) (R := R) (i := i) (b := x.1) (u := x.2) (q := z) (by omega)
  have hu := es_us_rng hr (i := i) (b := x.1) (q := z) a2 hg.2.2
  have hl : es_dl R (es_ws w) (i + 1) (z, es_us R i x.1 x.2 z) = es_gw R (es_ws w) (R 9 - 1 - (i : Int)).toNat z (es_us R i x.1 x.2 z) := by
    unfold es_dl
    rw [if_neg (by omega), show R 9 - ((i + 1 : Nat) : Int) = R 9 - 1 - (i : Int) by omega]
  refine ⟨⟨hg.1, hu, by rw [hl]; exact hg.2.1, fun hn => ?_⟩, k3⟩
  rw [hl]
  have hft := es_gw_fit (R := R) (i := i) (b := z) (u := es_us R i x.1 x.2 z) ⟨by omega, hi⟩ hg.2.1
  have hs := es_x_sum hr (sf := es_ws w) (i := i) (b := z) (u := es_us R i x.1 x.2 z) ⟨by omega, by omega⟩ hft
  have h5 := hg.2.1
  rw [hs] at h5 ⊢
  rw [show ((i + 1 : Nat) : Int) = (i : Int) + 1 by omega]
  exact es_fm_at (f := es_x R (es_ws w) ((i : Int) + 1) z (es_us R i x.1 x.2 z)) _ (by omega)
theorem es_dp_da {w : Nat → Int} {R : Nat → Int} (hr : es_rm R) (ht : 0 ≤ es_dt R (es_ws w)) : ∀ i : Nat, (i : Int) ≤ R 9 → es_da R (es_ws w) i (es_dp R (es_ws w) i)
  | 0, _ => by
    obtain ⟨r1, r2, r3, r4⟩ := id hr
    have e1 : es_dt R (es_ws w) = es_fd es_om (-1) (es_x R (es_ws w) ((0 : Nat) : Int) (R 7) 0) (R 7) (R 8 + 1 - R 7).toNat := by
      unfold es_dt
      refine es_fd_cg _ (fun x h1 h2 => ?_)
      unfold es_x
      rw [if_pos (by omega), if_pos (by omega)]
    refine ⟨by show R 7 ≤ R 7 ∧ R 7 ≤ R 8; omega, by show (0 : Int) ≤ 0 ∧ (0 : Int) ≤ 17; omega, ht, fun _ => ?_⟩
    show ∃ q, R 7 ≤ q ∧ q < R 7 + ((R 8 + 1 - R 7).toNat : Int) ∧ es_x R (es_ws w) ((0 : Nat) : Int) (R 7) 0 q = es_dt R (es_ws w)
    rw [e1] at ht ⊢
    exact es_fm_at _ (by omega)
  | i + 1, h => (es_ds_da hr (by omega) (es_dp_da hr ht i (by omega))).1
theorem es_ws_cg {w w' : Nat → Int} (h : ∀ j : Nat, j < 13 → w j = w' j) : es_ws w = es_ws w' := by
  funext s v
  unfold es_ws
  by_cases c : v < 0 ∨ 13 ≤ max s (-s)
  · rw [if_pos c, if_pos c]
  · rw [if_neg c, if_neg c, h _ (by omega)]
theorem es_wt_rng {a m : Int} (ha : 0 ≤ a ∧ a ≤ 20000) (hm : 0 ≤ m ∧ m ≤ 20000) : 0 ≤ es_wt a m ∧ es_wt a m ≤ 1000000 := by
  unfold es_wt
  split
  · omega
  · have h1 := Int.ediv_le_self (a := 10 * m) a (by omega)
    have h2 := Int.ediv_nonneg (a := 10 * m) (b := a) (by omega) (by omega)
    omega
theorem es_mf_fd {f : Int → Int} {a : Int} : ∀ m : Nat, es_mf f a m = es_fd es_om (-1) f a m
  | 0 => rfl
  | m + 1 => by
    show max (es_mf f a m) (f (a + m)) = max (es_fd es_om (-1) f a m) (f (a + m))
    rw [es_mf_fd m]
end
section
theorem c_wt_on (d : Nat) (p b t q : Int) (I J : am_I) (h7 : I 7 = J 7) (h8 : I 8 = J 8) (h13 : I 13 = J 13) (hr : es_rb J) (hp : 0 ≤ p ∧ p < J 7 3) (hb : J 7 1 ≤ b ∧ b ≤ J 7 2) (ht : es_v0 J p t) (hq : 0 ≤ q ∧ q ≤ 127) (hv : ∀ j : Nat, -1 ≤ I 12 j ∧ I 12 j ≤ 1000000000) (hw : es_hw (J 13)) (hrows : ∀ p' : Int, 0 ≤ p' → p' < J 7 3 → es_row_wt J I p') : am_C (d + 3) Y_mt_onward [.inr (.inr 11), .inl p, .inl b, .inl t, .inl q] I (fun r I' => I' = I ∧ r = some (.inr (.inl (es_x (es_Rc J) (es_ws (J 13)) p b (es_T t) q)))) := by
  have hr' : es_rb I := by unfold es_rb; rw [h7]; exact hr
  obtain ⟨r1, r2, r3, r4⟩ := id hr
  have ht' : 0 ≤ t ∧ t ≤ 17 := by unfold es_v0 es_vs at ht; omega
  refine am_C_mono (c_wt_onward d p b t q I hr' (by omega) (by rw [h7]; omega) ht' hq hv (by rw [h13]; exact hw)) ?_
  have R7 : es_Rc J 7 = J 7 1 := rfl
  have R8 : es_Rc J 8 = J 7 2 := rfl
  have R9 : es_Rc J 9 = J 7 3 := rfl
  have R13 : es_Rc J 13 = J 8 3 := rfl
  have R14 : es_Rc J 14 = J 7 4 := rfl
  have R15 : es_Rc J 15 = J 7 5 := rfl
  rintro r I' ⟨e0, (⟨h, rfl⟩ | ⟨h, rfl⟩ | ⟨h, rfl⟩)⟩
  · refine ⟨e0, ?_⟩
    rw [h7] at h ⊢
    unfold es_x
    rw [R7, R8, R9, if_pos h.2, if_pos h.1]
    have h5 : t = 0 := by unfold es_v0 at ht; omega
    have h4 := hrows 0 (by omega) (by omega) q 0 h.2.1 h.2.2 (by unfold es_vs; omega)
    rw [show (0 * 37 + q - J 7 1) * 18 + 0 = (q - J 7 1) * 18 by omega, show J 7 3 - 1 - 0 = J 7 3 - 1 by omega] at h4
    rw [h4]
    rfl
  · refine ⟨e0, ?_⟩
    rw [h7, h8] at h
    rw [h7, h13]
    have hvs : es_vs J (p - 1) t := by
      rcases ht with ht | ht
      · omega
      · exact ht.2
    have hk := (es_key (lp := J 7 4) (t := t) (q - b) r3 r4 ht' (by unfold es_vs at hvs; omega)).1 h.2.2.2
    unfold es_x
    rw [R7, R8, R9, if_pos ⟨h.2.1, h.2.2.1⟩, if_neg (by omega), R13, R14, R15, hk.1, if_neg hk.2]
    have hvn : es_vs J p (es_nx (J 7 4) t (q - b)) := by
      have h3 := es_nx_c (J 7 4) t (q - b)
      have h4 := h.2.2.2
      unfold es_may at h4
      unfold es_vs at hvs ⊢
      omega
    rw [hrows p (by omega) (by omega) q _ h.2.1 h.2.2.1 hvn]
    rfl
  · refine ⟨e0, ?_⟩
    rw [h7, h8] at h
    unfold es_x
    rw [R7, R8, R9]
    by_cases c : J 7 1 ≤ q ∧ q ≤ J 7 2
    · rw [if_pos c, if_neg (by omega)]
      have hvs : es_vs J (p - 1) t := by
        rcases ht with ht | ht
        · omega
        · exact ht.2
      have hk := (es_key (stp := J 8 3) (lp := J 7 4) (t := t) (q - b) r3 r4 ht' (by unfold es_vs at hvs; omega)).2 (fun z => h (Or.inr ⟨by unfold es_v0 at ht; omega, c.1, c.2, z⟩))
      rw [R13, R14, R15, if_pos hk]
    · rw [if_neg c]
theorem c_wt_tot (d : Nat) (I J : am_I) (h7 : I 7 = J 7) (h8 : I 8 = J 8) (hr : es_rb J) (hv : ∀ j : Nat, -1 ≤ I 12 j ∧ I 12 j ≤ 1000000000) (hrows : ∀ p' : Int, 0 ≤ p' → p' < J 7 3 → es_row_wt J I p') : am_C (d + 3) Y_mt_total [.inr (.inr 11)] I (fun r I' => I' = I ∧ r = some (.inr (.inl (es_dt (es_Rc J) (es_ws (J 13)))))) := by
  have hr' : es_rb I := by unfold es_rb; rw [h7]; exact hr
  obtain ⟨r1, r2, r3, r4⟩ := id hr
  refine am_C_mono (c_wt_total d I hr' (fun j => ⟨(hv j).1, by have := (hv j).2; omega⟩)) ?_
  rintro r I' ⟨e0, rfl⟩
  refine ⟨e0, ?_⟩
  rw [h7, es_mf_fd]
  congr 3
  refine es_fd_cg _ (fun x h1 h2 => ?_)
  show I 12 ((0 * 37 + x - J 7 1) * 18 + 0).toNat = es_gw (es_Rc J) (es_ws (J 13)) (J 7 3 - 1).toNat x 0
  have h4 := hrows 0 (by omega) (by omega) x 0 h1 (by omega) (by unfold es_vs; omega)
  rw [show J 7 3 - 1 - 0 = J 7 3 - 1 by omega] at h4
  rw [h4]
  rfl
theorem c_wt_stateAt2 (d : Nat) (p b t q : Int) (I J : am_I) (h7 : I 7 = J 7) (hr : es_rb J) (hp : 0 ≤ p ∧ p < 16) (hb : 0 ≤ b ∧ b ≤ 127) (ht : 0 ≤ t ∧ t ≤ 17) (hq : 0 ≤ q ∧ q ≤ 127) : am_C (d + 2) Y_mt_stateAt [.inr (.inr 11), .inl p, .inl b, .inl t, .inl q] I (fun r I' => I' = I ∧ r = some (.inl (if p = 0 then 0 else es_nx (J 7 4) t (q - b)))) := by
  have hr' : es_rb I := by unfold es_rb; rw [h7]; exact hr
  refine am_C_mono (c_wt_stateAt d p b t q I hr' hp hb ht hq) ?_
  rintro r I' ⟨e0, (⟨h, rfl⟩ | ⟨h, rfl⟩)⟩
  · exact ⟨e0, by rw [if_pos h]⟩
  · exact ⟨e0, by rw [if_neg (by omega), h7]⟩
theorem es_v0_x {J : am_I} (hr : es_rb J) {w : Nat → Int} {p b t q : Int} (hp : 0 ≤ p ∧ p < J 7 3) (hv : es_v0 J p t) (hw : 0 ≤ es_x (es_Rc J) (es_ws w) p b (es_T t) q) : es_v0 J (p + 1) (if p = 0 then 0 else es_nx (J 7 4) t (q - b)) ∧ es_T (if p = 0 then 0 else es_nx (J 7 4) t (q - b)) = es_us (es_Rc J) p b (es_T t) q := by
  obtain ⟨r1, r2, r3, r4⟩ := id hr
  have h1 := (es_x_g hw).2.2
  unfold es_v0 at hv ⊢
  unfold es_us at h1 ⊢
  by_cases c : p = 0
  · rw [if_pos c, if_pos c]
    refine ⟨Or.inr ⟨by omega, ?_⟩, rfl⟩
    unfold es_vs; omega
  · rw [if_neg c] at h1
    rw [if_neg c, if_neg c]
    have hv' : es_vs J (p - 1) t := by
      rcases hv with hv | hv
      · omega
      · exact hv.2
    have ht : 0 ≤ t ∧ t ≤ 17 := by unfold es_vs at hv'; omega
    have hk := es_key (stp := J 8 3) (lp := J 7 4) (rp := J 7 5) (t := t) (q - b) r3 r4 ht (by unfold es_vs at hv'; omega)
    have hm : es_may (J 8 3) (J 7 5) t (q - b) := Classical.byContradiction (fun z => h1 (hk.2 z))
    refine ⟨Or.inr ⟨by omega, ?_⟩, (hk.1 hm).1.symm⟩
    have h3 := es_nx_c (J 7 4) t (q - b)
    unfold es_may at hm
    unfold es_vs at hv' ⊢
    omega
theorem c_wt_spell (d : Nat) (I0 J : am_I) (h7 : I0 7 = J 7) (h8 : I0 8 = J 8) (h13 : I0 13 = J 13) (hr : es_rb J) (hv : ∀ j : Nat, -1 ≤ I0 12 j ∧ I0 12 j ≤ 1000000000) (hw : es_hw (J 13)) (hrows : ∀ p' : Int, 0 ≤ p' → p' < J 7 3 → es_row_wt J I0 p') (hk : 0 ≤ es_dt (es_Rc J) (es_ws (J 13))) : am_C (d + 4) Y_wt_spell [.inr (.inr 11), .inr (.inr 1)] I0 (fun r I' => r = none ∧ am_fr I0 I' [1, 2, 3] ∧ I' 1 2 = J 7 3 ∧ ∀ j : Nat, (j : Int) < J 7 3 → I' 2 j = (es_dp (es_Rc J) (es_ws (J 13)) (j + 1)).1 ∧ I' 3 j = 24) := by
  refine am_enter ok_wt_spell rfl ?_
  obtain ⟨r1, r2, r3, r4⟩ := id hr
  have hal := es_dp_da (w := J 13) (es_rb_m hr) hk
  have R7 : es_Rc J 7 = J 7 1 := rfl
  have R8 : es_Rc J 8 = J 7 2 := rfl
  have R9 : es_Rc J 9 = J 7 3 := rfl
  have hxD : ∀ (p b u q : Int), 0 ≤ p → _ := fun p b u q h => es_x_D hw (es_rb_m hr) (i := p) h b u q
  have loopp : ∀ (m p : Nat) (t : Int) (I : am_I), (p : Int) ≤ J 7 3 → J 7 3 - p < m → am_fr I0 I [1, 2, 3] → I 1 2 = p → (∀ j : Nat, j < p → I 2 j = (es_dp (es_Rc J) (es_ws (J 13)) (j + 1)).1 ∧ I 3 j = 24) → es_v0 J p t → es_T t = (es_dp (es_Rc J) (es_ws (J 13)) p).2 → am_V (d + 4) Y_wt_spell (fun r I' => r = none ∧ am_fr I0 I' [1, 2, 3] ∧ I' 1 2 = J 7 3 ∧ ∀ j : Nat, (j : Int) < J 7 3 → I' 2 j = (es_dp (es_Rc J) (es_ws (J 13)) (j + 1)).1 ∧ I' 3 j = 24) 25 [(0, .inr (.inr 11)), (1, .inr (.inr 1)), (2, .inr (.inl (es_dl (es_Rc J) (es_ws (J 13)) p (es_dp (es_Rc J) (es_ws (J 13)) p)))), (4, .inl (es_dp (es_Rc J) (es_ws (J 13)) p).1), (5, .inl t), (6, .inl p)] [] I := by
    intro m
    induction m with
    | zero => intro p t I h1 h2; omega
    | succ m ih =>
      intro p t I h1 h2 hf hsz hin hv0 hT
      have ht17 : 0 ≤ t ∧ t ≤ 17 := by unfold es_v0 es_vs at hv0; omega
      have e7 : I 7 = J 7 := (hf 7 rfl).trans h7
      have e8 : I 8 = J 8 := (hf 8 rfl).trans h8
      have e13 : I 13 = J 13 := (hf 13 rfl).trans h13
      have e71 : I 7 1 = J 7 1 := congrFun e7 1
      have e72 : I 7 2 = J 7 2 := congrFun e7 2
      have e73 : I 7 3 = J 7 3 := congrFun e7 3
      have hrows' : ∀ p' : Int, 0 ≤ p' → p' < J 7 3 → es_row_wt J I p' := fun p' g1 g2 => es_row_wt_u (hrows p' g1 g2) (fun q' t' _ _ _ => by rw [hf 12 rfl])
      have hvw : ∀ j : Nat, -1 ≤ I 12 j ∧ I 12 j ≤ 1000000000 := by rw [hf 12 rfl]; exact hv
      have ha := hal p (by omega)
      have hst : (p : Int) < J 7 3 → _ := fun h => es_ds_da (w := J 13) (es_rb_m hr) (i := p) h ha
      have hsp : es_dp (es_Rc J) (es_ws (J 13)) (p + 1) = es_ds (es_Rc J) (es_ws (J 13)) p (es_dp (es_Rc J) (es_ws (J 13)) p) := rfl
      obtain ⟨a1, a2, a3, a4⟩ := ha
      rw [R7, R8] at a1
      rw [R7, R8, R9] at a4
      generalize es_dp (es_Rc J) (es_ws (J 13)) p = x at *
      generalize hL : es_dl (es_Rc J) (es_ws (J 13)) p x = L at *
      have fin : ∀ q : Int, (p : Int) < J 7 3 → q = (es_dp (es_Rc J) (es_ws (J 13)) (p + 1)).1 → am_V (d + 4) Y_wt_spell (fun r I' => r = none ∧ am_fr I0 I' [1, 2, 3] ∧ I' 1 2 = J 7 3 ∧ ∀ j : Nat, (j : Int) < J 7 3 → I' 2 j = (es_dp (es_Rc J) (es_ws (J 13)) (j + 1)).1 ∧ I' 3 j = 24) 81 [(0, .inr (.inr 11)), (1, .inr (.inr 1)), (2, .inr (.inl L)), (4, .inl x.1), (5, .inl t), (6, .inl p), (7, .inl q)] [] I := by
        intro q hpn hq
        obtain ⟨s1, s2⟩ := hst hpn
        rw [← hsp] at s1 s2
        have hqr := s1.1
        rw [R7, R8, ← hq] at hqr
        rw [← hq, ← hT] at s2
        have hv2 := es_v0_x hr (w := J 13) (b := x.1) (q := q) ⟨by omega, hpn⟩ hv0 (by omega)
        have ht2 : 0 ≤ (if (p : Int) = 0 then 0 else es_nx (J 7 4) t (q - x.1)) ∧ (if (p : Int) = 0 then 0 else es_nx (J 7 4) t (q - x.1)) ≤ 17 := by
          have h5 := hv2.1
          unfold es_v0 es_vs at h5
          omega
        have hvs2 : es_vs J p (if (p : Int) = 0 then 0 else es_nx (J 7 4) t (q - x.1)) := by
          have h5 := hv2.1
          unfold es_v0 at h5
          rw [show (p : Int) + 1 - 1 = p by omega] at h5
          rcases h5 with h5 | h5
          · omega
          · exact h5.2
        have hfrom : I 12 (((p : Int) * 37 + q - I 7 1) * 18 + (if (p : Int) = 0 then 0 else es_nx (J 7 4) t (q - x.1))).toNat = es_dl (es_Rc J) (es_ws (J 13)) (p + 1) (es_dp (es_Rc J) (es_ws (J 13)) (p + 1)) := by
          rw [e71, hrows' p (by omega) hpn q _ hqr.1 hqr.2 hvs2]
          have hdl : ∀ y : Int × Int, es_dl (es_Rc J) (es_ws (J 13)) (p + 1) y = es_gw (es_Rc J) (es_ws (J 13)) (J 7 3 - ((p + 1 : Nat) : Int)).toNat y.1 y.2 := by
            intro y
            unfold es_dl
            exact if_neg (by omega)
          rw [hdl, show J 7 3 - ((p + 1 : Nat) : Int) = J 7 3 - 1 - (p : Int) by omega, ← hq]
          rw [hv2.2, hT, hsp]
          unfold es_ds
          rw [hsp] at hq
          unfold es_ds at hq
          rw [hq]
          rfl
        generalize hz : (if (p : Int) = 0 then 0 else es_nx (J 7 4) t (q - x.1)) = z at *
        repeat' (first
          | (refine am_gp 80 [25, 95] rfl (by first | trivial | exact Or.inl rfl | exact Or.inr rfl | (simp (decide := true) only [am_p, am_u_at, am_u_j, am_u_ne]; omega) | (simp (decide := true) only [am_p, and_true, true_and, true_or, or_true, am_u_at, am_u_j, am_u_ne]; omega) | (simp (decide := true) [am_p, am_u_at, am_u_j, am_u_ne]; omega)) ?_)
          | (show am_V _ _ _ _ _ _ _; simp only [Int.reduceToNat])
          | (refine am_bt rfl (by first | omega | (simp (decide := true) only [am_u_at, am_u_j, am_u_ne]; omega)) (by first | omega | (simp (decide := true) only [am_u_at, am_u_j, am_u_ne]; omega)) ?_)
          | (refine am_bf rfl (by first | omega | (simp (decide := true) only [am_u_at, am_u_j, am_u_ne]; omega)) (by first | omega | (simp (decide := true) only [am_u_at, am_u_j, am_u_ne]; omega)) ?_)
          | (refine am_br rfl (by first | omega | (simp (decide := true) only [am_u_at, am_u_j, am_u_ne]; omega)) (fun h => ?_) (fun h => ?_))
          | (refine am_cU (y' := Y_mt_stateAt) rfl lk_wt_59_wt ok_mt_stateAt rfl rfl rfl (c_wt_stateAt2 _ _ _ _ _ _ J (by assumption) hr (by first | omega | (simp (decide := true) only [am_u_at, am_u_j, am_u_ne]; omega)) (by first | omega | (simp (decide := true) only [am_u_at, am_u_j, am_u_ne]; omega)) (by first | omega | (simp (decide := true) only [am_u_at, am_u_j, am_u_ne]; omega)) (by first | omega | (simp (decide := true) only [am_u_at, am_u_j, am_u_ne]; omega))) ?_; rintro r I ⟨rfl, rfl⟩)
          | (refine am_cU (y' := Y_mt_from) rfl lk_wt_63_wt ok_mt_from rfl rfl rfl (c_wt_from _ _ _ _ _ (by first | omega | (simp (decide := true) only [am_u_at, am_u_j, am_u_ne]; omega))) ?_; rintro r I ⟨rfl, rfl⟩)
          | (refine am_cV (y' := Y_no_push) rfl lk_wt_67 ok_no_push rfl rfl rfl (c_push_row _ _ _ _ (by first | omega | (simp (decide := true) only [am_u_at, am_u_j, am_u_ne]; omega))) ?_; rintro r I ⟨rfl, rfl⟩)
          | (refine am_rt rfl (by first | trivial | exact Or.inl rfl | exact Or.inr rfl) ?_))
        rw [hz]
        repeat' (first
          | (refine am_gp 80 [25] rfl (by first | trivial | exact Or.inl rfl | exact Or.inr rfl | (simp (decide := true) only [am_p, am_u_at, am_u_j, am_u_ne]; omega) | (simp (decide := true) only [am_p, and_true, true_and, true_or, or_true, am_u_at, am_u_j, am_u_ne]; omega) | (simp (decide := true) [am_p, am_u_at, am_u_j, am_u_ne]; omega)) ?_)
          | (show am_V _ _ _ _ _ _ _; simp only [Int.reduceToNat])
          | (refine am_bt rfl (by first | omega | (simp (decide := true) only [am_u_at, am_u_j, am_u_ne]; omega)) (by first | omega | (simp (decide := true) only [am_u_at, am_u_j, am_u_ne]; omega)) ?_)
          | (refine am_bf rfl (by first | omega | (simp (decide := true) only [am_u_at, am_u_j, am_u_ne]; omega)) (by first | omega | (simp (decide := true) only [am_u_at, am_u_j, am_u_ne]; omega)) ?_)
          | (refine am_br rfl (by first | omega | (simp (decide := true) only [am_u_at, am_u_j, am_u_ne]; omega)) (fun h => ?_) (fun h => ?_))
          | (refine am_cU (y' := Y_mt_stateAt) rfl lk_wt_59_wt ok_mt_stateAt rfl rfl rfl (c_wt_stateAt2 _ _ _ _ _ _ J (by assumption) hr (by first | omega | (simp (decide := true) only [am_u_at, am_u_j, am_u_ne]; omega)) (by first | omega | (simp (decide := true) only [am_u_at, am_u_j, am_u_ne]; omega)) (by first | omega | (simp (decide := true) only [am_u_at, am_u_j, am_u_ne]; omega)) (by first | omega | (simp (decide := true) only [am_u_at, am_u_j, am_u_ne]; omega))) ?_; rintro r I ⟨rfl, rfl⟩)
          | (refine am_cU (y' := Y_mt_from) rfl lk_wt_63_wt ok_mt_from rfl rfl rfl (c_wt_from _ _ _ _ _ (by first | omega | (simp (decide := true) only [am_u_at, am_u_j, am_u_ne]; omega))) ?_; rintro r I ⟨rfl, rfl⟩)
          | (refine am_cV (y' := Y_no_push) rfl lk_wt_67 ok_no_push rfl rfl rfl (c_push_row _ _ _ _ (by first | omega | (simp (decide := true) only [am_u_at, am_u_j, am_u_ne]; omega))) ?_; rintro r I ⟨rfl, rfl⟩)
          | (refine am_rt rfl (by first | trivial | exact Or.inl rfl | exact Or.inr rfl) ?_))
        refine am_wk [7] ?_
        have h9 := ih (p + 1) z (am_u (am_u (am_u I 2 (I 1 2).toNat q) 3 (I 1 2).toNat 24) 1 2 (I 1 2 + 1)) (by omega) (by omega) (((hf.u _ _ rfl).u _ _ rfl).u _ _ rfl) ?_ ?_ ?_ ?_
        · rw [← hq, ← hfrom, show ((p + 1 : Nat) : Int) = (p : Int) + 1 by omega] at h9
          exact h9
        · simp (decide := true) only [am_u_at, am_u_j, am_u_ne]; omega
        · intro j hj
          simp (decide := true) only [am_u_at, am_u_j, am_u_ne]
          rw [am_u_eq, am_u_eq, hsz]
          by_cases c : j = (p : Int).toNat
          · rw [c, am_up_eq, am_up_eq]
            rw [show (p : Int).toNat = p by omega]
            exact ⟨hq, rfl⟩
          · rw [am_up_ne c, am_up_ne c]
            exact hin j (by omega)
        · rw [show ((p + 1 : Nat) : Int) = (p : Int) + 1 by omega]
          exact hv2.1
        · rw [hv2.2, hT, hsp]
          unfold es_ds
          rw [hsp] at hq
          unfold es_ds at hq
          rw [hq]
      have loopq : ∀ (n : Nat) (q : Int), (p : Int) < J 7 3 → J 7 1 ≤ q → q ≤ J 7 2 → J 7 2 - q < n → (∃ y, q ≤ y ∧ y ≤ J 7 2 ∧ es_x (es_Rc J) (es_ws (J 13)) p x.1 x.2 y = L) → (∀ y, J 7 1 ≤ y → y < q → es_x (es_Rc J) (es_ws (J 13)) p x.1 x.2 y ≠ L) → am_V (d + 4) Y_wt_spell (fun r I' => r = none ∧ am_fr I0 I' [1, 2, 3] ∧ I' 1 2 = J 7 3 ∧ ∀ j : Nat, (j : Int) < J 7 3 → I' 2 j = (es_dp (es_Rc J) (es_ws (J 13)) (j + 1)).1 ∧ I' 3 j = 24) 46 [(0, .inr (.inr 11)), (1, .inr (.inr 1)), (2, .inr (.inl L)), (4, .inl x.1), (5, .inl t), (6, .inl p), (7, .inl q)] [] I := by
        intro n
        induction n with
        | zero => intro q g0 g1 g2 g3; omega
        | succ n ihq =>
          intro q g0 g1 g2 g3 g4 g5
          have hx1 := hxD p x.1 (es_T t) q (by omega)
          have hx2 : 0 ≤ L ∧ L ≤ 20000000 := by
            obtain ⟨y, y1, y2, y3⟩ := g4
            have := hxD p x.1 x.2 y (by omega)
            omega
          have done : es_x (es_Rc J) (es_ws (J 13)) p x.1 x.2 q = L → q = (es_dp (es_Rc J) (es_ws (J 13)) (p + 1)).1 := by
            intro hl
            rw [hsp]
            unfold es_ds
            rw [R7, R8, hL]
            exact (es_fst_eq _ _ q g1 (by omega) hl g5).symm
          refine am_go 1 [] rfl trivial ?_
          repeat' (first
            | (refine am_gp 80 [46, 81] rfl (by first | trivial | exact Or.inl rfl | exact Or.inr rfl | (simp (decide := true) only [am_p, am_u_at, am_u_j, am_u_ne]; omega) | (simp (decide := true) only [am_p, and_true, true_and, true_or, or_true, am_u_at, am_u_j, am_u_ne]; omega) | (simp (decide := true) [am_p, am_u_at, am_u_j, am_u_ne]; omega)) ?_)
            | (show am_V _ _ _ _ _ _ _; simp only [Int.reduceToNat])
            | (refine am_bt rfl (by first | omega | (simp (decide := true) only [am_u_at, am_u_j, am_u_ne]; omega)) (by first | omega | (simp (decide := true) only [am_u_at, am_u_j, am_u_ne]; omega)) ?_)
            | (refine am_bf rfl (by first | omega | (simp (decide := true) only [am_u_at, am_u_j, am_u_ne]; omega)) (by first | omega | (simp (decide := true) only [am_u_at, am_u_j, am_u_ne]; omega)) ?_)
            | (refine am_br rfl (by first | omega | (simp (decide := true) only [am_u_at, am_u_j, am_u_ne]; omega)) (fun h => ?_) (fun h => ?_))
            | (refine am_cU (y' := Y_mt_onward) rfl lk_wt_55_wt ok_mt_onward rfl rfl rfl (c_wt_on _ _ _ _ _ _ J (by assumption) (by assumption) (by assumption) hr (by first | omega | (simp (decide := true) only [am_u_at, am_u_j, am_u_ne]; omega)) (by first | omega | (simp (decide := true) only [am_u_at, am_u_j, am_u_ne]; omega)) (by assumption) (by first | omega | (simp (decide := true) only [am_u_at, am_u_j, am_u_ne]; omega)) hvw hw (by assumption)) ?_; rintro r I ⟨rfl, rfl⟩)
            | (refine am_rt rfl (by first | trivial | exact Or.inl rfl | exact Or.inr rfl) ?_))
          · refine fin q g0 (done ?_)
            obtain ⟨y, y1, y2, y3⟩ := g4
            rw [show q = y by omega]
            exact y3
          · rw [hT] at h
            exact fin q g0 (done (by omega))
          · rw [hT] at h
            refine ihq (q + 1) g0 (by omega) (by omega) (by omega) ?_ ?_
            · obtain ⟨y, y1, y2, y3⟩ := g4
              refine ⟨y, ?_, y2, y3⟩
              have : y ≠ q := fun e => h (by rw [← e]; omega)
              omega
            · intro y y1 y2
              by_cases c : y = q
              · rw [c]; omega
              · exact g5 y y1 (by omega)
      refine am_go 1 [] rfl trivial ?_
      repeat' (first
        | (refine am_gp 80 [46] rfl (by first | trivial | exact Or.inl rfl | exact Or.inr rfl | (simp (decide := true) only [am_p, am_u_at, am_u_j, am_u_ne]; omega) | (simp (decide := true) only [am_p, and_true, true_and, true_or, or_true, am_u_at, am_u_j, am_u_ne]; omega) | (simp (decide := true) [am_p, am_u_at, am_u_j, am_u_ne]; omega)) ?_)
        | (show am_V _ _ _ _ _ _ _; simp only [Int.reduceToNat])
        | (refine am_bt rfl (by first | omega | (simp (decide := true) only [am_u_at, am_u_j, am_u_ne]; omega)) (by first | omega | (simp (decide := true) only [am_u_at, am_u_j, am_u_ne]; omega)) ?_)
        | (refine am_bf rfl (by first | omega | (simp (decide := true) only [am_u_at, am_u_j, am_u_ne]; omega)) (by first | omega | (simp (decide := true) only [am_u_at, am_u_j, am_u_ne]; omega)) ?_)
        | (refine am_br rfl (by first | omega | (simp (decide := true) only [am_u_at, am_u_j, am_u_ne]; omega)) (fun h => ?_) (fun h => ?_))
        | (refine am_rt rfl (by first | trivial | exact Or.inl rfl | exact Or.inr rfl) ?_))
      · have ep : (p : Int) = J 7 3 := by omega
        exact ⟨rfl, hf, by omega, fun j hj => hin j (by omega)⟩
      · rw [e71]
        obtain ⟨y, y1, y2, y3⟩ := a4 (by omega)
        exact loopq 200 (J 7 1) (by omega) (by omega) (by omega) (by omega) ⟨y, y1, by omega, y3⟩ (fun y h1 h2 => by omega)
  have a71 : I0 7 1 = J 7 1 := congrFun h7 1
  repeat' (first
    | (refine am_gp 80 [25] rfl (by first | trivial | exact Or.inl rfl | exact Or.inr rfl | (simp (decide := true) only [am_p, am_u_at, am_u_j, am_u_ne]; omega) | (simp (decide := true) only [am_p, and_true, true_and, true_or, or_true, am_u_at, am_u_j, am_u_ne]; omega) | (simp (decide := true) [am_p, am_u_at, am_u_j, am_u_ne]; omega)) ?_)
    | (show am_V _ _ _ _ _ _ _; simp only [Int.reduceToNat])
    | (refine am_bt rfl (by first | omega | (simp (decide := true) only [am_u_at, am_u_j, am_u_ne]; omega)) (by first | omega | (simp (decide := true) only [am_u_at, am_u_j, am_u_ne]; omega)) ?_)
    | (refine am_bf rfl (by first | omega | (simp (decide := true) only [am_u_at, am_u_j, am_u_ne]; omega)) (by first | omega | (simp (decide := true) only [am_u_at, am_u_j, am_u_ne]; omega)) ?_)
    | (refine am_br rfl (by first | omega | (simp (decide := true) only [am_u_at, am_u_j, am_u_ne]; omega)) (fun h => ?_) (fun h => ?_))
    | (refine am_cU (y' := Y_mt_total) rfl lk_wt_31_wt ok_mt_total rfl rfl rfl (c_wt_tot _ _ J (by assumption) (by assumption) hr hv hrows) ?_; rintro r I0 ⟨rfl, rfl⟩)
    | (refine am_rt rfl (by first | trivial | exact Or.inl rfl | exact Or.inr rfl) ?_))
  rw [a71]
  exact loopp 17 0 0 _ (by omega) (by omega) (am_fr.rf.u _ _ rfl) (by simp (decide := true) only [am_u_at, am_u_j, am_u_ne]) (fun j hj => by omega) (Or.inl ⟨rfl, rfl⟩) rfl
end
section
def es_pw (A M : Nat → Int) (p : Int) (j : Nat) : Int := es_wt (A (13 * p + (j : Int)).toNat) (M (13 * p + (j : Int)).toNat)
def es_hA (A M : Nat → Int) : Prop := ∀ j : Nat, j < 78 → (0 ≤ A j ∧ A j ≤ 20000) ∧ (0 ≤ M j ∧ M j ≤ 20000)
theorem es_pw_hw {A M : Nat → Int} (h : es_hA A M) {p : Int} (hp : 0 ≤ p ∧ p ≤ 5) : es_hw (es_pw A M p) := by
  intro j hj
  have h1 := h (13 * p + (j : Int)).toNat (by omega)
  exact es_wt_rng h1.1 h1.2
def es_row_mw (R : Nat → Int) (sf : Int → Int → Int) (W : Nat → Int) (i : Int) : Prop := ∀ q u : Int, R 7 ≤ q → q ≤ R 8 → 0 ≤ u → u ≤ 17 → W ((37 * i + (q - R 7)) * 18 + u).toNat = es_gw R sf (R 9 - 1 - i).toNat q u
theorem es_row_mw_u {R W W' : Nat → Int} {sf : Int → Int → Int} {i : Int} (h : es_row_mw R sf W i) (he : ∀ q u : Int, R 7 ≤ q → q ≤ R 8 → 0 ≤ u → u ≤ 17 → W' ((37 * i + (q - R 7)) * 18 + u).toNat = W ((37 * i + (q - R 7)) * 18 + u).toNat) : es_row_mw R sf W' i := fun q u h1 h2 h3 h4 => (he q u h1 h2 h3 h4).trans (h q u h1 h2 h3 h4)
theorem c_goingOn (d : Nat) (pu i p u q : Int) (I : am_I) (hr : es_rm (I 44)) (hpu : 0 ≤ pu ∧ pu ≤ 5) (hA : es_hA (I 52) (I 53)) (hi : 0 ≤ i ∧ i < I 44 9 - 1) (hp : I 44 7 ≤ p ∧ p ≤ I 44 8) (hu : 0 ≤ u ∧ u ≤ 17) (hq : I 44 7 ≤ q ∧ q ≤ I 44 8) (hrow : es_row_mw (I 44) (es_ws (es_pw (I 52) (I 53) pu)) (I 54) (i + 1)) : am_C (d + 2) Y_mo_goingOn [.inr (.inr 44), .inl pu, .inl i, .inl p, .inl u, .inl q] I (fun r I' => I' = I ∧ r = some (.inr (.inl (es_x (es_cut (I 44)) (es_ws (es_pw (I 52) (I 53) pu)) (i + 1) p u q)))) := by
  refine am_enter ok_mo_goingOn rfl ?_
  obtain ⟨r1, r2, r3, r4⟩ := id hr
  have hw := es_pw_hw hA hpu
  have R7 : es_cut (I 44) 7 = I 44 7 := rfl
  have R8 : es_cut (I 44) 8 = I 44 8 := rfl
  have R9 : es_cut (I 44) 9 = I 44 9 := rfl
  have R13 : es_cut (I 44) 13 = I 44 13 := rfl
  have R14 : es_cut (I 44) 14 = I 44 14 := rfl
  have R15 : es_cut (I 44) 15 = I 44 15 := rfl
  have hbr := es_bh_rng (I 44 13) (I 44 14) (I 44 15) u (q - p) r4 hu
  have hb12 : es_bh (I 44 13) (I 44 14) (I 44 15) u (q - p) ≠ -1 → -12 ≤ q - p ∧ q - p ≤ 12 := by
    intro h
    refine Classical.byContradiction (fun c => h ?_)
    unfold es_bh
    rw [if_pos (Or.inl c)]
  have hx1 : es_bh (I 44 13) (I 44 14) (I 44 15) u (q - p) = -1 → es_x (es_cut (I 44)) (es_ws (es_pw (I 52) (I 53) pu)) (i + 1) p u q = -1 := by
    intro h
    unfold es_x
    rw [R7, R8, R9, R13, R14, R15, if_pos hq, if_neg (by omega), if_pos h]
  have hx2 : es_bh (I 44 13) (I 44 14) (I 44 15) u (q - p) ≠ -1 → es_x (es_cut (I 44)) (es_ws (es_pw (I 52) (I 53) pu)) (i + 1) p u q = es_ws (es_pw (I 52) (I 53) pu) (q - p) (I 54 ((37 * (i + 1) + (q - I 44 7)) * 18 + es_bh (I 44 13) (I 44 14) (I 44 15) u (q - p)).toNat) := by
    intro h
    rw [hrow q _ hq.1 hq.2 (by omega) (by omega)]
    unfold es_x
    rw [R7, R8, R9, R13, R14, R15, if_pos hq, if_neg (by omega), if_neg h]
    rfl
  have hent : es_bh (I 44 13) (I 44 14) (I 44 15) u (q - p) ≠ -1 → -1 ≤ I 54 ((37 * (i + 1) + (q - I 44 7)) * 18 + es_bh (I 44 13) (I 44 14) (I 44 15) u (q - p)).toNat ∧ I 54 ((37 * (i + 1) + (q - I 44 7)) * 18 + es_bh (I 44 13) (I 44 14) (I 44 15) u (q - p)).toNat ≤ 20000000 := by
    intro h
    rw [hrow q _ hq.1 hq.2 (by omega) (by omega)]
    have h5 := es_gw_D hw (I 44) (I 44 9 - 1 - (i + 1)).toNat q (es_bh (I 44 13) (I 44 14) (I 44 15) u (q - p))
    omega
  have hw1 : 0 ≤ q - p → q - p ≤ 12 → (0 ≤ I 52 (13 * pu + (q - p)).toNat ∧ I 52 (13 * pu + (q - p)).toNat ≤ 20000) ∧ (0 ≤ I 53 (13 * pu + (q - p)).toNat ∧ I 53 (13 * pu + (q - p)).toNat ≤ 20000) := fun h1 h2 => hA _ (by omega)
  have hw2 : 0 ≤ p - q → p - q ≤ 12 → (0 ≤ I 52 (13 * pu + (p - q)).toNat ∧ I 52 (13 * pu + (p - q)).toNat ≤ 20000) ∧ (0 ≤ I 53 (13 * pu + (p - q)).toNat ∧ I 53 (13 * pu + (p - q)).toNat ≤ 20000) := fun h1 h2 => hA _ (by omega)
  have hw3 : 0 ≤ q - p → q - p ≤ 12 → 0 ≤ es_wt (I 52 (13 * pu + (q - p)).toNat) (I 53 (13 * pu + (q - p)).toNat) ∧ es_wt (I 52 (13 * pu + (q - p)).toNat) (I 53 (13 * pu + (q - p)).toNat) ≤ 1000000 := fun h1 h2 => es_wt_rng (hw1 h1 h2).1 (hw1 h1 h2).2
  have hw4 : 0 ≤ p - q → p - q ≤ 12 → 0 ≤ es_wt (I 52 (13 * pu + (p - q)).toNat) (I 53 (13 * pu + (p - q)).toNat) ∧ es_wt (I 52 (13 * pu + (p - q)).toNat) (I 53 (13 * pu + (p - q)).toNat) ≤ 1000000 := fun h1 h2 => es_wt_rng (hw2 h1 h2).1 (hw2 h1 h2).2
  repeat' (first
    | (refine am_gp 80 [] rfl (by first | trivial | exact Or.inl rfl | exact Or.inr rfl | (simp (decide := true) only [am_p, am_u_at, am_u_j, am_u_ne]; omega) | (simp (decide := true) only [am_p, and_true, true_and, true_or, or_true, am_u_at, am_u_j, am_u_ne]; omega) | (simp (decide := true) [am_p, am_u_at, am_u_j, am_u_ne]; omega)) ?_)
    | (show am_V _ _ _ _ _ _ _; simp only [Int.reduceToNat])
    | (refine am_bt rfl (by first | omega | (simp (decide := true) only [am_u_at, am_u_j, am_u_ne]; omega)) (by first | omega | (simp (decide := true) only [am_u_at, am_u_j, am_u_ne]; omega)) ?_)
    | (refine am_bf rfl (by first | omega | (simp (decide := true) only [am_u_at, am_u_j, am_u_ne]; omega)) (by first | omega | (simp (decide := true) only [am_u_at, am_u_j, am_u_ne]; omega)) ?_)
    | (refine am_br rfl (by first | omega | (simp (decide := true) only [am_u_at, am_u_j, am_u_ne]; omega)) (fun h => ?_) (fun h => ?_))
    | (refine am_cV (y' := Y_mo_behind) rfl lk_mo_158 ok_mo_behind rfl rfl rfl (c_behind _ _ _ _ (by first | omega | (simp (decide := true) only [am_u_at, am_u_j, am_u_ne]; omega)) (by first | omega | (simp (decide := true) only [am_u_at, am_u_j, am_u_ne]; omega)) (by first | omega | (simp (decide := true) only [am_u_at, am_u_j, am_u_ne]; omega)) (by first | omega | (simp (decide := true) only [am_u_at, am_u_j, am_u_ne]; omega))) ?_; rintro r I ⟨rfl, rfl⟩)
    | (refine am_cS (y' := Y_mo_cellAt) rfl lk_mo_147 ok_mo_cellAt rfl rfl (c_cellAt _ _ _ _ _) ?_; rintro r I ⟨rfl, rfl⟩)
    | (refine am_cV (y' := Y_mo_weight) rfl lk_mo_250 ok_mo_weight rfl rfl rfl (c_mo_weight _ _ _ _ (by first | omega | (simp (decide := true) only [am_u_at, am_u_j, am_u_ne]; omega)) (by first | omega | (simp (decide := true) only [am_u_at, am_u_j, am_u_ne]; omega)) (by first | omega | (simp (decide := true) only [am_u_at, am_u_j, am_u_ne]; omega)) (by first | omega | (simp (decide := true) only [am_u_at, am_u_j, am_u_ne]; omega))) ?_; rintro r I ⟨rfl, rfl⟩)
    | (refine am_rt rfl (by first | trivial | exact Or.inl rfl | exact Or.inr rfl) ?_))
  · refine ⟨rfl, ?_⟩
    rw [hx2 (by omega)]
    unfold es_ws es_pw
    rw [if_neg (by omega), show ((max (q - p) (-(q - p))).toNat : Int) = q - p by omega]
  · refine ⟨rfl, ?_⟩
    rw [hx2 (by omega)]
    unfold es_ws es_pw
    rw [if_neg (by omega), show ((max (q - p) (-(q - p))).toNat : Int) = p - q by omega]
  · refine ⟨rfl, ?_⟩
    rw [hx2 (by omega)]
    unfold es_ws
    rw [if_pos (by omega)]
  · refine ⟨rfl, ?_⟩
    rw [hx1 (by omega)]
theorem c_bestOn (d : Nat) (pu i p u : Int) (I : am_I) (hr : es_rm (I 44)) (hpu : 0 ≤ pu ∧ pu ≤ 5) (hA : es_hA (I 52) (I 53)) (hi : 0 ≤ i ∧ i < I 44 9 - 1) (hp : I 44 7 ≤ p ∧ p ≤ I 44 8) (hu : 0 ≤ u ∧ u ≤ 17) (hrow : es_row_mw (I 44) (es_ws (es_pw (I 52) (I 53) pu)) (I 54) (i + 1)) : am_C (d + 3) Y_mo_bestOn [.inr (.inr 44), .inl pu, .inl i, .inl p, .inl u] I (fun r I' => I' = I ∧ r = some (.inr (.inl (es_fd es_om (-1) (es_x (es_cut (I 44)) (es_ws (es_pw (I 52) (I 53) pu)) (i + 1) p u) (I 44 7) (I 44 8 + 1 - I 44 7).toNat)))) := by
  refine am_enter ok_mo_bestOn rfl ?_
  obtain ⟨r1, r2, r3, r4⟩ := id hr
  have hw := es_pw_hw hA hpu
  have hxD : ∀ q, _ := fun q => es_x_D hw (R := es_cut (I 44)) hr (i := i + 1) (by omega) p u q
  have loop : ∀ (m k : Nat), I 44 7 + k ≤ I 44 8 + 1 → I 44 8 + 1 - (I 44 7 + k) < m → am_V (d + 3) Y_mo_bestOn (fun r I' => I' = I ∧ r = some (.inr (.inl (es_fd es_om (-1) (es_x (es_cut (I 44)) (es_ws (es_pw (I 52) (I 53) pu)) (i + 1) p u) (I 44 7) (I 44 8 + 1 - I 44 7).toNat)))) 11 [(0, .inr (.inr 44)), (1, .inl pu), (2, .inl i), (3, .inl p), (4, .inl u), (5, .inr (.inl (es_fd es_om (-1) (es_x (es_cut (I 44)) (es_ws (es_pw (I 52) (I 53) pu)) (i + 1) p u) (I 44 7) k))), (7, .inl (I 44 7 + k))] [] I := by
    intro m
    induction m with
    | zero => intro k h1 h2; omega
    | succ m ih =>
      intro k h1 h2
      have hk1 : -1 ≤ es_fd es_om (-1) (es_x (es_cut (I 44)) (es_ws (es_pw (I 52) (I 53) pu)) (i + 1) p u) (I 44 7) k := es_fd_D (D := es_Dm) es_mm (fun q => (hxD q).1) k
      have hk2 := es_fm_le (f := es_x (es_cut (I 44)) (es_ws (es_pw (I 52) (I 53) pu)) (i + 1) p u) (a := I 44 7) (b := 20000000) (by omega) (fun q => (hxD q).2) k
      have hxk := hxD (I 44 7 + k)
      have e9 : es_fd es_om (-1) (es_x (es_cut (I 44)) (es_ws (es_pw (I 52) (I 53) pu)) (i + 1) p u) (I 44 7) (k + 1) = max (es_fd es_om (-1) (es_x (es_cut (I 44)) (es_ws (es_pw (I 52) (I 53) pu)) (i + 1) p u) (I 44 7) k) (es_x (es_cut (I 44)) (es_ws (es_pw (I 52) (I 53) pu)) (i + 1) p u (I 44 7 + k)) := rfl
      refine am_go 1 [] rfl trivial ?_
      repeat' (first
        | (refine am_gp 80 [11] rfl (by first | trivial | exact Or.inl rfl | exact Or.inr rfl | (simp (decide := true) only [am_p, am_u_at, am_u_j, am_u_ne]; omega) | (simp (decide := true) only [am_p, and_true, true_and, true_or, or_true, am_u_at, am_u_j, am_u_ne]; omega) | (simp (decide := true) [am_p, am_u_at, am_u_j, am_u_ne]; omega)) ?_)
        | (show am_V _ _ _ _ _ _ _; simp only [Int.reduceToNat])
        | (refine am_bt rfl (by first | omega | (simp (decide := true) only [am_u_at, am_u_j, am_u_ne]; omega)) (by first | omega | (simp (decide := true) only [am_u_at, am_u_j, am_u_ne]; omega)) ?_)
        | (refine am_bf rfl (by first | omega | (simp (decide := true) only [am_u_at, am_u_j, am_u_ne]; omega)) (by first | omega | (simp (decide := true) only [am_u_at, am_u_j, am_u_ne]; omega)) ?_)
        | (refine am_br rfl (by first | omega | (simp (decide := true) only [am_u_at, am_u_j, am_u_ne]; omega)) (fun h => ?_) (fun h => ?_))
        | (refine am_cV (y' := Y_mo_goingOn) rfl lk_mo_253 ok_mo_goingOn rfl rfl rfl (c_goingOn _ _ _ _ _ _ _ (by assumption) hpu (by assumption) (by first | omega | (simp (decide := true) only [am_u_at, am_u_j, am_u_ne]; omega)) (by first | omega | (simp (decide := true) only [am_u_at, am_u_j, am_u_ne]; omega)) (by first | omega | (simp (decide := true) only [am_u_at, am_u_j, am_u_ne]; omega)) (by first | omega | (simp (decide := true) only [am_u_at, am_u_j, am_u_ne]; omega)) (by assumption)) ?_; rintro r I ⟨rfl, rfl⟩)
        | (refine am_rt rfl (by first | trivial | exact Or.inl rfl | exact Or.inr rfl) ?_))
      · have ek : (I 44 8 + 1 - I 44 7).toNat = k := by omega
        rw [ek]
        exact ⟨rfl, rfl⟩
      · refine am_wk [8] ?_
        have h9 := ih (k + 1) (by omega) (by omega)
        rw [show I 44 7 + ((k + 1 : Nat) : Int) = I 44 7 + (k : Int) + 1 by omega, e9, show max (es_fd es_om (-1) (es_x (es_cut (I 44)) (es_ws (es_pw (I 52) (I 53) pu)) (i + 1) p u) (I 44 7) k) (es_x (es_cut (I 44)) (es_ws (es_pw (I 52) (I 53) pu)) (i + 1) p u (I 44 7 + k)) = es_fd es_om (-1) (es_x (es_cut (I 44)) (es_ws (es_pw (I 52) (I 53) pu)) (i + 1) p u) (I 44 7) k by omega] at h9
        exact h9
      · refine am_wk [8] ?_
        have h9 := ih (k + 1) (by omega) (by omega)
        rw [show I 44 7 + ((k + 1 : Nat) : Int) = I 44 7 + (k : Int) + 1 by omega, e9, show max (es_fd es_om (-1) (es_x (es_cut (I 44)) (es_ws (es_pw (I 52) (I 53) pu)) (i + 1) p u) (I 44 7) k) (es_x (es_cut (I 44)) (es_ws (es_pw (I 52) (I 53) pu)) (i + 1) p u (I 44 7 + k)) = es_x (es_cut (I 44)) (es_ws (es_pw (I 52) (I 53) pu)) (i + 1) p u (I 44 7 + k) by omega] at h9
        exact h9
  repeat' (first
    | (refine am_gp 80 [11] rfl (by first | trivial | exact Or.inl rfl | exact Or.inr rfl | (simp (decide := true) only [am_p, am_u_at, am_u_j, am_u_ne]; omega) | (simp (decide := true) only [am_p, and_true, true_and, true_or, or_true, am_u_at, am_u_j, am_u_ne]; omega) | (simp (decide := true) [am_p, am_u_at, am_u_j, am_u_ne]; omega)) ?_)
    | (show am_V _ _ _ _ _ _ _; simp only [Int.reduceToNat])
    | (refine am_bt rfl (by first | omega | (simp (decide := true) only [am_u_at, am_u_j, am_u_ne]; omega)) (by first | omega | (simp (decide := true) only [am_u_at, am_u_j, am_u_ne]; omega)) ?_)
    | (refine am_bf rfl (by first | omega | (simp (decide := true) only [am_u_at, am_u_j, am_u_ne]; omega)) (by first | omega | (simp (decide := true) only [am_u_at, am_u_j, am_u_ne]; omega)) ?_)
    | (refine am_br rfl (by first | omega | (simp (decide := true) only [am_u_at, am_u_j, am_u_ne]; omega)) (fun h => ?_) (fun h => ?_))
    | (refine am_rt rfl (by first | trivial | exact Or.inl rfl | exact Or.inr rfl) ?_))
  have h9 := loop 200 0 (by omega) (by omega)
  rw [show I 44 7 + ((0 : Nat) : Int) = I 44 7 by omega] at h9
  exact h9
end
section
def es_ex (P : Int → Prop) : Prop := ∃ y, P y
theorem c_mo_drill (d : Nat) (pu : Int) (I0 : am_I) (hpr : (-2147483648 ≤ pu ∧ pu < 2147483648)) (hr : es_rm (I0 44)) (hA : es_hA (I0 52) (I0 53)) : am_C (d + 4) Y_mo_drill [.inr (.inr 44), .inl pu] I0 (fun r I' => (¬ (0 ≤ pu ∧ pu ≤ 5) ∧ r = some (.inl (-2)) ∧ I' = I0) ∨ (((0 ≤ pu ∧ pu ≤ 5) ∧ es_dt (es_cut (I0 44)) (es_ws (es_pw (I0 52) (I0 53) pu)) = -1) ∧ r = some (.inl (-1)) ∧ am_fr I0 I' [54]) ∨ (((0 ≤ pu ∧ pu ≤ 5) ∧ 0 ≤ es_dt (es_cut (I0 44)) (es_ws (es_pw (I0 52) (I0 53) pu))) ∧ r = some (.inl (es_dt (es_cut (I0 44)) (es_ws (es_pw (I0 52) (I0 53) pu)))) ∧ am_fr I0 I' [44, 45, 46, 54] ∧ I' 44 = am_up (am_up (I0 44) 0 (I0 44 9)) 6 0 ∧ ∀ j : Nat, (j : Int) < I0 44 9 → I' 45 j = (es_dp (es_cut (I0 44)) (es_ws (es_pw (I0 52) (I0 53) pu)) (j + 1)).1 ∧ I' 46 j = 24)) := by
  refine am_enter ok_mo_drill rfl ?_
  obtain ⟨r1, r2, r3, r4⟩ := id hr
  have R7 : es_cut (I0 44) 7 = I0 44 7 := rfl
  have R8 : es_cut (I0 44) 8 = I0 44 8 := rfl
  have R9 : es_cut (I0 44) 9 = I0 44 9 := rfl
  have hrR : es_rm (es_cut (I0 44)) := hr
  generalize hsf : es_ws (es_pw (I0 52) (I0 53) pu) = sf at *
  have last : ∀ (I1 : am_I), (0 ≤ pu ∧ pu ≤ 5) → am_fr I0 I1 [54] → (∀ i' : Int, 0 ≤ i' → i' < I0 44 9 → es_row_mw (I0 44) sf (I1 54) i') → 0 ≤ es_dt (es_cut (I0 44)) sf → ∀ (first : Int), first = (es_dp (es_cut (I0 44)) sf 1).1 → am_V (d + 4) Y_mo_drill (fun r I' => (¬ (0 ≤ pu ∧ pu ≤ 5) ∧ r = some (.inl (-2)) ∧ I' = I0) ∨ (((0 ≤ pu ∧ pu ≤ 5) ∧ es_dt (es_cut (I0 44)) sf = -1) ∧ r = some (.inl (-1)) ∧ am_fr I0 I' [54]) ∨ (((0 ≤ pu ∧ pu ≤ 5) ∧ 0 ≤ es_dt (es_cut (I0 44)) sf) ∧ r = some (.inl (es_dt (es_cut (I0 44)) sf)) ∧ am_fr I0 I' [44, 45, 46, 54] ∧ I' 44 = am_up (am_up (I0 44) 0 (I0 44 9)) 6 0 ∧ ∀ j : Nat, (j : Int) < I0 44 9 → I' 45 j = (es_dp (es_cut (I0 44)) sf (j + 1)).1 ∧ I' 46 j = 24)) 199 [(0, .inr (.inr 44)), (1, .inl pu), (2, .inl first), (3, .inr (.inl (es_dt (es_cut (I0 44)) sf)))] [] I1 := by
    intro I1 hpu hf1 hrows hdt first hfi
    have hw := es_pw_hw hA hpu
    have hal : ∀ i : Nat, (i : Int) ≤ I0 44 9 → es_da (es_cut (I0 44)) sf i (es_dp (es_cut (I0 44)) sf i) := by
      rw [← hsf] at hdt ⊢
      exact es_dp_da hrR hdt
    have hdtu : es_dt (es_cut (I0 44)) sf ≤ 20000000 := by
      rw [← hsf]
      refine es_fm_le (by omega) (fun q => ?_) _
      have := es_gw_D hw (es_cut (I0 44)) (es_cut (I0 44) 9 - 1).toNat q 0
      rw [R9] at this ⊢
      omega
    have loopi : ∀ (m i : Nat) (I : am_I), (i : Int) + 1 ≤ I0 44 9 → I0 44 9 - (i : Int) < m → am_fr I0 I [45, 46, 54] → I 54 = I1 54 → (∀ j : Nat, j < i + 1 → I 45 j = (es_dp (es_cut (I0 44)) sf (j + 1)).1 ∧ I 46 j = 24) → am_V (d + 4) Y_mo_drill (fun r I' => (¬ (0 ≤ pu ∧ pu ≤ 5) ∧ r = some (.inl (-2)) ∧ I' = I0) ∨ (((0 ≤ pu ∧ pu ≤ 5) ∧ es_dt (es_cut (I0 44)) sf = -1) ∧ r = some (.inl (-1)) ∧ am_fr I0 I' [54]) ∨ (((0 ≤ pu ∧ pu ≤ 5) ∧ 0 ≤ es_dt (es_cut (I0 44)) sf) ∧ r = some (.inl (es_dt (es_cut (I0 44)) sf)) ∧ am_fr I0 I' [44, 45, 46, 54] ∧ I' 44 = am_up (am_up (I0 44) 0 (I0 44 9)) 6 0 ∧ ∀ j : Nat, (j : Int) < I0 44 9 → I' 45 j = (es_dp (es_cut (I0 44)) sf (j + 1)).1 ∧ I' 46 j = 24)) 213 [(0, .inr (.inr 44)), (1, .inl pu), (2, .inl first), (3, .inr (.inl (es_dt (es_cut (I0 44)) sf))), (5, .inl (es_dp (es_cut (I0 44)) sf (i + 1)).2), (6, .inl i)] [] I := by
      intro m
      induction m with
      | zero => intro i I h1 h2; omega
      | succ m ih =>
        intro i I h1 h2 hf h54 hin
        have e44 : I 44 = I0 44 := hf 44 rfl
        have e52 : I 52 = I0 52 := hf 52 rfl
        have e53 : I 53 = I0 53 := hf 53 rfl
        have e7 : I 44 7 = I0 44 7 := congrFun e44 7
        have e8 : I 44 8 = I0 44 8 := congrFun e44 8
        have e9 : I 44 9 = I0 44 9 := congrFun e44 9
        have e14 : I 44 14 = I0 44 14 := congrFun e44 14
        have e15 : I 44 15 = I0 44 15 := congrFun e44 15
        have hr' : es_rm (I 44) := by rw [e44]; exact hr
        have hA' : es_hA (I 52) (I 53) := by rw [e52, e53]; exact hA
        have hrow' : i < I0 44 9 - 1 → es_row_mw (I 44) (es_ws (es_pw (I 52) (I 53) pu)) (I 54) ((i : Int) + 1) := by
          intro h
          rw [e44, e52, e53, hsf, h54]
          exact hrows _ (by omega) (by omega)
        have ha := hal (i + 1) (by omega)
        have hsp : es_dp (es_cut (I0 44)) sf (i + 1 + 1) = es_ds (es_cut (I0 44)) sf (i + 1) (es_dp (es_cut (I0 44)) sf (i + 1)) := rfl
        obtain ⟨a1, a2, a3, a4⟩ := ha
        rw [R7, R8] at a1
        have hx0 : I 45 (i : Int).toNat = (es_dp (es_cut (I0 44)) sf (i + 1)).1 := by
          rw [show (i : Int).toNat = i by omega]
          exact (hin i (by omega)).1
        have a5 : (i : Int) + 1 < I0 44 9 → es_ex (fun y => I0 44 7 ≤ y ∧ y ≤ I0 44 8 ∧ es_x (es_cut (I0 44)) sf ((i : Int) + 1) (es_dp (es_cut (I0 44)) sf (i + 1)).1 (es_dp (es_cut (I0 44)) sf (i + 1)).2 y = es_dl (es_cut (I0 44)) sf (i + 1) (es_dp (es_cut (I0 44)) sf (i + 1))) := by
          intro h
          obtain ⟨y, y1, y2, y3⟩ := a4 (by rw [R9]; omega)
          rw [R7] at y1
          rw [R7, R8] at y2
          exact ⟨y, y1, by omega, y3⟩
        clear a4
        generalize es_dp (es_cut (I0 44)) sf (i + 1) = x at *
        have hL : es_dl (es_cut (I0 44)) sf (i + 1) x = es_gw (es_cut (I0 44)) sf (I0 44 9 - 1 - (i : Int)).toNat x.1 x.2 := by
          unfold es_dl
          rw [if_neg (by omega), R9, show I0 44 9 - ((i + 1 : Nat) : Int) = I0 44 9 - 1 - (i : Int) by omega]
        have hent : I 54 ((37 * (i : Int) + (I 45 (i : Int).toNat - I 44 7)) * 18 + x.2).toNat = es_dl (es_cut (I0 44)) sf (i + 1) x := by
          rw [hL, hx0, e7, h54, hrows i (by omega) (by omega) x.1 x.2 a1.1 a1.2 a2.1 a2.2]
          rfl
        have hLu : es_dl (es_cut (I0 44)) sf (i + 1) x ≤ 20000000 := by
          rw [hL, ← hsf]
          have := es_gw_D hw (es_cut (I0 44)) (I0 44 9 - 1 - (i : Int)).toNat x.1 x.2
          omega
        have hds : ∀ q : Int, es_x (es_cut (I0 44)) sf ((i : Int) + 1) x.1 x.2 q = es_dl (es_cut (I0 44)) sf (i + 1) x → I0 44 7 ≤ q → q ≤ I0 44 8 → (∀ z, I0 44 7 ≤ z → z < q → es_x (es_cut (I0 44)) sf ((i : Int) + 1) x.1 x.2 z ≠ es_dl (es_cut (I0 44)) sf (i + 1) x) → es_dp (es_cut (I0 44)) sf (i + 1 + 1) = (q, es_us (es_cut (I0 44)) ((i : Int) + 1) x.1 x.2 q) := by
          intro q h3 h4 h5 h6
          have h7 : es_fst (es_x (es_cut (I0 44)) sf ((i + 1 : Nat) : Int) x.1 x.2) (es_dl (es_cut (I0 44)) sf (i + 1) x) (es_cut (I0 44) 7) (es_cut (I0 44) 8 + 1 - es_cut (I0 44) 7).toNat = q := es_fst_eq _ _ q h4 (by rw [R7, R8]; omega) h3 h6
          rw [hsp]
          unfold es_ds
          rw [h7]
          rfl
        generalize es_dl (es_cut (I0 44)) sf (i + 1) x = L at *
        have loopq : ∀ (n : Nat) (q : Int), (i : Int) + 1 < I0 44 9 → I0 44 7 ≤ q → q ≤ I0 44 8 → I0 44 8 - q < n → es_ex (fun y => q ≤ y ∧ y ≤ I0 44 8 ∧ es_x (es_cut (I0 44)) sf ((i : Int) + 1) x.1 x.2 y = L) → (∀ y, I0 44 7 ≤ y → y < q → es_x (es_cut (I0 44)) sf ((i : Int) + 1) x.1 x.2 y ≠ L) → am_V (d + 4) Y_mo_drill (fun r I' => (¬ (0 ≤ pu ∧ pu ≤ 5) ∧ r = some (.inl (-2)) ∧ I' = I0) ∨ (((0 ≤ pu ∧ pu ≤ 5) ∧ es_dt (es_cut (I0 44)) sf = -1) ∧ r = some (.inl (-1)) ∧ am_fr I0 I' [54]) ∨ (((0 ≤ pu ∧ pu ≤ 5) ∧ 0 ≤ es_dt (es_cut (I0 44)) sf) ∧ r = some (.inl (es_dt (es_cut (I0 44)) sf)) ∧ am_fr I0 I' [44, 45, 46, 54] ∧ I' 44 = am_up (am_up (I0 44) 0 (I0 44 9)) 6 0 ∧ ∀ j : Nat, (j : Int) < I0 44 9 → I' 45 j = (es_dp (es_cut (I0 44)) sf (j + 1)).1 ∧ I' 46 j = 24)) 230 [(0, .inr (.inr 44)), (1, .inl pu), (2, .inl first), (3, .inr (.inl (es_dt (es_cut (I0 44)) sf))), (5, .inl x.2), (6, .inl i), (7, .inl q)] [] I := by
          intro n
          induction n with
          | zero => intro q g0 g1 g2 g3; omega
          | succ n ihq =>
            intro q g0 g1 g2 g3 g4 g5
            have hx1 : -1 ≤ es_x (es_cut (I0 44)) sf ((i : Int) + 1) x.1 x.2 q ∧ es_x (es_cut (I0 44)) sf ((i : Int) + 1) x.1 x.2 q ≤ 20000000 := by
              rw [← hsf]
              exact es_x_D hw hrR (by omega) _ _ _
            have hrow := hrow' (by omega)
            have hgo : es_x (es_cut (I 44)) (es_ws (es_pw (I 52) (I 53) pu)) ((i : Int) + 1) (I 45 (i : Int).toNat) x.2 q = es_x (es_cut (I0 44)) sf ((i : Int) + 1) x.1 x.2 q := by rw [e44, e52, e53, hsf, hx0]
            have hbu : es_bh (I 44 13) (I 44 14) (I 44 15) x.2 (q - I 45 (i : Int).toNat) = es_us (es_cut (I0 44)) ((i : Int) + 1) x.1 x.2 q := by
              rw [hx0, e44]
              unfold es_us
              rw [if_neg (by omega)]
              rfl
            refine am_go 1 [] rfl trivial ?_
            repeat' (first
              | (refine am_gp 80 [230, 282] rfl (by first | trivial | exact Or.inl rfl | exact Or.inr rfl | (simp (decide := true) only [am_p, am_u_at, am_u_j, am_u_ne]; omega) | (simp (decide := true) only [am_p, and_true, true_and, true_or, or_true, am_u_at, am_u_j, am_u_ne]; omega) | (simp (decide := true) [am_p, am_u_at, am_u_j, am_u_ne]; omega)) ?_)
              | (show am_V _ _ _ _ _ _ _; simp only [Int.reduceToNat])
              | (refine am_bt rfl (by first | omega | (simp (decide := true) only [am_u_at, am_u_j, am_u_ne]; omega)) (by first | omega | (simp (decide := true) only [am_u_at, am_u_j, am_u_ne]; omega)) ?_)
              | (refine am_bf rfl (by first | omega | (simp (decide := true) only [am_u_at, am_u_j, am_u_ne]; omega)) (by first | omega | (simp (decide := true) only [am_u_at, am_u_j, am_u_ne]; omega)) ?_)
              | (refine am_br rfl (by first | omega | (simp (decide := true) only [am_u_at, am_u_j, am_u_ne]; omega)) (fun h => ?_) (fun h => ?_))
              | (refine am_cV (y' := Y_mo_goingOn) rfl lk_mo_253 ok_mo_goingOn rfl rfl rfl (c_goingOn _ _ _ _ _ _ _ (by assumption) hpu (by assumption) (by first | omega | (simp (decide := true) only [am_u_at, am_u_j, am_u_ne]; omega)) (by first | omega | (simp (decide := true) only [am_u_at, am_u_j, am_u_ne]; omega)) (by first | omega | (simp (decide := true) only [am_u_at, am_u_j, am_u_ne]; omega)) (by first | omega | (simp (decide := true) only [am_u_at, am_u_j, am_u_ne]; omega)) (by assumption)) ?_; rintro r I ⟨rfl, rfl⟩)
              | (refine am_cS (y' := Y_mo_cellAt) rfl lk_mo_147 ok_mo_cellAt rfl rfl (c_cellAt _ _ _ _ _) ?_; rintro r I ⟨rfl, rfl⟩)
              | (refine am_rt rfl (by first | trivial | exact Or.inl rfl | exact Or.inr rfl) ?_))
            · have hxq : es_x (es_cut (I0 44)) sf ((i : Int) + 1) x.1 x.2 q = L := by omega
              have hd := hds q hxq g1 g2 g5
              repeat' (first
                | (refine am_gp 80 [213] rfl (by first | trivial | exact Or.inl rfl | exact Or.inr rfl | (simp (decide := true) only [am_p, am_u_at, am_u_j, am_u_ne]; omega) | (simp (decide := true) only [am_p, and_true, true_and, true_or, or_true, am_u_at, am_u_j, am_u_ne]; omega) | (simp (decide := true) [am_p, am_u_at, am_u_j, am_u_ne]; omega)) ?_)
                | (show am_V _ _ _ _ _ _ _; simp only [Int.reduceToNat])
                | (refine am_bt rfl (by first | omega | (simp (decide := true) only [am_u_at, am_u_j, am_u_ne]; omega)) (by first | omega | (simp (decide := true) only [am_u_at, am_u_j, am_u_ne]; omega)) ?_)
                | (refine am_bf rfl (by first | omega | (simp (decide := true) only [am_u_at, am_u_j, am_u_ne]; omega)) (by first | omega | (simp (decide := true) only [am_u_at, am_u_j, am_u_ne]; omega)) ?_)
                | (refine am_br rfl (by first | omega | (simp (decide := true) only [am_u_at, am_u_j, am_u_ne]; omega)) (fun h => ?_) (fun h => ?_))
                | (refine am_cV (y' := Y_mo_behind) rfl lk_mo_158 ok_mo_behind rfl rfl rfl (c_behind _ _ _ _ (by first | omega | (simp (decide := true) only [am_u_at, am_u_j, am_u_ne]; omega)) (by first | omega | (simp (decide := true) only [am_u_at, am_u_j, am_u_ne]; omega)) (by first | omega | (simp (decide := true) only [am_u_at, am_u_j, am_u_ne]; omega)) (by first | omega | (simp (decide := true) only [am_u_at, am_u_j, am_u_ne]; omega))) ?_; rintro r I ⟨rfl, rfl⟩)
                | (refine am_cV (y' := Y_mo_lay) rfl lk_mo_173 ok_mo_lay rfl rfl rfl (c_lay _ _ _ _ _ (by first | omega | (simp (decide := true) only [am_u_at, am_u_j, am_u_ne]; omega))) ?_; rintro r I ⟨rfl, rfl⟩)
                | (refine am_rt rfl (by first | trivial | exact Or.inl rfl | exact Or.inr rfl) ?_))
              refine am_wk [7] ?_
              have h9 := ih (i + 1) (am_u (am_u I 45 ((i : Int) + 1).toNat q) 46 ((i : Int) + 1).toNat 24) (by omega) (by omega) ((hf.u _ _ rfl).u _ _ rfl) (by rw [am_u_ne (by decide), am_u_ne (by decide)]; exact h54) ?_
              · rw [hd, show ((i + 1 : Nat) : Int) = (i : Int) + 1 by omega] at h9
                rw [hbu]
                exact h9
              · intro j hj
                simp (decide := true) only [am_u_at, am_u_j, am_u_ne]
                rw [am_u_eq, am_u_eq, show ((i : Int) + 1).toNat = i + 1 by omega]
                by_cases c : j = i + 1
                · rw [c, am_up_eq, am_up_eq, hd]
                  exact ⟨rfl, rfl⟩
                · rw [am_up_ne c, am_up_ne c]
                  exact hin j (by omega)
            · have hxq : es_x (es_cut (I0 44)) sf ((i : Int) + 1) x.1 x.2 q ≠ L := by omega
              obtain ⟨y, y1, y2, y3⟩ := g4
              have hyq : y ≠ q := fun e => hxq (by rw [← e]; exact y3)
              refine ihq (q + 1) g0 (by omega) (by omega) (by omega) ⟨y, by omega, y2, y3⟩ ?_
              intro z z1 z2
              by_cases c : z = q
              · rw [c]; exact hxq
              · exact g5 z z1 (by omega)
        refine am_go 1 [] rfl trivial ?_
        repeat' (first
          | (refine am_gp 80 [230] rfl (by first | trivial | exact Or.inl rfl | exact Or.inr rfl | (simp (decide := true) only [am_p, am_u_at, am_u_j, am_u_ne]; omega) | (simp (decide := true) only [am_p, and_true, true_and, true_or, or_true, am_u_at, am_u_j, am_u_ne]; omega) | (simp (decide := true) [am_p, am_u_at, am_u_j, am_u_ne]; omega)) ?_)
          | (show am_V _ _ _ _ _ _ _; simp only [Int.reduceToNat])
          | (refine am_bt rfl (by first | omega | (simp (decide := true) only [am_u_at, am_u_j, am_u_ne]; omega)) (by first | omega | (simp (decide := true) only [am_u_at, am_u_j, am_u_ne]; omega)) ?_)
          | (refine am_bf rfl (by first | omega | (simp (decide := true) only [am_u_at, am_u_j, am_u_ne]; omega)) (by first | omega | (simp (decide := true) only [am_u_at, am_u_j, am_u_ne]; omega)) ?_)
          | (refine am_br rfl (by first | omega | (simp (decide := true) only [am_u_at, am_u_j, am_u_ne]; omega)) (fun h => ?_) (fun h => ?_))
          | (refine am_cV (y' := Y_mo_laid) rfl lk_mo_177 ok_mo_laid rfl rfl rfl (c_laid _ _ _) ?_; rintro r I ⟨rfl, rfl⟩)
          | (refine am_rt rfl (by first | trivial | exact Or.inl rfl | exact Or.inr rfl) ?_))
        · have ei : (i : Int) + 1 = I0 44 9 := by omega
          refine Or.inr (Or.inr ⟨⟨hpu, hdt⟩, rfl, ((hf.wd rfl).u _ _ rfl).u _ _ rfl, ?_, ?_⟩)
          · rw [am_u_eq, am_u_eq, e44]
          · intro j hj
            rw [am_u_ne (by decide), am_u_ne (by decide), am_u_ne (by decide), am_u_ne (by decide)]
            exact hin j (by omega)
        · rw [e7]
          obtain ⟨y, y1, y2, y3⟩ := a5 (by omega)
          exact loopq 200 (I0 44 7) (by omega) (by omega) (by omega) (by omega) ⟨y, y1, y2, y3⟩ (fun y h1 h2 => by omega)
    have e9 : I1 44 9 = I0 44 9 := by rw [hf1 44 rfl]
    repeat' (first
      | (refine am_gp 80 [213] rfl (by first | trivial | exact Or.inl rfl | exact Or.inr rfl | (simp (decide := true) only [am_p, am_u_at, am_u_j, am_u_ne]; omega) | (simp (decide := true) only [am_p, and_true, true_and, true_or, or_true, am_u_at, am_u_j, am_u_ne]; omega) | (simp (decide := true) [am_p, am_u_at, am_u_j, am_u_ne]; omega)) ?_)
      | (show am_V _ _ _ _ _ _ _; simp only [Int.reduceToNat])
      | (refine am_bt rfl (by first | omega | (simp (decide := true) only [am_u_at, am_u_j, am_u_ne]; omega)) (by first | omega | (simp (decide := true) only [am_u_at, am_u_j, am_u_ne]; omega)) ?_)
      | (refine am_bf rfl (by first | omega | (simp (decide := true) only [am_u_at, am_u_j, am_u_ne]; omega)) (by first | omega | (simp (decide := true) only [am_u_at, am_u_j, am_u_ne]; omega)) ?_)
      | (refine am_br rfl (by first | omega | (simp (decide := true) only [am_u_at, am_u_j, am_u_ne]; omega)) (fun h => ?_) (fun h => ?_))
      | (refine am_cV (y' := Y_mo_lay) rfl lk_mo_173 ok_mo_lay rfl rfl rfl (c_lay _ _ _ _ _ (by first | omega | (simp (decide := true) only [am_u_at, am_u_j, am_u_ne]; omega))) ?_; rintro r I ⟨rfl, rfl⟩)
      | (refine am_rt rfl (by first | trivial | exact Or.inl rfl | exact Or.inr rfl) ?_))
    have h9 := loopi 17 0 (am_u (am_u I1 45 0 first) 46 0 24) (by omega) (by omega) (((hf1.wd rfl).u _ _ rfl).u _ _ rfl) (by rw [am_u_ne (by decide), am_u_ne (by decide)]) ?_
    · exact h9
    · intro j hj
      simp (decide := true) only [am_u_at, am_u_j, am_u_ne]
      rw [show j = 0 by omega, am_u_eq, am_up_eq, am_u_eq, am_up_eq]
      exact ⟨hfi, rfl⟩
  have scan : ∀ (m k : Nat) (best first : Int) (I1 : am_I), (0 ≤ pu ∧ pu ≤ 5) → am_fr I0 I1 [54] → (∀ i' : Int, 0 ≤ i' → i' < I0 44 9 → es_row_mw (I0 44) sf (I1 54) i') → I0 44 7 + k ≤ I0 44 8 + 1 → I0 44 8 + 1 - (I0 44 7 + k) < m → best = es_fd es_om (-1) (fun q => es_gw (es_cut (I0 44)) sf (I0 44 9 - 1).toNat q 0) (I0 44 7) k → ((best = -1 ∧ first = -1) ∨ ((0 ≤ best ∧ I0 44 7 ≤ first ∧ first < I0 44 7 + k) ∧ es_gw (es_cut (I0 44)) sf (I0 44 9 - 1).toNat first 0 = best ∧ ∀ y, I0 44 7 ≤ y → y < first → es_gw (es_cut (I0 44)) sf (I0 44 9 - 1).toNat y 0 ≠ best)) → am_V (d + 4) Y_mo_drill (fun r I' => (¬ (0 ≤ pu ∧ pu ≤ 5) ∧ r = some (.inl (-2)) ∧ I' = I0) ∨ (((0 ≤ pu ∧ pu ≤ 5) ∧ es_dt (es_cut (I0 44)) sf = -1) ∧ r = some (.inl (-1)) ∧ am_fr I0 I' [54]) ∨ (((0 ≤ pu ∧ pu ≤ 5) ∧ 0 ≤ es_dt (es_cut (I0 44)) sf) ∧ r = some (.inl (es_dt (es_cut (I0 44)) sf)) ∧ am_fr I0 I' [44, 45, 46, 54] ∧ I' 44 = am_up (am_up (I0 44) 0 (I0 44 9)) 6 0 ∧ ∀ j : Nat, (j : Int) < I0 44 9 → I' 45 j = (es_dp (es_cut (I0 44)) sf (j + 1)).1 ∧ I' 46 j = 24)) 134 [(0, .inr (.inr 44)), (1, .inl pu), (2, .inl first), (3, .inr (.inl best)), (5, .inl (I0 44 7 + k))] [] I1 := by
    intro m
    induction m with
    | zero => intro k best first I1 hpu hf1 hrows h1 h2; omega
    | succ m ih =>
      intro k best first I hpu hf1 hrows h1 h2 hb hfi
      have hw := es_pw_hw hA hpu
      have e44 : I 44 = I0 44 := hf1 44 rfl
      have e7 : I 44 7 = I0 44 7 := congrFun e44 7
      have e8 : I 44 8 = I0 44 8 := congrFun e44 8
      have hgD : ∀ q, -1 ≤ es_gw (es_cut (I0 44)) sf (I0 44 9 - 1).toNat q 0 ∧ es_gw (es_cut (I0 44)) sf (I0 44 9 - 1).toNat q 0 ≤ 20000000 := by
        intro q
        rw [← hsf]
        have := es_gw_D hw (es_cut (I0 44)) (I0 44 9 - 1).toNat q 0
        omega
      have hb1 : -1 ≤ best := by
        rw [hb]
        exact es_fd_D (D := es_Dm) es_mm (fun q => (hgD q).1) k
      have hb2 : best ≤ 20000000 := by
        rw [hb]
        exact es_fm_le (by omega) (fun q => (hgD q).2) k
      have hub : ∀ x, I0 44 7 ≤ x → x < I0 44 7 + (k : Int) → es_gw (es_cut (I0 44)) sf (I0 44 9 - 1).toNat x 0 ≤ best := by
        rw [hb]
        exact es_fm_ub (f := fun q => es_gw (es_cut (I0 44)) sf (I0 44 9 - 1).toNat q 0) k
      have hgk := hgD (I0 44 7 + k)
      have hent : I0 44 7 + k ≤ I0 44 8 → I 54 ((37 * 0 + (I0 44 7 + k - I 44 7)) * 18 + 0).toNat = es_gw (es_cut (I0 44)) sf (I0 44 9 - 1).toNat (I0 44 7 + k) 0 := by
        intro h
        rw [e7, hrows 0 (by omega) (by omega) (I0 44 7 + k) 0 (by omega) h (by omega) (by omega), show I0 44 9 - 1 - 0 = I0 44 9 - 1 by omega]
        rfl
      have e9 : es_fd es_om (-1) (fun q => es_gw (es_cut (I0 44)) sf (I0 44 9 - 1).toNat q 0) (I0 44 7) (k + 1) = max best (es_gw (es_cut (I0 44)) sf (I0 44 9 - 1).toNat (I0 44 7 + k) 0) := by
        rw [hb]
        rfl
      have hf2 : -1 ≤ first ∧ first ≤ 1000 := by
        rcases hfi with c | c
        · omega
        · have := c.1
          omega
      have ek1 : (k : Int) = I0 44 8 + 1 - I0 44 7 → es_dt (es_cut (I0 44)) sf = best := by
        intro h
        rw [hb]
        unfold es_dt
        rw [R7, R8, R9, show (I0 44 8 + 1 - I0 44 7).toNat = k by omega]
      have hfx : first ≠ -1 → (0 ≤ best ∧ I0 44 7 ≤ first ∧ first < I0 44 7 + k) ∧ es_gw (es_cut (I0 44)) sf (I0 44 9 - 1).toNat first 0 = best ∧ ∀ y, I0 44 7 ≤ y → y < first → es_gw (es_cut (I0 44)) sf (I0 44 9 - 1).toNat y 0 ≠ best := by
        intro h
        rcases hfi with c | c
        · exact absurd c.2 h
        · exact c
      have hfy : first = -1 → best = -1 := by
        intro h
        rcases hfi with c | c
        · exact c.1
        · have := c.1
          omega
      refine am_go 1 [] rfl trivial ?_
      repeat' (first
        | (refine am_gp 80 [134, 199] rfl (by first | trivial | exact Or.inl rfl | exact Or.inr rfl | (simp (decide := true) only [am_p, am_u_at, am_u_j, am_u_ne]; omega) | (simp (decide := true) only [am_p, and_true, true_and, true_or, or_true, am_u_at, am_u_j, am_u_ne]; omega) | (simp (decide := true) [am_p, am_u_at, am_u_j, am_u_ne]; omega)) ?_)
        | (show am_V _ _ _ _ _ _ _; simp only [Int.reduceToNat])
        | (refine am_bt rfl (by first | omega | (simp (decide := true) only [am_u_at, am_u_j, am_u_ne]; omega)) (by first | omega | (simp (decide := true) only [am_u_at, am_u_j, am_u_ne]; omega)) ?_)
        | (refine am_bf rfl (by first | omega | (simp (decide := true) only [am_u_at, am_u_j, am_u_ne]; omega)) (by first | omega | (simp (decide := true) only [am_u_at, am_u_j, am_u_ne]; omega)) ?_)
        | (refine am_br rfl (by first | omega | (simp (decide := true) only [am_u_at, am_u_j, am_u_ne]; omega)) (fun h => ?_) (fun h => ?_))
        | (refine am_cS (y' := Y_mo_cellAt) rfl lk_mo_147 ok_mo_cellAt rfl rfl (c_cellAt _ _ _ _ _) ?_; rintro r I ⟨rfl, rfl⟩)
        | (refine am_rt rfl (by first | trivial | exact Or.inl rfl | exact Or.inr rfl) ?_))
      · have hdt := ek1 (by omega)
        obtain ⟨c1, c2, c3⟩ := hfx (by omega)
        refine am_wk [5] ?_
        rw [← hdt]
        refine last I hpu hf1 hrows (by omega) first ?_
        show first = es_fst (es_x (es_cut (I0 44)) sf ((0 : Nat) : Int) (es_cut (I0 44) 7) 0) (es_dl (es_cut (I0 44)) sf 0 (es_cut (I0 44) 7, 0)) (es_cut (I0 44) 7) (es_cut (I0 44) 8 + 1 - es_cut (I0 44) 7).toNat
        have hxx : ∀ y, I0 44 7 ≤ y → y ≤ I0 44 8 → es_x (es_cut (I0 44)) sf ((0 : Nat) : Int) (es_cut (I0 44) 7) 0 y = es_gw (es_cut (I0 44)) sf (I0 44 9 - 1).toNat y 0 := by
          intro y y1 y2
          unfold es_x
          rw [R7, R8, R9, if_pos ⟨y1, y2⟩, if_pos (by omega)]
        have hdl : es_dl (es_cut (I0 44)) sf 0 (es_cut (I0 44) 7, 0) = best := hdt
        rw [hdl]
        refine (es_fst_eq _ _ first (by rw [R7]; exact c1.2.1) (by rw [R7, R8]; omega) ?_ ?_).symm
        · rw [hxx first c1.2.1 (by omega)]
          exact c2
        · intro y y1 y2
          rw [R7] at y1
          rw [hxx y y1 (by omega)]
          exact c3 y y1 y2
      · have hdt := ek1 (by omega)
        exact Or.inr (Or.inl ⟨⟨hpu, by have := hfy (by omega); omega⟩, rfl, hf1⟩)
      · rw [show I0 44 7 + (k : Int) + 1 = I0 44 7 + ((k + 1 : Nat) : Int) by omega]
        refine ih (k + 1) best first I hpu hf1 hrows (by omega) (by omega) (by rw [e9]; omega) ?_
        rcases hfi with c | c
        · exact Or.inl c
        · obtain ⟨c1, c2, c3⟩ := c
          exact Or.inr ⟨by omega, c2, c3⟩
      · rw [show I0 44 7 + (k : Int) + 1 = I0 44 7 + ((k + 1 : Nat) : Int) by omega, hent (by omega)]
        refine ih (k + 1) _ (I0 44 7 + k) I hpu hf1 hrows (by omega) (by omega) (by rw [e9]; omega) (Or.inr ⟨⟨by omega, by omega, by omega⟩, rfl, ?_⟩)
        intro y y1 y2
        have := hub y y1 y2
        omega
  have loopi : ∀ (m : Nat) (i : Int) (I : am_I), (0 ≤ pu ∧ pu ≤ 5) → -1 ≤ i → i < I0 44 9 → i + 1 < m → am_fr I0 I [54] → (∀ i' : Int, i < i' → i' < I0 44 9 → es_row_mw (I0 44) sf (I 54) i') → am_V (d + 4) Y_mo_drill (fun r I' => (¬ (0 ≤ pu ∧ pu ≤ 5) ∧ r = some (.inl (-2)) ∧ I' = I0) ∨ (((0 ≤ pu ∧ pu ≤ 5) ∧ es_dt (es_cut (I0 44)) sf = -1) ∧ r = some (.inl (-1)) ∧ am_fr I0 I' [54]) ∨ (((0 ≤ pu ∧ pu ≤ 5) ∧ 0 ≤ es_dt (es_cut (I0 44)) sf) ∧ r = some (.inl (es_dt (es_cut (I0 44)) sf)) ∧ am_fr I0 I' [44, 45, 46, 54] ∧ I' 44 = am_up (am_up (I0 44) 0 (I0 44 9)) 6 0 ∧ ∀ j : Nat, (j : Int) < I0 44 9 → I' 45 j = (es_dp (es_cut (I0 44)) sf (j + 1)).1 ∧ I' 46 j = 24)) 22 [(0, .inr (.inr 44)), (1, .inl pu), (2, .inl i)] [] I := by
    intro m
    induction m with
    | zero => intro i I hpu h1 h2 h3; omega
    | succ m ih =>
      intro i I hpu h1 h2 h3 hf hrw
      have loopp : ∀ (k : Nat) (p : Int) (I : am_I), 0 ≤ i → I0 44 7 ≤ p → p ≤ I0 44 8 + 1 → I0 44 8 + 1 - p < k → am_fr I0 I [54] → (∀ i' : Int, i < i' → i' < I0 44 9 → es_row_mw (I0 44) sf (I 54) i') → (∀ q u : Int, I0 44 7 ≤ q → q < p → 0 ≤ u → u ≤ 17 → I 54 ((37 * i + (q - I0 44 7)) * 18 + u).toNat = es_gw (I0 44) sf (I0 44 9 - 1 - i).toNat q u) → am_V (d + 4) Y_mo_drill (fun r I' => (¬ (0 ≤ pu ∧ pu ≤ 5) ∧ r = some (.inl (-2)) ∧ I' = I0) ∨ (((0 ≤ pu ∧ pu ≤ 5) ∧ es_dt (es_cut (I0 44)) sf = -1) ∧ r = some (.inl (-1)) ∧ am_fr I0 I' [54]) ∨ (((0 ≤ pu ∧ pu ≤ 5) ∧ 0 ≤ es_dt (es_cut (I0 44)) sf) ∧ r = some (.inl (es_dt (es_cut (I0 44)) sf)) ∧ am_fr I0 I' [44, 45, 46, 54] ∧ I' 44 = am_up (am_up (I0 44) 0 (I0 44 9)) 6 0 ∧ ∀ j : Nat, (j : Int) < I0 44 9 → I' 45 j = (es_dp (es_cut (I0 44)) sf (j + 1)).1 ∧ I' 46 j = 24)) 31 [(0, .inr (.inr 44)), (1, .inl pu), (2, .inl i), (3, .inl p)] [] I := by
        intro k
        induction k with
        | zero => intro p I g0 g1 g2 g3; omega
        | succ k ihp =>
          intro p I g0 g1 g2 g3 hf hrw hq
          have loops : ∀ (n : Nat) (s : Int) (I : am_I), p ≤ I0 44 8 → 0 ≤ s → s ≤ 18 → 18 - s < n → am_fr I0 I [54] → (∀ i' : Int, i < i' → i' < I0 44 9 → es_row_mw (I0 44) sf (I 54) i') → (∀ q u : Int, I0 44 7 ≤ q → q < p → 0 ≤ u → u ≤ 17 → I 54 ((37 * i + (q - I0 44 7)) * 18 + u).toNat = es_gw (I0 44) sf (I0 44 9 - 1 - i).toNat q u) → (∀ u : Int, 0 ≤ u → u < s → I 54 ((37 * i + (p - I0 44 7)) * 18 + u).toNat = es_gw (I0 44) sf (I0 44 9 - 1 - i).toNat p u) → am_V (d + 4) Y_mo_drill (fun r I' => (¬ (0 ≤ pu ∧ pu ≤ 5) ∧ r = some (.inl (-2)) ∧ I' = I0) ∨ (((0 ≤ pu ∧ pu ≤ 5) ∧ es_dt (es_cut (I0 44)) sf = -1) ∧ r = some (.inl (-1)) ∧ am_fr I0 I' [54]) ∨ (((0 ≤ pu ∧ pu ≤ 5) ∧ 0 ≤ es_dt (es_cut (I0 44)) sf) ∧ r = some (.inl (es_dt (es_cut (I0 44)) sf)) ∧ am_fr I0 I' [44, 45, 46, 54] ∧ I' 44 = am_up (am_up (I0 44) 0 (I0 44 9)) 6 0 ∧ ∀ j : Nat, (j : Int) < I0 44 9 → I' 45 j = (es_dp (es_cut (I0 44)) sf (j + 1)).1 ∧ I' 46 j = 24)) 42 [(0, .inr (.inr 44)), (1, .inl pu), (2, .inl i), (3, .inl p), (4, .inl s)] [] I := by
            intro n
            induction n with
            | zero => intro s I f0 f1 f2 f3; omega
            | succ n ihs =>
              intro s I f0 f1 f2 f3 hf hrw hq hs
              have e44 : I 44 = I0 44 := hf 44 rfl
              have e52 : I 52 = I0 52 := hf 52 rfl
              have e53 : I 53 = I0 53 := hf 53 rfl
              have e7 : I 44 7 = I0 44 7 := congrFun e44 7
              have e8 : I 44 8 = I0 44 8 := congrFun e44 8
              have e9 : I 44 9 = I0 44 9 := congrFun e44 9
              have hr' : es_rm (I 44) := by rw [e44]; exact hr
              have hA' : es_hA (I 52) (I 53) := by rw [e52, e53]; exact hA
              have hrw' : i < I0 44 9 - 1 → es_row_mw (I 44) (es_ws (es_pw (I 52) (I 53) pu)) (I 54) (i + 1) := fun h => by rw [e44, e52, e53, hsf]; exact hrw _ (by omega) (by omega)
              have step : ∀ v : Int, s < 18 → v = es_gw (I0 44) sf (I0 44 9 - 1 - i).toNat p s → am_V (d + 4) Y_mo_drill (fun r I' => (¬ (0 ≤ pu ∧ pu ≤ 5) ∧ r = some (.inl (-2)) ∧ I' = I0) ∨ (((0 ≤ pu ∧ pu ≤ 5) ∧ es_dt (es_cut (I0 44)) sf = -1) ∧ r = some (.inl (-1)) ∧ am_fr I0 I' [54]) ∨ (((0 ≤ pu ∧ pu ≤ 5) ∧ 0 ≤ es_dt (es_cut (I0 44)) sf) ∧ r = some (.inl (es_dt (es_cut (I0 44)) sf)) ∧ am_fr I0 I' [44, 45, 46, 54] ∧ I' 44 = am_up (am_up (I0 44) 0 (I0 44 9)) 6 0 ∧ ∀ j : Nat, (j : Int) < I0 44 9 → I' 45 j = (es_dp (es_cut (I0 44)) sf (j + 1)).1 ∧ I' 46 j = 24)) 42 [(0, .inr (.inr 44)), (1, .inl pu), (2, .inl i), (3, .inl p), (4, .inl (s + 1))] [] (am_u I 54 ((37 * i + (p - I 44 7)) * 18 + s).toNat v) := by
                intro v hs8 hv
                refine ihs (s + 1) _ f0 (by omega) (by omega) (by omega) (hf.u _ _ rfl) ?_ ?_ ?_
                · intro i' h5 h6
                  refine es_row_mw_u (hrw i' h5 h6) (fun q u g7 g8 g9 g10 => ?_)
                  rw [am_u_eq, e7, am_up_ne (by omega)]
                · intro q u g7 g8 g9 g10
                  rw [am_u_eq, e7, am_up_ne (by omega)]
                  exact hq q u g7 g8 g9 g10
                · intro u g7 g8
                  rw [am_u_eq, e7]
                  by_cases c : u = s
                  · rw [c, am_up_eq]
                    exact hv
                  · rw [am_up_ne (by omega)]
                    exact hs u g7 (by omega)
              refine am_go 1 [] rfl trivial ?_
              repeat' (first
                | (refine am_gp 80 [31, 42, 94] rfl (by first | trivial | exact Or.inl rfl | exact Or.inr rfl | (simp (decide := true) only [am_p, am_u_at, am_u_j, am_u_ne]; omega) | (simp (decide := true) only [am_p, and_true, true_and, true_or, or_true, am_u_at, am_u_j, am_u_ne]; omega) | (simp (decide := true) [am_p, am_u_at, am_u_j, am_u_ne]; omega)) ?_)
                | (show am_V _ _ _ _ _ _ _; simp only [Int.reduceToNat])
                | (refine am_bt rfl (by first | omega | (simp (decide := true) only [am_u_at, am_u_j, am_u_ne]; omega)) (by first | omega | (simp (decide := true) only [am_u_at, am_u_j, am_u_ne]; omega)) ?_)
                | (refine am_bf rfl (by first | omega | (simp (decide := true) only [am_u_at, am_u_j, am_u_ne]; omega)) (by first | omega | (simp (decide := true) only [am_u_at, am_u_j, am_u_ne]; omega)) ?_)
                | (refine am_br rfl (by first | omega | (simp (decide := true) only [am_u_at, am_u_j, am_u_ne]; omega)) (fun h => ?_) (fun h => ?_))
                | (refine am_cV (y' := Y_mo_fits) rfl lk_mo_151 ok_mo_fits rfl rfl rfl (c_fits _ _ _ _ (by first | omega | (simp (decide := true) only [am_u_at, am_u_j, am_u_ne]; omega)) (by first | omega | (simp (decide := true) only [am_u_at, am_u_j, am_u_ne]; omega)) (by first | omega | (simp (decide := true) only [am_u_at, am_u_j, am_u_ne]; omega)) (by first | omega | (simp (decide := true) only [am_u_at, am_u_j, am_u_ne]; omega)) (by first | omega | (simp (decide := true) only [am_u_at, am_u_j, am_u_ne]; omega))) ?_; rintro r I ⟨rfl, (⟨rfl, hft⟩ | ⟨rfl, hft⟩)⟩ <;> (try (exfalso; omega)))
                | (refine am_cS (y' := Y_mo_cellAt) rfl lk_mo_147 ok_mo_cellAt rfl rfl (c_cellAt _ _ _ _ _) ?_; rintro r I ⟨rfl, rfl⟩)
                | (refine am_rt rfl (by first | trivial | exact Or.inl rfl | exact Or.inr rfl) ?_))
              · refine am_wk [4] ?_
                refine ihp (p + 1) _ g0 (by omega) (by omega) (by omega) hf hrw ?_
                intro q u g7 g8 g9 g10
                by_cases c : q = p
                · rw [c]
                  exact hs u g9 (by omega)
                · exact hq q u g7 (by omega) g9 g10
              · have hrow := hrw' (by omega)
                repeat' (first
                  | (refine am_gp 80 [42] rfl (by first | trivial | exact Or.inl rfl | exact Or.inr rfl | (simp (decide := true) only [am_p, am_u_at, am_u_j, am_u_ne]; omega) | (simp (decide := true) only [am_p, and_true, true_and, true_or, or_true, am_u_at, am_u_j, am_u_ne]; omega) | (simp (decide := true) [am_p, am_u_at, am_u_j, am_u_ne]; omega)) ?_)
                  | (show am_V _ _ _ _ _ _ _; simp only [Int.reduceToNat])
                  | (refine am_bt rfl (by first | omega | (simp (decide := true) only [am_u_at, am_u_j, am_u_ne]; omega)) (by first | omega | (simp (decide := true) only [am_u_at, am_u_j, am_u_ne]; omega)) ?_)
                  | (refine am_bf rfl (by first | omega | (simp (decide := true) only [am_u_at, am_u_j, am_u_ne]; omega)) (by first | omega | (simp (decide := true) only [am_u_at, am_u_j, am_u_ne]; omega)) ?_)
                  | (refine am_br rfl (by first | omega | (simp (decide := true) only [am_u_at, am_u_j, am_u_ne]; omega)) (fun h => ?_) (fun h => ?_))
                  | (refine am_cV (y' := Y_mo_bestOn) rfl lk_mo_257 ok_mo_bestOn rfl rfl rfl (c_bestOn _ _ _ _ _ _ (by assumption) hpu (by assumption) (by first | omega | (simp (decide := true) only [am_u_at, am_u_j, am_u_ne]; omega)) (by first | omega | (simp (decide := true) only [am_u_at, am_u_j, am_u_ne]; omega)) (by first | omega | (simp (decide := true) only [am_u_at, am_u_j, am_u_ne]; omega)) (by assumption)) ?_; rintro r I ⟨rfl, rfl⟩)
                  | (refine am_rt rfl (by first | trivial | exact Or.inl rfl | exact Or.inr rfl) ?_))
                refine step _ (by omega) ?_
                rw [e44, e52, e53, hsf]
                rw [e44] at hft
                have hs9 := es_x_sum (R := es_cut (I0 44)) hrR (sf := sf) (i := i) (b := p) (u := s) ⟨by omega, by rw [R9]; omega⟩ hft.2
                rw [R7, R8, R9] at hs9
                exact hs9.symm
              · refine step _ (by omega) ?_
                rw [e44] at hft
                unfold es_gw
                rw [show (I0 44 9 - 1 - i).toNat = 0 by omega, es_G_end _ _ (by rw [show I0 44 9 - 1 = i by omega]; exact hft.2)]
              · refine step _ (by omega) ?_
                rw [e44] at hft
                unfold es_gw
                rw [es_G_no _ _ _ (by rw [show I0 44 9 - 1 - ((I0 44 9 - 1 - i).toNat : Int) = i by omega]; exact fun z => hft ⟨by omega, z⟩)]
          have e8 : I 44 8 = I0 44 8 := by rw [hf 44 rfl]
          refine am_go 1 [] rfl trivial ?_
          repeat' (first
            | (refine am_gp 80 [22, 42] rfl (by first | trivial | exact Or.inl rfl | exact Or.inr rfl | (simp (decide := true) only [am_p, am_u_at, am_u_j, am_u_ne]; omega) | (simp (decide := true) only [am_p, and_true, true_and, true_or, or_true, am_u_at, am_u_j, am_u_ne]; omega) | (simp (decide := true) [am_p, am_u_at, am_u_j, am_u_ne]; omega)) ?_)
            | (show am_V _ _ _ _ _ _ _; simp only [Int.reduceToNat])
            | (refine am_bt rfl (by first | omega | (simp (decide := true) only [am_u_at, am_u_j, am_u_ne]; omega)) (by first | omega | (simp (decide := true) only [am_u_at, am_u_j, am_u_ne]; omega)) ?_)
            | (refine am_bf rfl (by first | omega | (simp (decide := true) only [am_u_at, am_u_j, am_u_ne]; omega)) (by first | omega | (simp (decide := true) only [am_u_at, am_u_j, am_u_ne]; omega)) ?_)
            | (refine am_br rfl (by first | omega | (simp (decide := true) only [am_u_at, am_u_j, am_u_ne]; omega)) (fun h => ?_) (fun h => ?_))
            | (refine am_rt rfl (by first | trivial | exact Or.inl rfl | exact Or.inr rfl) ?_))
          · refine am_wk [3] ?_
            refine ih (i - 1) _ hpu (by omega) (by omega) (by omega) hf ?_
            intro i' h5 h6
            by_cases c : i' = i
            · rw [c]
              exact fun q u g7 g8 g9 g10 => hq q u g7 (by omega) g9 g10
            · exact hrw i' (by omega) h6
          · exact loops 19 0 _ (by omega) (by omega) (by omega) (by omega) hf hrw hq (fun u g7 g8 => by omega)
      have e7 : I 44 7 = I0 44 7 := by rw [hf 44 rfl]
      refine am_go 1 [] rfl trivial ?_
      repeat' (first
        | (refine am_gp 80 [31, 134] rfl (by first | trivial | exact Or.inl rfl | exact Or.inr rfl | (simp (decide := true) only [am_p, am_u_at, am_u_j, am_u_ne]; omega) | (simp (decide := true) only [am_p, and_true, true_and, true_or, or_true, am_u_at, am_u_j, am_u_ne]; omega) | (simp (decide := true) [am_p, am_u_at, am_u_j, am_u_ne]; omega)) ?_)
        | (show am_V _ _ _ _ _ _ _; simp only [Int.reduceToNat])
        | (refine am_bt rfl (by first | omega | (simp (decide := true) only [am_u_at, am_u_j, am_u_ne]; omega)) (by first | omega | (simp (decide := true) only [am_u_at, am_u_j, am_u_ne]; omega)) ?_)
        | (refine am_bf rfl (by first | omega | (simp (decide := true) only [am_u_at, am_u_j, am_u_ne]; omega)) (by first | omega | (simp (decide := true) only [am_u_at, am_u_j, am_u_ne]; omega)) ?_)
        | (refine am_br rfl (by first | omega | (simp (decide := true) only [am_u_at, am_u_j, am_u_ne]; omega)) (fun h => ?_) (fun h => ?_))
        | (refine am_rt rfl (by first | trivial | exact Or.inl rfl | exact Or.inr rfl) ?_))
      · have h9 := scan 200 0 (-1) (-1) I hpu hf (fun i' h5 h6 => hrw i' (by omega) h6) (by omega) (by omega) rfl (Or.inl ⟨rfl, rfl⟩)
        rw [show I0 44 7 + ((0 : Nat) : Int) = I 44 7 by omega] at h9
        exact h9
      · rw [e7]
        exact loopp 200 (I0 44 7) I (by omega) (by omega) (by omega) (by omega) hf hrw (fun q u g7 g8 => by omega)
  repeat' (first
    | (refine am_gp 80 [22] rfl (by first | trivial | exact Or.inl rfl | exact Or.inr rfl | (simp (decide := true) only [am_p, am_u_at, am_u_j, am_u_ne]; omega) | (simp (decide := true) only [am_p, and_true, true_and, true_or, or_true, am_u_at, am_u_j, am_u_ne]; omega) | (simp (decide := true) [am_p, am_u_at, am_u_j, am_u_ne]; omega)) ?_)
    | (show am_V _ _ _ _ _ _ _; simp only [Int.reduceToNat])
    | (refine am_bt rfl (by first | omega | (simp (decide := true) only [am_u_at, am_u_j, am_u_ne]; omega)) (by first | omega | (simp (decide := true) only [am_u_at, am_u_j, am_u_ne]; omega)) ?_)
    | (refine am_bf rfl (by first | omega | (simp (decide := true) only [am_u_at, am_u_j, am_u_ne]; omega)) (by first | omega | (simp (decide := true) only [am_u_at, am_u_j, am_u_ne]; omega)) ?_)
    | (refine am_br rfl (by first | omega | (simp (decide := true) only [am_u_at, am_u_j, am_u_ne]; omega)) (fun h => ?_) (fun h => ?_))
    | (refine am_cS (y' := Y_mo_in) rfl lk_mo_114 ok_mo_in rfl rfl (c_mo_in _ _ _ _ _ (by first | omega | (simp (decide := true) only [am_u_at, am_u_j, am_u_ne]; omega)) (by first | omega | (simp (decide := true) only [am_u_at, am_u_j, am_u_ne]; omega)) (by first | omega | (simp (decide := true) only [am_u_at, am_u_j, am_u_ne]; omega))) ?_; rintro r I0 ⟨rfl, (⟨rfl, h⟩ | ⟨rfl, h⟩)⟩ <;> (try (exfalso; omega)))
    | (refine am_rt rfl (by first | trivial | exact Or.inl rfl | exact Or.inr rfl) ?_))
  · exact loopi 17 (I0 44 9 - 1) _ (by omega) (by omega) (by omega) (by omega) am_fr.rf (fun i' h5 h6 => by omega)
  · exact Or.inl ⟨by omega, rfl, rfl⟩
end
section
theorem c_pu_weight (d : Nat) (p s : Int) (I : am_I) (hp : 0 ≤ p ∧ p ≤ 5) (hs : 0 ≤ s ∧ s ≤ 12) (ha : 0 ≤ I (31 + p.toNat) s.toNat ∧ I (31 + p.toNat) s.toNat ≤ 20000) (hm : 0 ≤ I (38 + p.toNat) s.toNat ∧ I (38 + p.toNat) s.toNat ≤ 20000) : am_C d Y_pu_weight [.inr (.inr 29), .inl p, .inl s] I (fun r I' => I' = I ∧ r = some (.inl (es_wt (I (31 + p.toNat) s.toNat) (I (38 + p.toNat) s.toNat)))) := by
  refine am_enter ok_pu_weight rfl ?_
  unfold es_wt
  have h6 : p = 0 ∨ p = 1 ∨ p = 2 ∨ p = 3 ∨ p = 4 ∨ p = 5 := by omega
  rcases h6 with rfl | rfl | rfl | rfl | rfl | rfl
  · have ha' : 0 ≤ I 31 s.toNat ∧ I 31 s.toNat ≤ 20000 := ha
    have hm' : 0 ≤ I 38 s.toNat ∧ I 38 s.toNat ≤ 20000 := hm
    show am_V d Y_pu_weight (fun r I' => I' = I ∧ r = some (.inl (if I 31 s.toNat = 0 then 6 else 1 + 10 * I 38 s.toNat / I 31 s.toNat))) _ _ _ _
    repeat' (first
      | (refine am_gp 80 [] rfl (by first | trivial | exact Or.inl rfl | exact Or.inr rfl | (simp (decide := true) only [am_p, am_u_at, am_u_j, am_u_ne]; omega) | (simp (decide := true) only [am_p, and_true, true_and, true_or, or_true, am_u_at, am_u_j, am_u_ne]; omega) | (simp (decide := true) [am_p, am_u_at, am_u_j, am_u_ne]; omega)) ?_)
      | (show am_V _ _ _ _ _ _ _; simp only [Int.reduceToNat])
      | (refine am_bt rfl (by first | omega | (simp (decide := true) only [am_u_at, am_u_j, am_u_ne]; omega)) (by first | omega | (simp (decide := true) only [am_u_at, am_u_j, am_u_ne]; omega)) ?_)
      | (refine am_bf rfl (by first | omega | (simp (decide := true) only [am_u_at, am_u_j, am_u_ne]; omega)) (by first | omega | (simp (decide := true) only [am_u_at, am_u_j, am_u_ne]; omega)) ?_)
      | (refine am_br rfl (by first | omega | (simp (decide := true) only [am_u_at, am_u_j, am_u_ne]; omega)) (fun h => ?_) (fun h => ?_))
      | (refine am_rt rfl (by first | trivial | exact Or.inl rfl | exact Or.inr rfl) ?_))
    · exact ⟨rfl, by rw [if_neg (by omega)]⟩
    · exact ⟨rfl, by rw [if_pos (by omega)]⟩
  · have ha' : 0 ≤ I 32 s.toNat ∧ I 32 s.toNat ≤ 20000 := ha
    have hm' : 0 ≤ I 39 s.toNat ∧ I 39 s.toNat ≤ 20000 := hm
    show am_V d Y_pu_weight (fun r I' => I' = I ∧ r = some (.inl (if I 32 s.toNat = 0 then 6 else 1 + 10 * I 39 s.toNat / I 32 s.toNat))) _ _ _ _
    repeat' (first
      | (refine am_gp 80 [] rfl (by first | trivial | exact Or.inl rfl | exact Or.inr rfl | (simp (decide := true) only [am_p, am_u_at, am_u_j, am_u_ne]; omega) | (simp (decide := true) only [am_p, and_true, true_and, true_or, or_true, am_u_at, am_u_j, am_u_ne]; omega) | (simp (decide := true) [am_p, am_u_at, am_u_j, am_u_ne]; omega)) ?_)
      | (show am_V _ _ _ _ _ _ _; simp only [Int.reduceToNat])
      | (refine am_bt rfl (by first | omega | (simp (decide := true) only [am_u_at, am_u_j, am_u_ne]; omega)) (by first | omega | (simp (decide := true) only [am_u_at, am_u_j, am_u_ne]; omega)) ?_)
      | (refine am_bf rfl (by first | omega | (simp (decide := true) only [am_u_at, am_u_j, am_u_ne]; omega)) (by first | omega | (simp (decide := true) only [am_u_at, am_u_j, am_u_ne]; omega)) ?_)
      | (refine am_br rfl (by first | omega | (simp (decide := true) only [am_u_at, am_u_j, am_u_ne]; omega)) (fun h => ?_) (fun h => ?_))
      | (refine am_rt rfl (by first | trivial | exact Or.inl rfl | exact Or.inr rfl) ?_))
    · exact ⟨rfl, by rw [if_neg (by omega)]⟩
    · exact ⟨rfl, by rw [if_pos (by omega)]⟩
  · have ha' : 0 ≤ I 33 s.toNat ∧ I 33 s.toNat ≤ 20000 := ha
    have hm' : 0 ≤ I 40 s.toNat ∧ I 40 s.toNat ≤ 20000 := hm
    show am_V d Y_pu_weight (fun r I' => I' = I ∧ r = some (.inl (if I 33 s.toNat = 0 then 6 else 1 + 10 * I 40 s.toNat / I 33 s.toNat))) _ _ _ _
    repeat' (first
      | (refine am_gp 80 [] rfl (by first | trivial | exact Or.inl rfl | exact Or.inr rfl | (simp (decide := true) only [am_p, am_u_at, am_u_j, am_u_ne]; omega) | (simp (decide := true) only [am_p, and_true, true_and, true_or, or_true, am_u_at, am_u_j, am_u_ne]; omega) | (simp (decide := true) [am_p, am_u_at, am_u_j, am_u_ne]; omega)) ?_)
      | (show am_V _ _ _ _ _ _ _; simp only [Int.reduceToNat])
      | (refine am_bt rfl (by first | omega | (simp (decide := true) only [am_u_at, am_u_j, am_u_ne]; omega)) (by first | omega | (simp (decide := true) only [am_u_at, am_u_j, am_u_ne]; omega)) ?_)
      | (refine am_bf rfl (by first | omega | (simp (decide := true) only [am_u_at, am_u_j, am_u_ne]; omega)) (by first | omega | (simp (decide := true) only [am_u_at, am_u_j, am_u_ne]; omega)) ?_)
      | (refine am_br rfl (by first | omega | (simp (decide := true) only [am_u_at, am_u_j, am_u_ne]; omega)) (fun h => ?_) (fun h => ?_))
      | (refine am_rt rfl (by first | trivial | exact Or.inl rfl | exact Or.inr rfl) ?_))
    · exact ⟨rfl, by rw [if_neg (by omega)]⟩
    · exact ⟨rfl, by rw [if_pos (by omega)]⟩
  · have ha' : 0 ≤ I 34 s.toNat ∧ I 34 s.toNat ≤ 20000 := ha
    have hm' : 0 ≤ I 41 s.toNat ∧ I 41 s.toNat ≤ 20000 := hm
    show am_V d Y_pu_weight (fun r I' => I' = I ∧ r = some (.inl (if I 34 s.toNat = 0 then 6 else 1 + 10 * I 41 s.toNat / I 34 s.toNat))) _ _ _ _
    repeat' (first
      | (refine am_gp 80 [] rfl (by first | trivial | exact Or.inl rfl | exact Or.inr rfl | (simp (decide := true) only [am_p, am_u_at, am_u_j, am_u_ne]; omega) | (simp (decide := true) only [am_p, and_true, true_and, true_or, or_true, am_u_at, am_u_j, am_u_ne]; omega) | (simp (decide := true) [am_p, am_u_at, am_u_j, am_u_ne]; omega)) ?_)
      | (show am_V _ _ _ _ _ _ _; simp only [Int.reduceToNat])
      | (refine am_bt rfl (by first | omega | (simp (decide := true) only [am_u_at, am_u_j, am_u_ne]; omega)) (by first | omega | (simp (decide := true) only [am_u_at, am_u_j, am_u_ne]; omega)) ?_)
      | (refine am_bf rfl (by first | omega | (simp (decide := true) only [am_u_at, am_u_j, am_u_ne]; omega)) (by first | omega | (simp (decide := true) only [am_u_at, am_u_j, am_u_ne]; omega)) ?_)
      | (refine am_br rfl (by first | omega | (simp (decide := true) only [am_u_at, am_u_j, am_u_ne]; omega)) (fun h => ?_) (fun h => ?_))
      | (refine am_rt rfl (by first | trivial | exact Or.inl rfl | exact Or.inr rfl) ?_))
    · exact ⟨rfl, by rw [if_neg (by omega)]⟩
    · exact ⟨rfl, by rw [if_pos (by omega)]⟩
  · have ha' : 0 ≤ I 35 s.toNat ∧ I 35 s.toNat ≤ 20000 := ha
    have hm' : 0 ≤ I 42 s.toNat ∧ I 42 s.toNat ≤ 20000 := hm
    show am_V d Y_pu_weight (fun r I' => I' = I ∧ r = some (.inl (if I 35 s.toNat = 0 then 6 else 1 + 10 * I 42 s.toNat / I 35 s.toNat))) _ _ _ _
    repeat' (first
      | (refine am_gp 80 [] rfl (by first | trivial | exact Or.inl rfl | exact Or.inr rfl | (simp (decide := true) only [am_p, am_u_at, am_u_j, am_u_ne]; omega) | (simp (decide := true) only [am_p, and_true, true_and, true_or, or_true, am_u_at, am_u_j, am_u_ne]; omega) | (simp (decide := true) [am_p, am_u_at, am_u_j, am_u_ne]; omega)) ?_)
      | (show am_V _ _ _ _ _ _ _; simp only [Int.reduceToNat])
      | (refine am_bt rfl (by first | omega | (simp (decide := true) only [am_u_at, am_u_j, am_u_ne]; omega)) (by first | omega | (simp (decide := true) only [am_u_at, am_u_j, am_u_ne]; omega)) ?_)
      | (refine am_bf rfl (by first | omega | (simp (decide := true) only [am_u_at, am_u_j, am_u_ne]; omega)) (by first | omega | (simp (decide := true) only [am_u_at, am_u_j, am_u_ne]; omega)) ?_)
      | (refine am_br rfl (by first | omega | (simp (decide := true) only [am_u_at, am_u_j, am_u_ne]; omega)) (fun h => ?_) (fun h => ?_))
      | (refine am_rt rfl (by first | trivial | exact Or.inl rfl | exact Or.inr rfl) ?_))
    · exact ⟨rfl, by rw [if_neg (by omega)]⟩
    · exact ⟨rfl, by rw [if_pos (by omega)]⟩
  · have ha' : 0 ≤ I 36 s.toNat ∧ I 36 s.toNat ≤ 20000 := ha
    have hm' : 0 ≤ I 43 s.toNat ∧ I 43 s.toNat ≤ 20000 := hm
    show am_V d Y_pu_weight (fun r I' => I' = I ∧ r = some (.inl (if I 36 s.toNat = 0 then 6 else 1 + 10 * I 43 s.toNat / I 36 s.toNat))) _ _ _ _
    repeat' (first
      | (refine am_gp 80 [] rfl (by first | trivial | exact Or.inl rfl | exact Or.inr rfl | (simp (decide := true) only [am_p, am_u_at, am_u_j, am_u_ne]; omega) | (simp (decide := true) only [am_p, and_true, true_and, true_or, or_true, am_u_at, am_u_j, am_u_ne]; omega) | (simp (decide := true) [am_p, am_u_at, am_u_j, am_u_ne]; omega)) ?_)
      | (show am_V _ _ _ _ _ _ _; simp only [Int.reduceToNat])
      | (refine am_bt rfl (by first | omega | (simp (decide := true) only [am_u_at, am_u_j, am_u_ne]; omega)) (by first | omega | (simp (decide := true) only [am_u_at, am_u_j, am_u_ne]; omega)) ?_)
      | (refine am_bf rfl (by first | omega | (simp (decide := true) only [am_u_at, am_u_j, am_u_ne]; omega)) (by first | omega | (simp (decide := true) only [am_u_at, am_u_j, am_u_ne]; omega)) ?_)
      | (refine am_br rfl (by first | omega | (simp (decide := true) only [am_u_at, am_u_j, am_u_ne]; omega)) (fun h => ?_) (fun h => ?_))
      | (refine am_rt rfl (by first | trivial | exact Or.inl rfl | exact Or.inr rfl) ?_))
    · exact ⟨rfl, by rw [if_neg (by omega)]⟩
    · exact ⟨rfl, by rw [if_pos (by omega)]⟩
def es_pwc (I : am_I) (p : Int) (j : Nat) : Int := es_wt (I (31 + p.toNat) j) (I (38 + p.toNat) j)
def es_hP (I : am_I) : Prop := ∀ p j : Nat, p < 6 → j < 13 → (0 ≤ I (31 + p) j ∧ I (31 + p) j ≤ 20000) ∧ (0 ≤ I (38 + p) j ∧ I (38 + p) j ≤ 20000)
def es_i12 (I : am_I) : Prop := ∀ j : Nat, -1 ≤ I 12 j ∧ I 12 j ≤ 1000000000
theorem am_nm {a : Nat} {l : List Nat} (h : ¬ a ∈ l) : am_mem a l = false := by
  cases c : am_mem a l with
  | false => rfl
  | true => exact absurd (am_mem_iff.1 c) h
theorem c_es_drill (d : Nat) (pu : Int) (I0 : am_I) (hpr : (-2147483648 ≤ pu ∧ pu < 2147483648)) (hr : es_rb I0) (h12 : es_i12 I0) (hP : es_hP I0) : am_C (d + 5) Y_es_drill [.inr (.inr 0), .inl pu] I0 (fun r I' => (¬ (0 ≤ pu ∧ pu ≤ 5) ∧ r = some (.inl (-2)) ∧ I' = I0) ∨ (((0 ≤ pu ∧ pu ≤ 5) ∧ es_dt (es_Rc I0) (es_ws (es_pwc I0 pu)) = -1) ∧ r = some (.inl (-1)) ∧ am_fr I0 I' [11, 12, 13] ∧ es_i12 I') ∨ (((0 ≤ pu ∧ pu ≤ 5) ∧ 0 ≤ es_dt (es_Rc I0) (es_ws (es_pwc I0 pu))) ∧ r = some (.inl (es_dt (es_Rc I0) (es_ws (es_pwc I0 pu)))) ∧ am_fr I0 I' [1, 2, 3, 11, 12, 13, 23] ∧ es_i12 I' ∧ I' 23 9 = 0 ∧ I' 1 2 = I0 7 3 ∧ ∀ j : Nat, (j : Int) < I0 7 3 → I' 2 j = (es_dp (es_Rc I0) (es_ws (es_pwc I0 pu)) (j + 1)).1 ∧ I' 3 j = 24)) := by
  refine am_enter ok_es_drill rfl ?_
  obtain ⟨r1, r2, r3, r4⟩ := id hr
  have rest : ∀ (J2 : am_I), (0 ≤ pu ∧ pu ≤ 5) → am_fr I0 J2 [11, 13] → J2 11 2 = 0 → (∀ j : Nat, j < 13 → J2 13 j = es_pwc I0 pu j) → am_V (d + 5) Y_es_drill (fun r I' => (¬ (0 ≤ pu ∧ pu ≤ 5) ∧ r = some (.inl (-2)) ∧ I' = I0) ∨ (((0 ≤ pu ∧ pu ≤ 5) ∧ es_dt (es_Rc I0) (es_ws (es_pwc I0 pu)) = -1) ∧ r = some (.inl (-1)) ∧ am_fr I0 I' [11, 12, 13] ∧ es_i12 I') ∨ (((0 ≤ pu ∧ pu ≤ 5) ∧ 0 ≤ es_dt (es_Rc I0) (es_ws (es_pwc I0 pu))) ∧ r = some (.inl (es_dt (es_Rc I0) (es_ws (es_pwc I0 pu)))) ∧ am_fr I0 I' [1, 2, 3, 11, 12, 13, 23] ∧ es_i12 I' ∧ I' 23 9 = 0 ∧ I' 1 2 = I0 7 3 ∧ ∀ j : Nat, (j : Int) < I0 7 3 → I' 2 j = (es_dp (es_Rc I0) (es_ws (es_pwc I0 pu)) (j + 1)).1 ∧ I' 3 j = 24)) 51 [(0, .inr (.inr 0)), (1, .inl pu)] [] J2 := by
    intro J2 hpu hf h11 h13
    have e7 : J2 7 = I0 7 := hf 7 rfl
    have e8 : J2 8 = I0 8 := hf 8 rfl
    have hr2 : es_rb J2 := by unfold es_rb; rw [e7]; exact hr
    have hv2 : ∀ j : Nat, -1 ≤ J2 12 j ∧ J2 12 j ≤ 1000000000 := by rw [hf 12 rfl]; exact h12
    have hw2 : es_hw (J2 13) := by
      intro j hj
      rw [h13 j hj]
      have h1 := hP pu.toNat j (by omega) hj
      exact es_wt_rng h1.1 h1.2
    have hfl2 : J2 11 2 = 0 ∨ (J2 11 2 = 1 ∧ ∀ p : Int, 0 ≤ p → p < J2 7 3 → es_row_wt J2 J2 p) := Or.inl h11
    have eR : es_Rc J2 = es_Rc I0 := by unfold es_Rc; rw [e7, e8]
    have eW : es_ws (J2 13) = es_ws (es_pwc I0 pu) := es_ws_cg h13
    have hD1 : -1 ≤ es_dt (es_Rc J2) (es_ws (J2 13)) := es_fd_D (D := es_Dm) es_mm (fun q => (es_gw_D hw2 _ _ _ _).1) _
    have hD2 : es_dt (es_Rc J2) (es_ws (J2 13)) ≤ 20000000 := by
      refine es_fm_le (by omega) (fun q => ?_) _
      have h1 := es_gw_D hw2 (es_Rc J2) (es_Rc J2 9 - 1).toNat q 0
      have h2 : es_Rc J2 9 = J2 7 3 := rfl
      have h3 : J2 7 3 = I0 7 3 := congrFun e7 3
      omega
    repeat' (first
      | (refine am_gp 80 [] rfl (by first | trivial | exact Or.inl rfl | exact Or.inr rfl | (simp (decide := true) only [am_p, am_u_at, am_u_j, am_u_ne]; omega) | (simp (decide := true) only [am_p, and_true, true_and, true_or, or_true, am_u_at, am_u_j, am_u_ne]; omega) | (simp (decide := true) [am_p, am_u_at, am_u_j, am_u_ne]; omega)) ?_)
      | (show am_V _ _ _ _ _ _ _; simp only [Int.reduceToNat])
      | (refine am_bt rfl (by first | omega | (simp (decide := true) only [am_u_at, am_u_j, am_u_ne]; omega)) (by first | omega | (simp (decide := true) only [am_u_at, am_u_j, am_u_ne]; omega)) ?_)
      | (refine am_bf rfl (by first | omega | (simp (decide := true) only [am_u_at, am_u_j, am_u_ne]; omega)) (by first | omega | (simp (decide := true) only [am_u_at, am_u_j, am_u_ne]; omega)) ?_)
      | (refine am_br rfl (by first | omega | (simp (decide := true) only [am_u_at, am_u_j, am_u_ne]; omega)) (fun h => ?_) (fun h => ?_))
      | (refine am_cU (y' := Y_mt_fill) rfl lk_es_228_wt ok_mt_fill rfl rfl rfl (c_wt_fill _ J2 hr2 hv2 hw2 hfl2) ?_; rintro r I ⟨rfl, hfr, hf1, hvn, hrows⟩)
      | (refine am_cU (y' := Y_mt_total) rfl lk_es_229_wt ok_mt_total rfl rfl rfl (c_wt_tot _ _ J2 (hfr 7 rfl) (hfr 8 rfl) hr2 hvn hrows) ?_; rintro r I ⟨rfl, rfl⟩)
      | (refine am_cV (y' := Y_wt_spell) rfl lk_es_230_wt ok_wt_spell rfl rfl rfl (c_wt_spell _ _ J2 (hfr 7 rfl) (hfr 8 rfl) (hfr 13 rfl) hr2 hvn hw2 hrows (by omega)) ?_; rintro r I ⟨rfl, hfs, hsz, hsp⟩)
      | (refine am_cV (y' := Y_ju_forget) rfl lk_es_84 ok_ju_forget rfl rfl rfl (c_ju_forget _ _) ?_; rintro r I ⟨rfl, rfl⟩)
      | (refine am_rt rfl (by first | trivial | exact Or.inl rfl | exact Or.inr rfl) ?_))
    · rw [eR, eW] at *
      refine Or.inr (Or.inr ⟨⟨hpu, by omega⟩, rfl, ?_, ?_, ?_, ?_, ?_⟩)
      · exact (((hf.wd rfl).tr (hfr.wd rfl)).tr (hfs.wd rfl)).u _ _ rfl
      · intro j
        rw [am_u_ne (by decide), hfs 12 rfl]
        exact hvn j
      · simp (decide := true) only [am_u_at, am_u_j, am_u_ne]
      · rw [am_u_ne (by decide), hsz, e7]
      · intro j hj
        rw [am_u_ne (by decide), am_u_ne (by decide)]
        exact hsp j (by rw [e7]; exact hj)
    · rw [eR, eW] at *
      exact Or.inr (Or.inl ⟨⟨hpu, by omega⟩, rfl, (hf.wd rfl).tr (hfr.wd rfl), hvn⟩)
  have loop : ∀ (m : Nat) (s : Int) (I : am_I), (0 ≤ pu ∧ pu ≤ 5) → 0 ≤ s → s ≤ 13 → 13 - s < m → am_fr I0 I [13] → (∀ j : Nat, (j : Int) < s → I 13 j = es_pwc I0 pu j) → am_V (d + 5) Y_es_drill (fun r I' => (¬ (0 ≤ pu ∧ pu ≤ 5) ∧ r = some (.inl (-2)) ∧ I' = I0) ∨ (((0 ≤ pu ∧ pu ≤ 5) ∧ es_dt (es_Rc I0) (es_ws (es_pwc I0 pu)) = -1) ∧ r = some (.inl (-1)) ∧ am_fr I0 I' [11, 12, 13] ∧ es_i12 I') ∨ (((0 ≤ pu ∧ pu ≤ 5) ∧ 0 ≤ es_dt (es_Rc I0) (es_ws (es_pwc I0 pu))) ∧ r = some (.inl (es_dt (es_Rc I0) (es_ws (es_pwc I0 pu)))) ∧ am_fr I0 I' [1, 2, 3, 11, 12, 13, 23] ∧ es_i12 I' ∧ I' 23 9 = 0 ∧ I' 1 2 = I0 7 3 ∧ ∀ j : Nat, (j : Int) < I0 7 3 → I' 2 j = (es_dp (es_Rc I0) (es_ws (es_pwc I0 pu)) (j + 1)).1 ∧ I' 3 j = 24)) 14 [(0, .inr (.inr 0)), (1, .inl pu), (2, .inl s)] [] I := by
    intro m
    induction m with
    | zero => intro s I hpu h1 h2 h3; omega
    | succ m ih =>
      intro s I hpu h1 h2 h3 hf hin
      have ea : I (31 + pu.toNat) = I0 (31 + pu.toNat) := hf _ (am_nm (by simp; omega))
      have em : I (38 + pu.toNat) = I0 (38 + pu.toNat) := hf _ (am_nm (by simp; omega))
      have hq : s < 13 → (0 ≤ I (31 + pu.toNat) s.toNat ∧ I (31 + pu.toNat) s.toNat ≤ 20000) ∧ (0 ≤ I (38 + pu.toNat) s.toNat ∧ I (38 + pu.toNat) s.toNat ≤ 20000) := by
        intro h
        rw [ea, em]
        exact hP pu.toNat s.toNat (by omega) (by omega)
      refine am_go 1 [] rfl trivial ?_
      repeat' (first
        | (refine am_gp 80 [20, 51] rfl (by first | trivial | exact Or.inl rfl | exact Or.inr rfl | (simp (decide := true) only [am_p, am_u_at, am_u_j, am_u_ne]; omega) | (simp (decide := true) only [am_p, and_true, true_and, true_or, or_true, am_u_at, am_u_j, am_u_ne]; omega) | (simp (decide := true) [am_p, am_u_at, am_u_j, am_u_ne]; omega)) ?_)
        | (show am_V _ _ _ _ _ _ _; simp only [Int.reduceToNat])
        | (refine am_bt rfl (by first | omega | (simp (decide := true) only [am_u_at, am_u_j, am_u_ne]; omega)) (by first | omega | (simp (decide := true) only [am_u_at, am_u_j, am_u_ne]; omega)) ?_)
        | (refine am_bf rfl (by first | omega | (simp (decide := true) only [am_u_at, am_u_j, am_u_ne]; omega)) (by first | omega | (simp (decide := true) only [am_u_at, am_u_j, am_u_ne]; omega)) ?_)
        | (refine am_br rfl (by first | omega | (simp (decide := true) only [am_u_at, am_u_j, am_u_ne]; omega)) (fun h => ?_) (fun h => ?_))
        | (refine am_cU (y' := Y_mt_forget) rfl lk_es_227_wt ok_mt_forget rfl rfl rfl (c_wt_forget _ _) ?_; rintro r I ⟨rfl, rfl⟩)
        | (refine am_rt rfl (by first | trivial | exact Or.inl rfl | exact Or.inr rfl) ?_))
      · refine am_wk [2] ?_
        refine rest _ hpu ((hf.wd rfl).u _ _ rfl) (by simp (decide := true) only [am_u_at, am_u_j, am_u_ne]) ?_
        intro j hj
        rw [am_u_ne (by decide)]
        exact hin j (by omega)
      · obtain ⟨hq1, hq2⟩ := hq (by omega)
        repeat' (first
          | (refine am_gp 80 [14] rfl (by first | trivial | exact Or.inl rfl | exact Or.inr rfl | (simp (decide := true) only [am_p, am_u_at, am_u_j, am_u_ne]; omega) | (simp (decide := true) only [am_p, and_true, true_and, true_or, or_true, am_u_at, am_u_j, am_u_ne]; omega) | (simp (decide := true) [am_p, am_u_at, am_u_j, am_u_ne]; omega)) ?_)
          | (show am_V _ _ _ _ _ _ _; simp only [Int.reduceToNat])
          | (refine am_bt rfl (by first | omega | (simp (decide := true) only [am_u_at, am_u_j, am_u_ne]; omega)) (by first | omega | (simp (decide := true) only [am_u_at, am_u_j, am_u_ne]; omega)) ?_)
          | (refine am_bf rfl (by first | omega | (simp (decide := true) only [am_u_at, am_u_j, am_u_ne]; omega)) (by first | omega | (simp (decide := true) only [am_u_at, am_u_j, am_u_ne]; omega)) ?_)
          | (refine am_br rfl (by first | omega | (simp (decide := true) only [am_u_at, am_u_j, am_u_ne]; omega)) (fun h => ?_) (fun h => ?_))
          | (refine am_cV (y' := Y_pu_weight) rfl lk_es_213 ok_pu_weight rfl rfl rfl (c_pu_weight _ _ _ _ hpu (by first | omega | (simp (decide := true) only [am_u_at, am_u_j, am_u_ne]; omega)) (by assumption) (by assumption)) ?_; rintro r I ⟨rfl, rfl⟩)
          | (refine am_rt rfl (by first | trivial | exact Or.inl rfl | exact Or.inr rfl) ?_))
        refine ih (s + 1) _ hpu (by omega) (by omega) (by omega) (hf.u _ _ rfl) ?_
        intro j hj
        rw [am_u_eq]
        by_cases c : j = s.toNat
        · rw [c, am_up_eq, ea, em]
          rfl
        · rw [am_up_ne c]
          exact hin j (by omega)
  repeat' (first
    | (refine am_gp 80 [14] rfl (by first | trivial | exact Or.inl rfl | exact Or.inr rfl | (simp (decide := true) only [am_p, am_u_at, am_u_j, am_u_ne]; omega) | (simp (decide := true) only [am_p, and_true, true_and, true_or, or_true, am_u_at, am_u_j, am_u_ne]; omega) | (simp (decide := true) [am_p, am_u_at, am_u_j, am_u_ne]; omega)) ?_)
    | (show am_V _ _ _ _ _ _ _; simp only [Int.reduceToNat])
    | (refine am_bt rfl (by first | omega | (simp (decide := true) only [am_u_at, am_u_j, am_u_ne]; omega)) (by first | omega | (simp (decide := true) only [am_u_at, am_u_j, am_u_ne]; omega)) ?_)
    | (refine am_bf rfl (by first | omega | (simp (decide := true) only [am_u_at, am_u_j, am_u_ne]; omega)) (by first | omega | (simp (decide := true) only [am_u_at, am_u_j, am_u_ne]; omega)) ?_)
    | (refine am_br rfl (by first | omega | (simp (decide := true) only [am_u_at, am_u_j, am_u_ne]; omega)) (fun h => ?_) (fun h => ?_))
    | (refine am_cS (y' := Y_es_outside) rfl lk_es_72 ok_es_outside rfl rfl (c_outside _ _ _ _ _ (by first | omega | (simp (decide := true) only [am_u_at, am_u_j, am_u_ne]; omega)) (by first | omega | (simp (decide := true) only [am_u_at, am_u_j, am_u_ne]; omega)) (by first | omega | (simp (decide := true) only [am_u_at, am_u_j, am_u_ne]; omega))) ?_; rintro r I ⟨rfl, (⟨rfl, h⟩ | ⟨rfl, h⟩)⟩ <;> (try (exfalso; omega)))
    | (refine am_rt rfl (by first | trivial | exact Or.inl rfl | exact Or.inr rfl) ?_))
  · exact Or.inl ⟨by omega, rfl, rfl⟩
  · exact loop 14 0 _ (by omega) (by omega) (by omega) (by omega) am_fr.rf (fun j hj => by omega)
end
section
noncomputable def es_F (S : Int → Prop) (beat all : Int) : Nat → Int → Int
  | 0, t => if t = all then 1 else 0
  | k + 1, t => if t = all then 1 else es_fd es_oc 0 (fun l => es_if (S l ∧ t % beat + l ≤ beat) (es_F S beat all k (t + l)) 0) 1 96
noncomputable def es_rf (S : Int → Prop) (beat all : Int) (k : Nat) (t l : Int) : Int := es_if (S l ∧ t % beat + l ≤ beat) (es_F S beat all k (t + l)) 0
theorem es_F_D {S : Int → Prop} {beat all : Int} : ∀ (k : Nat) (t : Int), 0 ≤ es_F S beat all k t ∧ es_F S beat all k t ≤ 1000000000000000000
  | 0, t => by
    show 0 ≤ (if t = all then (1 : Int) else 0) ∧ (if t = all then (1 : Int) else 0) ≤ 1000000000000000000
    split <;> omega
  | k + 1, t => by
    show 0 ≤ (if t = all then (1 : Int) else es_fd es_oc 0 (fun l => es_if (S l ∧ t % beat + l ≤ beat) (es_F S beat all k (t + l)) 0) 1 96) ∧ (if t = all then (1 : Int) else es_fd es_oc 0 (fun l => es_if (S l ∧ t % beat + l ≤ beat) (es_F S beat all k (t + l)) 0) 1 96) ≤ 1000000000000000000
    split
    · omega
    · refine es_fc_D (fun l => ?_) 1 96
      by_cases c : S l ∧ t % beat + l ≤ beat
      · rw [es_if_t c]; exact es_F_D k (t + l)
      · rw [es_if_f c]; unfold es_Dc; omega
theorem es_rf_D (S : Int → Prop) (beat all : Int) (k : Nat) (t l : Int) : es_Dc (es_rf S beat all k t l) := by
  unfold es_rf
  by_cases c : S l ∧ t % beat + l ≤ beat
  · rw [es_if_t c]; exact es_F_D k (t + l)
  · rw [es_if_f c]; unfold es_Dc; omega
theorem es_F_all {S : Int → Prop} {beat all : Int} (k : Nat) : es_F S beat all k all = 1 := by
  cases k with
  | zero => exact if_pos rfl
  | succ k => exact if_pos rfl
theorem es_F_on {S : Int → Prop} {beat all t : Int} (k : Nat) (h : t ≠ all) : es_F S beat all (k + 1) t = es_fd es_oc 0 (es_rf S beat all k t) 1 96 := if_neg h
theorem es_F_z {S : Int → Prop} {beat all t : Int} (h : t ≠ all) : es_F S beat all 0 t = 0 := if_neg h
theorem es_bar {t b n l : Int} (h1 : 0 ≤ t ∧ t < n * b) (hb : 0 < b) (hl : t % b + l ≤ b) : t + l ≤ n * b := by
  have e1 := Int.emod_add_mul_ediv t b
  have e2 : t / b < n := Int.ediv_lt_of_lt_mul hb h1.2
  have e3 : (t / b + 1) * b ≤ n * b := Int.mul_le_mul_of_nonneg_right (by omega) (by omega)
  have e4 : (t / b + 1) * b = b * (t / b) + b := by rw [Int.add_mul, Int.one_mul, Int.mul_comm]
  omega
theorem es_all {a b : Int} (ha : 1 ≤ a ∧ a ≤ 6) (hb : 1 ≤ b ∧ b ≤ 96) : 1 ≤ a * b ∧ a * b ≤ 576 := by
  have h1 : 1 * 1 ≤ a * b := Int.mul_le_mul ha.1 hb.1 (by omega) (by omega)
  have h2 : a * b ≤ 6 * 96 := Int.mul_le_mul ha.2 hb.2 (by omega) (by omega)
  omega
theorem es_em {t b l : Int} (hb : 0 < b) (ht : 0 ≤ t) (hl : 0 < l) (h : t % b + l ≤ b) : (t % b + l < b ∧ (t + l) % b = t % b + l) ∨ (t % b + l = b ∧ (t + l) % b = 0) := by
  have e1 := Int.emod_add_mul_ediv t b
  have e0 := Int.emod_nonneg t (show b ≠ 0 by omega)
  by_cases c : t % b + l = b
  · refine Or.inr ⟨c, ?_⟩
    rw [show t + l = b * (t / b + 1) by rw [Int.mul_add, Int.mul_one]; omega]
    exact Int.mul_emod_right b _
  · refine Or.inl ⟨by omega, ?_⟩
    rw [show t + l = t % b + l + b * (t / b) by omega, Int.add_mul_emod_self_left]
    exact Int.emod_eq_of_lt (by omega) (by omega)
noncomputable def es_rs (S : Int → Prop) (beat all k : Int) : Nat → Int × Int
  | 0 => (0, k)
  | i + 1 => ((es_rs S beat all k i).1 + (es_pk (es_rf S beat all (23 - i) (es_rs S beat all k i).1) 1 96 (es_rs S beat all k i).2).1, (es_pk (es_rf S beat all (23 - i) (es_rs S beat all k i).1) 1 96 (es_rs S beat all k i).2).2)
def es_ra (S : Int → Prop) (beat all : Int) (i : Nat) (x : Int × Int) : Prop := (0 ≤ x.1 ∧ x.1 ≤ all) ∧ 0 ≤ x.2 ∧ x.2 < es_F S beat all (24 - i) x.1
theorem es_rs_st {S : Int → Prop} {n beat k : Int} (hb : 0 < beat) (hS : ∀ l, S l → 1 ≤ l ∧ l ≤ 96) {i : Nat} (hi : i ≤ 24) (h : es_ra S beat (n * beat) i (es_rs S beat (n * beat) k i)) (ht : (es_rs S beat (n * beat) k i).1 ≠ n * beat) : i < 24 ∧ (1 ≤ (es_pk (es_rf S beat (n * beat) (23 - i) (es_rs S beat (n * beat) k i).1) 1 96 (es_rs S beat (n * beat) k i).2).1 ∧ (es_pk (es_rf S beat (n * beat) (23 - i) (es_rs S beat (n * beat) k i).1) 1 96 (es_rs S beat (n * beat) k i).2).1 ≤ 96) ∧ (S (es_pk (es_rf S beat (n * beat) (23 - i) (es_rs S beat (n * beat) k i).1) 1 96 (es_rs S beat (n * beat) k i).2).1 ∧ (es_rs S beat (n * beat) k i).1 % beat + (es_pk (es_rf S beat (n * beat) (23 - i) (es_rs S beat (n * beat) k i).1) 1 96 (es_rs S beat (n * beat) k i).2).1 ≤ beat) ∧ (es_rs S beat (n * beat) k i).2 < es_fd es_oc 0 (es_rf S beat (n * beat) (23 - i) (es_rs S beat (n * beat) k i).1) 1 96 ∧ es_ra S beat (n * beat) (i + 1) (es_rs S beat (n * beat) k (i + 1)) := by
  have hrs : es_rs S beat (n * beat) k (i + 1) = ((es_rs S beat (n * beat) k i).1 + (es_pk (es_rf S beat (n * beat) (23 - i) (es_rs S beat (n * beat) k i).1) 1 96 (es_rs S beat (n * beat) k i).2).1, (es_pk (es_rf S beat (n * beat) (23 - i) (es_rs S beat (n * beat) k i).1) 1 96 (es_rs S beat (n * beat) k i).2).2) := rfl
  rw [hrs]
  generalize es_rs S beat (n * beat) k i = x at *
  obtain ⟨a1, a2, a3⟩ := h
  have hi4 : i < 24 := by
    refine Classical.byContradiction (fun c => ?_)
    rw [show 24 - i = 0 by omega, es_F_z ht] at a3
    omega
  rw [show 24 - i = (23 - i) + 1 by omega, es_F_on _ ht] at a3
  have hk := es_pk_ok (fun l => es_rf_D S beat (n * beat) (23 - i) x.1 l) 96 1 x.2 a2 a3
  generalize es_pk (es_rf S beat (n * beat) (23 - i) x.1) 1 96 x.2 = z at *
  obtain ⟨k1, k2, k3⟩ := hk
  have hc : S z.1 ∧ x.1 % beat + z.1 ≤ beat := by
    refine Classical.byContradiction (fun c => ?_)
    unfold es_rf at k3
    rw [es_if_f c] at k3
    omega
  unfold es_rf at k3
  rw [es_if_t hc] at k3
  have hb2 := es_bar (n := n) ⟨a1.1, by omega⟩ hb hc.2
  refine ⟨hi4, by omega, hc, a3, ⟨?_, ?_⟩, k2, ?_⟩
  · show 0 ≤ x.1 + z.1
    omega
  · show x.1 + z.1 ≤ n * beat
    omega
  · show z.2 < es_F S beat (n * beat) (24 - (i + 1)) (x.1 + z.1)
    rw [show 24 - (i + 1) = 23 - i by omega]
    exact k3
def es_rN (S : Int → Prop) (beat all k : Int) (N : Nat) : Prop := (es_rs S beat all k N).1 = all ∧ ∀ i : Nat, i < N → (es_rs S beat all k i).1 ≠ all
theorem es_rN_u {S : Int → Prop} {beat all k : Int} {N M : Nat} (h1 : es_rN S beat all k N) (h2 : es_rN S beat all k M) : N = M := by
  rcases Nat.lt_trichotomy N M with h | h | h
  · exact absurd h1.1 (h2.2 N h)
  · exact h
  · exact absurd h2.1 (h1.2 M h)
theorem es_pk_skip {f : Int → Int} : ∀ (n : Nat) (a : Int) (m : Nat) (l : Int), 0 ≤ l → (∀ x, a ≤ x → x < a + (n : Int) → f x = 0) → es_pk f a (n + m) l = es_pk f (a + (n : Int)) m l
  | 0, a, m, l, hl, h => by
    rw [show 0 + m = m by omega, show a + ((0 : Nat) : Int) = a by omega]
  | n + 1, a, m, l, hl, h => by
    rw [show n + 1 + m = (n + m) + 1 by omega]
    show (if l < f a then (a, l) else es_pk f (a + 1) (n + m) (l - f a)) = _
    have h0 := h a (by omega) (by omega)
    rw [if_neg (by omega), h0, show l - 0 = l by omega, es_pk_skip n (a + 1) m l hl (fun x h1 h2 => h x (by omega) (by omega)), show a + 1 + (n : Int) = a + ((n + 1 : Nat) : Int) by omega]
def es_Sm (I : am_I) (l : Int) : Prop := (1 ≤ l ∧ l ≤ 96) ∧ I 49 l.toNat ≠ 0
def es_Sc (I : am_I) (l : Int) : Prop := (1 ≤ l ∧ l ≤ 96) ∧ ∃ i : Nat, (i : Int) < I 14 1 ∧ I 15 i = l
def es_srt (I : am_I) : Prop := (0 ≤ I 14 1 ∧ I 14 1 ≤ 6) ∧ (∀ i : Nat, (i : Int) < I 14 1 → 1 ≤ I 15 i ∧ I 15 i ≤ 96) ∧ ∀ i j : Nat, i < j → (j : Int) < I 14 1 → I 15 i < I 15 j
theorem es_Sc_fd {g L : Int → Int} (hg : ∀ l, es_Dc (g l)) : ∀ s : Nat, (∀ i, 0 ≤ i → i < (s : Int) → 1 ≤ L i ∧ L i ≤ 96) → (∀ i j, 0 ≤ i → i < j → j < (s : Int) → L i < L j) → es_fd es_oc 0 (fun i => g (L i)) 0 s = es_fd es_oc 0 (fun l => es_if (∃ i : Int, (0 ≤ i ∧ i < (s : Int)) ∧ L i = l) (g l) 0) 1 96
  | 0, h1, h2 => by
    refine (es_fd_e es_mc 96 (fun x _ _ => es_if_f ?_)).symm
    rintro ⟨i, h3, h4⟩
    omega
  | s + 1, h1, h2 => by
    have hG : ∀ x, es_Dc (es_if (∃ i : Int, (0 ≤ i ∧ i < ((s + 1 : Nat) : Int)) ∧ L i = x) (g x) 0) := by
      intro x
      by_cases c : ∃ i : Int, (0 ≤ i ∧ i < ((s + 1 : Nat) : Int)) ∧ L i = x
      · rw [es_if_t c]; exact hg x
      · rw [es_if_f c]; unfold es_Dc; omega
    have hs := h1 s (by omega) (by omega)
    rw [← es_fd_pt es_mc (f := fun l => es_if (∃ i : Int, (0 ≤ i ∧ i < ((s + 1 : Nat) : Int)) ∧ L i = l) (g l) 0) hG (a := 1) (c := L s) 96 hs.1 (by omega)]
    show es_oc (es_fd es_oc 0 (fun i => g (L i)) 0 s) (g (L (0 + (s : Int)))) = _
    rw [es_Sc_fd hg s (fun i h3 h4 => h1 i h3 (by omega)) (fun i j h3 h4 h5 => h2 i j h3 h4 (by omega)), show 0 + (s : Int) = s by omega]
    congr 1
    · refine es_fd_cg 96 (fun x _ _ => ?_)
      show es_if (∃ i : Int, (0 ≤ i ∧ i < (s : Int)) ∧ L i = x) (g x) 0 = if x = L s then 0 else es_if (∃ i : Int, (0 ≤ i ∧ i < ((s + 1 : Nat) : Int)) ∧ L i = x) (g x) 0
      by_cases c : x = L s
      · rw [if_pos c, es_if_f]
        rintro ⟨i, h3, h4⟩
        have := h2 i s (by omega) (by omega) (by omega)
        omega
      · rw [if_neg c]
        refine es_if_c ⟨?_, ?_⟩
        · rintro ⟨i, h3, h4⟩
          exact ⟨i, by omega, h4⟩
        · rintro ⟨i, h3, h4⟩
          refine ⟨i, ?_, h4⟩
          have : i ≠ s := fun e => c (by rw [← h4, e])
          omega
    · exact (es_if_t ⟨s, by omega, rfl⟩).symm
end
