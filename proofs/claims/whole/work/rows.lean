section
-- ===== PART A: goes FIRST, ahead of the names: the tables' words, and 'selects' of the private methods out of them =====
/-- a private method of a class that the tables say can be made, by its rows of tables_1 -/
def lw_okq (q : MethodName × Nat) : Prop := (q.1.cls ≠ "java/lang/invoke/MethodHandle" ∧ q.1.cls ≠ "java/lang/invoke/VarHandle") ∧ Cond.instantiable q.1.cls q.2 ∈ tables_1 ∧ Cond.privateMethod q.1 ∈ tables_1 ∧ Cond.instanceMethod q.1 ∈ tables_1
theorem lw_p0 : lw_okq (⟨"SecondChances", "nightChanged", "()V"⟩, 11) := ⟨⟨by decide +kernel, by decide +kernel⟩, List.mem_of_getElem? (i := 15) (by decide +kernel), List.mem_of_getElem? (i := 328) (by decide +kernel), List.mem_of_getElem? (i := 329) (by decide +kernel)⟩
theorem lw_p1 : lw_okq (⟨"SecondChances$DeedList", "goesOn", "(I)Z"⟩, 11) := ⟨⟨by decide +kernel, by decide +kernel⟩, List.mem_of_getElem? (i := 35) (by decide +kernel), List.mem_of_getElem? (i := 336) (by decide +kernel), List.mem_of_getElem? (i := 337) (by decide +kernel)⟩
theorem lw_p2 : lw_okq (⟨"SecondChances$DeedList", "takeInto", "([II)Z"⟩, 11) := ⟨⟨by decide +kernel, by decide +kernel⟩, List.mem_of_getElem? (i := 35) (by decide +kernel), List.mem_of_getElem? (i := 343) (by decide +kernel), List.mem_of_getElem? (i := 344) (by decide +kernel)⟩
theorem lw_p3 : lw_okq (⟨"SecondChances$DeedList", "takeWho", "(I)Z"⟩, 11) := ⟨⟨by decide +kernel, by decide +kernel⟩, List.mem_of_getElem? (i := 35) (by decide +kernel), List.mem_of_getElem? (i := 350) (by decide +kernel), List.mem_of_getElem? (i := 351) (by decide +kernel)⟩
theorem lw_p4 : lw_okq (⟨"SecondChances$RuleBook", "goesOn", "(I)Z"⟩, 10) := ⟨⟨by decide +kernel, by decide +kernel⟩, List.mem_of_getElem? (i := 91) (by decide +kernel), List.mem_of_getElem? (i := 362) (by decide +kernel), List.mem_of_getElem? (i := 363) (by decide +kernel)⟩
theorem lw_p5 : lw_okq (⟨"SecondChances$RuleBook", "takeKind", "(I)Z"⟩, 10) := ⟨⟨by decide +kernel, by decide +kernel⟩, List.mem_of_getElem? (i := 91) (by decide +kernel), List.mem_of_getElem? (i := 367) (by decide +kernel), List.mem_of_getElem? (i := 368) (by decide +kernel)⟩
theorem lw_p6 : lw_okq (⟨"SecondChances$RuleBook", "takeMany", "(I)Z"⟩, 10) := ⟨⟨by decide +kernel, by decide +kernel⟩, List.mem_of_getElem? (i := 91) (by decide +kernel), List.mem_of_getElem? (i := 372) (by decide +kernel), List.mem_of_getElem? (i := 373) (by decide +kernel)⟩
theorem lw_p7 : lw_okq (⟨"SecondChances$RuleBook", "say", "(II)V"⟩, 10) := ⟨⟨by decide +kernel, by decide +kernel⟩, List.mem_of_getElem? (i := 91) (by decide +kernel), List.mem_of_getElem? (i := 376) (by decide +kernel), List.mem_of_getElem? (i := 377) (by decide +kernel)⟩
theorem lw_p8 : lw_okq (⟨"SecondChances$RuleBook", "takeMark", "(I)Z"⟩, 10) := ⟨⟨by decide +kernel, by decide +kernel⟩, List.mem_of_getElem? (i := 91) (by decide +kernel), List.mem_of_getElem? (i := 380) (by decide +kernel), List.mem_of_getElem? (i := 381) (by decide +kernel)⟩
theorem lw_p9 : lw_okq (⟨"SecondChances", "isDeed", "(I)Z"⟩, 11) := ⟨⟨by decide +kernel, by decide +kernel⟩, List.mem_of_getElem? (i := 15) (by decide +kernel), List.mem_of_getElem? (i := 404) (by decide +kernel), List.mem_of_getElem? (i := 405) (by decide +kernel)⟩
theorem lw_p10 : lw_okq (⟨"SecondChances", "reckonOffers", "()V"⟩, 11) := ⟨⟨by decide +kernel, by decide +kernel⟩, List.mem_of_getElem? (i := 15) (by decide +kernel), List.mem_of_getElem? (i := 475) (by decide +kernel), List.mem_of_getElem? (i := 476) (by decide +kernel)⟩
theorem lw_p11 : lw_okq (⟨"SecondChances$Offers", "sortByPrice", "()V"⟩, 9) := ⟨⟨by decide +kernel, by decide +kernel⟩, List.mem_of_getElem? (i := 29) (by decide +kernel), List.mem_of_getElem? (i := 483) (by decide +kernel), List.mem_of_getElem? (i := 484) (by decide +kernel)⟩
theorem lw_p12 : lw_okq (⟨"SecondChances$Offers", "applyRule", "(I)V"⟩, 9) := ⟨⟨by decide +kernel, by decide +kernel⟩, List.mem_of_getElem? (i := 29) (by decide +kernel), List.mem_of_getElem? (i := 491) (by decide +kernel), List.mem_of_getElem? (i := 492) (by decide +kernel)⟩
theorem lw_p13 : lw_okq (⟨"SecondChances$Offers", "reckonOne", "(II)V"⟩, 9) := ⟨⟨by decide +kernel, by decide +kernel⟩, List.mem_of_getElem? (i := 29) (by decide +kernel), List.mem_of_getElem? (i := 505) (by decide +kernel), List.mem_of_getElem? (i := 506) (by decide +kernel)⟩
theorem lw_p14 : lw_okq (⟨"SecondChances", "reckonPlan", "()V"⟩, 11) := ⟨⟨by decide +kernel, by decide +kernel⟩, List.mem_of_getElem? (i := 15) (by decide +kernel), List.mem_of_getElem? (i := 555) (by decide +kernel), List.mem_of_getElem? (i := 556) (by decide +kernel)⟩
theorem lw_p15 : lw_okq (⟨"SecondChances$Planner", "reckonTogether", "(I)V"⟩, 8) := ⟨⟨by decide +kernel, by decide +kernel⟩, List.mem_of_getElem? (i := 23) (by decide +kernel), List.mem_of_getElem? (i := 569) (by decide +kernel), List.mem_of_getElem? (i := 570) (by decide +kernel)⟩
def lw_privs_1 : List (MethodName × Nat) := [(⟨"SecondChances", "nightChanged", "()V"⟩, 11), (⟨"SecondChances$DeedList", "goesOn", "(I)Z"⟩, 11), (⟨"SecondChances$DeedList", "takeInto", "([II)Z"⟩, 11), (⟨"SecondChances$DeedList", "takeWho", "(I)Z"⟩, 11), (⟨"SecondChances$RuleBook", "goesOn", "(I)Z"⟩, 10), (⟨"SecondChances$RuleBook", "takeKind", "(I)Z"⟩, 10), (⟨"SecondChances$RuleBook", "takeMany", "(I)Z"⟩, 10), (⟨"SecondChances$RuleBook", "say", "(II)V"⟩, 10), (⟨"SecondChances$RuleBook", "takeMark", "(I)Z"⟩, 10), (⟨"SecondChances", "isDeed", "(I)Z"⟩, 11), (⟨"SecondChances", "reckonOffers", "()V"⟩, 11), (⟨"SecondChances$Offers", "sortByPrice", "()V"⟩, 9), (⟨"SecondChances$Offers", "applyRule", "(I)V"⟩, 9), (⟨"SecondChances$Offers", "reckonOne", "(II)V"⟩, 9), (⟨"SecondChances", "reckonPlan", "()V"⟩, 11), (⟨"SecondChances$Planner", "reckonTogether", "(I)V"⟩, 8)]
theorem lw_r1 : ∀ q ∈ lw_privs_1, lw_okq q := List.forall_mem_cons.mpr ⟨lw_p0, List.forall_mem_cons.mpr ⟨lw_p1, List.forall_mem_cons.mpr ⟨lw_p2, List.forall_mem_cons.mpr ⟨lw_p3, List.forall_mem_cons.mpr ⟨lw_p4, List.forall_mem_cons.mpr ⟨lw_p5, List.forall_mem_cons.mpr ⟨lw_p6, List.forall_mem_cons.mpr ⟨lw_p7, List.forall_mem_cons.mpr ⟨lw_p8, List.forall_mem_cons.mpr ⟨lw_p9, List.forall_mem_cons.mpr ⟨lw_p10, List.forall_mem_cons.mpr ⟨lw_p11, List.forall_mem_cons.mpr ⟨lw_p12, List.forall_mem_cons.mpr ⟨lw_p13, List.forall_mem_cons.mpr ⟨lw_p14, List.forall_mem_cons.mpr ⟨lw_p15, fun _ h => absurd h List.not_mem_nil⟩⟩⟩⟩⟩⟩⟩⟩⟩⟩⟩⟩⟩⟩⟩⟩
theorem lw_p16 : lw_okq (⟨"SecondChances$Planner", "apartFrom", "(II)I"⟩, 8) := ⟨⟨by decide +kernel, by decide +kernel⟩, List.mem_of_getElem? (i := 23) (by decide +kernel), List.mem_of_getElem? (i := 574) (by decide +kernel), List.mem_of_getElem? (i := 575) (by decide +kernel)⟩
theorem lw_p17 : lw_okq (⟨"SecondChances$Planner", "joinHour", "(I)V"⟩, 8) := ⟨⟨by decide +kernel, by decide +kernel⟩, List.mem_of_getElem? (i := 23) (by decide +kernel), List.mem_of_getElem? (i := 586) (by decide +kernel), List.mem_of_getElem? (i := 587) (by decide +kernel)⟩
theorem lw_p18 : lw_okq (⟨"SecondChances$Planner", "turnedBy", "(I)I"⟩, 8) := ⟨⟨by decide +kernel, by decide +kernel⟩, List.mem_of_getElem? (i := 23) (by decide +kernel), List.mem_of_getElem? (i := 593) (by decide +kernel), List.mem_of_getElem? (i := 594) (by decide +kernel)⟩
theorem lw_p19 : lw_okq (⟨"SecondChances$Planner", "joinWithRest", "(IJ)V"⟩, 8) := ⟨⟨by decide +kernel, by decide +kernel⟩, List.mem_of_getElem? (i := 23) (by decide +kernel), List.mem_of_getElem? (i := 598) (by decide +kernel), List.mem_of_getElem? (i := 599) (by decide +kernel)⟩
theorem lw_p20 : lw_okq (⟨"SecondChances$Planner", "choose", "()V"⟩, 8) := ⟨⟨by decide +kernel, by decide +kernel⟩, List.mem_of_getElem? (i := 23) (by decide +kernel), List.mem_of_getElem? (i := 602) (by decide +kernel), List.mem_of_getElem? (i := 603) (by decide +kernel)⟩
theorem lw_p21 : lw_okq (⟨"SecondChances$Offers", "fitsBehind", "([II)Z"⟩, 9) := ⟨⟨by decide +kernel, by decide +kernel⟩, List.mem_of_getElem? (i := 29) (by decide +kernel), List.mem_of_getElem? (i := 623) (by decide +kernel), List.mem_of_getElem? (i := 624) (by decide +kernel)⟩
theorem lw_p22 : lw_okq (⟨"SecondChances$Sightings", "meetFoes", "(I)V"⟩, 7) := ⟨⟨by decide +kernel, by decide +kernel⟩, List.mem_of_getElem? (i := 216) (by decide +kernel), List.mem_of_getElem? (i := 683) (by decide +kernel), List.mem_of_getElem? (i := 684) (by decide +kernel)⟩
theorem lw_p23 : lw_okq (⟨"SecondChances$Sightings", "searchFewest", "()I"⟩, 7) := ⟨⟨by decide +kernel, by decide +kernel⟩, List.mem_of_getElem? (i := 216) (by decide +kernel), List.mem_of_getElem? (i := 707) (by decide +kernel), List.mem_of_getElem? (i := 708) (by decide +kernel)⟩
theorem lw_p24 : lw_okq (⟨"SecondChances$Sightings", "isPeaceful", "(I)Z"⟩, 7) := ⟨⟨by decide +kernel, by decide +kernel⟩, List.mem_of_getElem? (i := 216) (by decide +kernel), List.mem_of_getElem? (i := 712) (by decide +kernel), List.mem_of_getElem? (i := 713) (by decide +kernel)⟩
theorem lw_p25 : lw_okq (⟨"SecondChances", "sparedBy", "(I)I"⟩, 11) := ⟨⟨by decide +kernel, by decide +kernel⟩, List.mem_of_getElem? (i := 15) (by decide +kernel), List.mem_of_getElem? (i := 750) (by decide +kernel), List.mem_of_getElem? (i := 751) (by decide +kernel)⟩
theorem lw_p26 : lw_okq (⟨"SecondChances", "mixDeed", "(JI)J"⟩, 11) := ⟨⟨by decide +kernel, by decide +kernel⟩, List.mem_of_getElem? (i := 15) (by decide +kernel), List.mem_of_getElem? (i := 841) (by decide +kernel), List.mem_of_getElem? (i := 842) (by decide +kernel)⟩
theorem lw_p27 : lw_okq (⟨"SecondChancesModel", "faultOf", "(I)I"⟩, 39) := ⟨⟨by decide +kernel, by decide +kernel⟩, List.mem_of_getElem? (i := 858) (by decide +kernel), List.mem_of_getElem? (i := 997) (by decide +kernel), List.mem_of_getElem? (i := 998) (by decide +kernel)⟩
theorem lw_p28 : lw_okq (⟨"SecondChancesModel", "readsDeeds", "()I"⟩, 39) := ⟨⟨by decide +kernel, by decide +kernel⟩, List.mem_of_getElem? (i := 858) (by decide +kernel), List.mem_of_getElem? (i := 1001) (by decide +kernel), List.mem_of_getElem? (i := 1002) (by decide +kernel)⟩
theorem lw_p29 : lw_okq (⟨"SecondChancesModel", "byteAt", "(II)I"⟩, 39) := ⟨⟨by decide +kernel, by decide +kernel⟩, List.mem_of_getElem? (i := 858) (by decide +kernel), List.mem_of_getElem? (i := 1005) (by decide +kernel), List.mem_of_getElem? (i := 1006) (by decide +kernel)⟩
theorem lw_p30 : lw_okq (⟨"SecondChancesModel", "readsRules", "()I"⟩, 39) := ⟨⟨by decide +kernel, by decide +kernel⟩, List.mem_of_getElem? (i := 858) (by decide +kernel), List.mem_of_getElem? (i := 1015) (by decide +kernel), List.mem_of_getElem? (i := 1016) (by decide +kernel)⟩
theorem lw_p31 : lw_okq (⟨"SecondChancesModel", "noRules", "()V"⟩, 39) := ⟨⟨by decide +kernel, by decide +kernel⟩, List.mem_of_getElem? (i := 858) (by decide +kernel), List.mem_of_getElem? (i := 1019) (by decide +kernel), List.mem_of_getElem? (i := 1020) (by decide +kernel)⟩
def lw_privs_2 : List (MethodName × Nat) := [(⟨"SecondChances$Planner", "apartFrom", "(II)I"⟩, 8), (⟨"SecondChances$Planner", "joinHour", "(I)V"⟩, 8), (⟨"SecondChances$Planner", "turnedBy", "(I)I"⟩, 8), (⟨"SecondChances$Planner", "joinWithRest", "(IJ)V"⟩, 8), (⟨"SecondChances$Planner", "choose", "()V"⟩, 8), (⟨"SecondChances$Offers", "fitsBehind", "([II)Z"⟩, 9), (⟨"SecondChances$Sightings", "meetFoes", "(I)V"⟩, 7), (⟨"SecondChances$Sightings", "searchFewest", "()I"⟩, 7), (⟨"SecondChances$Sightings", "isPeaceful", "(I)Z"⟩, 7), (⟨"SecondChances", "sparedBy", "(I)I"⟩, 11), (⟨"SecondChances", "mixDeed", "(JI)J"⟩, 11), (⟨"SecondChancesModel", "faultOf", "(I)I"⟩, 39), (⟨"SecondChancesModel", "readsDeeds", "()I"⟩, 39), (⟨"SecondChancesModel", "byteAt", "(II)I"⟩, 39), (⟨"SecondChancesModel", "readsRules", "()I"⟩, 39), (⟨"SecondChancesModel", "noRules", "()V"⟩, 39)]
theorem lw_r2 : ∀ q ∈ lw_privs_2, lw_okq q := List.forall_mem_cons.mpr ⟨lw_p16, List.forall_mem_cons.mpr ⟨lw_p17, List.forall_mem_cons.mpr ⟨lw_p18, List.forall_mem_cons.mpr ⟨lw_p19, List.forall_mem_cons.mpr ⟨lw_p20, List.forall_mem_cons.mpr ⟨lw_p21, List.forall_mem_cons.mpr ⟨lw_p22, List.forall_mem_cons.mpr ⟨lw_p23, List.forall_mem_cons.mpr ⟨lw_p24, List.forall_mem_cons.mpr ⟨lw_p25, List.forall_mem_cons.mpr ⟨lw_p26, List.forall_mem_cons.mpr ⟨lw_p27, List.forall_mem_cons.mpr ⟨lw_p28, List.forall_mem_cons.mpr ⟨lw_p29, List.forall_mem_cons.mpr ⟨lw_p30, List.forall_mem_cons.mpr ⟨lw_p31, fun _ h => absurd h List.not_mem_nil⟩⟩⟩⟩⟩⟩⟩⟩⟩⟩⟩⟩⟩⟩⟩⟩
theorem lw_p32 : lw_okq (⟨"SecondChancesModel", "isDeed", "(I)Z"⟩, 39) := ⟨⟨by decide +kernel, by decide +kernel⟩, List.mem_of_getElem? (i := 858) (by decide +kernel), List.mem_of_getElem? (i := 1027) (by decide +kernel), List.mem_of_getElem? (i := 1028) (by decide +kernel)⟩
theorem lw_p33 : lw_okq (⟨"SecondChancesModel", "reads", "()V"⟩, 39) := ⟨⟨by decide +kernel, by decide +kernel⟩, List.mem_of_getElem? (i := 858) (by decide +kernel), List.mem_of_getElem? (i := 1031) (by decide +kernel), List.mem_of_getElem? (i := 1032) (by decide +kernel)⟩
theorem lw_p34 : lw_okq (⟨"SecondChancesModel", "deedOf", "(II)I"⟩, 39) := ⟨⟨by decide +kernel, by decide +kernel⟩, List.mem_of_getElem? (i := 858) (by decide +kernel), List.mem_of_getElem? (i := 1035) (by decide +kernel), List.mem_of_getElem? (i := 1036) (by decide +kernel)⟩
theorem lw_p35 : lw_okq (⟨"SecondChancesModel", "ruleOf", "(II)I"⟩, 39) := ⟨⟨by decide +kernel, by decide +kernel⟩, List.mem_of_getElem? (i := 858) (by decide +kernel), List.mem_of_getElem? (i := 1043) (by decide +kernel), List.mem_of_getElem? (i := 1044) (by decide +kernel)⟩
theorem lw_p36 : lw_okq (⟨"SecondChancesModel", "meets", "(I)I"⟩, 39) := ⟨⟨by decide +kernel, by decide +kernel⟩, List.mem_of_getElem? (i := 858) (by decide +kernel), List.mem_of_getElem? (i := 1072) (by decide +kernel), List.mem_of_getElem? (i := 1073) (by decide +kernel)⟩
theorem lw_p37 : lw_okq (⟨"SecondChancesModel", "canOf", "(II)I"⟩, 39) := ⟨⟨by decide +kernel, by decide +kernel⟩, List.mem_of_getElem? (i := 858) (by decide +kernel), List.mem_of_getElem? (i := 1080) (by decide +kernel), List.mem_of_getElem? (i := 1081) (by decide +kernel)⟩
theorem lw_p38 : lw_okq (⟨"SecondChancesModel", "comesOf", "(II)I"⟩, 39) := ⟨⟨by decide +kernel, by decide +kernel⟩, List.mem_of_getElem? (i := 858) (by decide +kernel), List.mem_of_getElem? (i := 1084) (by decide +kernel), List.mem_of_getElem? (i := 1085) (by decide +kernel)⟩
theorem lw_p39 : lw_okq (⟨"SecondChancesModel", "isTurned", "(II)Z"⟩, 39) := ⟨⟨by decide +kernel, by decide +kernel⟩, List.mem_of_getElem? (i := 858) (by decide +kernel), List.mem_of_getElem? (i := 1088) (by decide +kernel), List.mem_of_getElem? (i := 1089) (by decide +kernel)⟩
theorem lw_p40 : lw_okq (⟨"SecondChancesModel", "needs", "(I)I"⟩, 39) := ⟨⟨by decide +kernel, by decide +kernel⟩, List.mem_of_getElem? (i := 858) (by decide +kernel), List.mem_of_getElem? (i := 1092) (by decide +kernel), List.mem_of_getElem? (i := 1093) (by decide +kernel)⟩
theorem lw_p41 : lw_okq (⟨"SecondChancesModel", "hoursOf", "(I)I"⟩, 39) := ⟨⟨by decide +kernel, by decide +kernel⟩, List.mem_of_getElem? (i := 858) (by decide +kernel), List.mem_of_getElem? (i := 1103) (by decide +kernel), List.mem_of_getElem? (i := 1104) (by decide +kernel)⟩
theorem lw_p42 : lw_okq (⟨"SecondChancesModel", "costsOf", "(II)I"⟩, 39) := ⟨⟨by decide +kernel, by decide +kernel⟩, List.mem_of_getElem? (i := 858) (by decide +kernel), List.mem_of_getElem? (i := 1115) (by decide +kernel), List.mem_of_getElem? (i := 1116) (by decide +kernel)⟩
theorem lw_p43 : lw_okq (⟨"SecondChancesModel", "pricesOf", "(I)I"⟩, 39) := ⟨⟨by decide +kernel, by decide +kernel⟩, List.mem_of_getElem? (i := 858) (by decide +kernel), List.mem_of_getElem? (i := 1119) (by decide +kernel), List.mem_of_getElem? (i := 1120) (by decide +kernel)⟩
theorem lw_p44 : lw_okq (⟨"SecondChancesModel", "laysMost", "()V"⟩, 39) := ⟨⟨by decide +kernel, by decide +kernel⟩, List.mem_of_getElem? (i := 858) (by decide +kernel), List.mem_of_getElem? (i := 1127) (by decide +kernel), List.mem_of_getElem? (i := 1128) (by decide +kernel)⟩
theorem lw_p45 : lw_okq (⟨"SecondChancesModel", "costTogether", "(II)I"⟩, 39) := ⟨⟨by decide +kernel, by decide +kernel⟩, List.mem_of_getElem? (i := 858) (by decide +kernel), List.mem_of_getElem? (i := 1131) (by decide +kernel), List.mem_of_getElem? (i := 1132) (by decide +kernel)⟩
theorem lw_p46 : lw_okq (⟨"SecondChancesModel", "bestOf", "(I)V"⟩, 39) := ⟨⟨by decide +kernel, by decide +kernel⟩, List.mem_of_getElem? (i := 858) (by decide +kernel), List.mem_of_getElem? (i := 1136) (by decide +kernel), List.mem_of_getElem? (i := 1137) (by decide +kernel)⟩
theorem lw_p47 : lw_okq (⟨"SecondChancesModel", "worthBy", "(I)I"⟩, 39) := ⟨⟨by decide +kernel, by decide +kernel⟩, List.mem_of_getElem? (i := 858) (by decide +kernel), List.mem_of_getElem? (i := 1140) (by decide +kernel), List.mem_of_getElem? (i := 1141) (by decide +kernel)⟩
def lw_privs_3 : List (MethodName × Nat) := [(⟨"SecondChancesModel", "isDeed", "(I)Z"⟩, 39), (⟨"SecondChancesModel", "reads", "()V"⟩, 39), (⟨"SecondChancesModel", "deedOf", "(II)I"⟩, 39), (⟨"SecondChancesModel", "ruleOf", "(II)I"⟩, 39), (⟨"SecondChancesModel", "meets", "(I)I"⟩, 39), (⟨"SecondChancesModel", "canOf", "(II)I"⟩, 39), (⟨"SecondChancesModel", "comesOf", "(II)I"⟩, 39), (⟨"SecondChancesModel", "isTurned", "(II)Z"⟩, 39), (⟨"SecondChancesModel", "needs", "(I)I"⟩, 39), (⟨"SecondChancesModel", "hoursOf", "(I)I"⟩, 39), (⟨"SecondChancesModel", "costsOf", "(II)I"⟩, 39), (⟨"SecondChancesModel", "pricesOf", "(I)I"⟩, 39), (⟨"SecondChancesModel", "laysMost", "()V"⟩, 39), (⟨"SecondChancesModel", "costTogether", "(II)I"⟩, 39), (⟨"SecondChancesModel", "bestOf", "(I)V"⟩, 39), (⟨"SecondChancesModel", "worthBy", "(I)I"⟩, 39)]
theorem lw_r3 : ∀ q ∈ lw_privs_3, lw_okq q := List.forall_mem_cons.mpr ⟨lw_p32, List.forall_mem_cons.mpr ⟨lw_p33, List.forall_mem_cons.mpr ⟨lw_p34, List.forall_mem_cons.mpr ⟨lw_p35, List.forall_mem_cons.mpr ⟨lw_p36, List.forall_mem_cons.mpr ⟨lw_p37, List.forall_mem_cons.mpr ⟨lw_p38, List.forall_mem_cons.mpr ⟨lw_p39, List.forall_mem_cons.mpr ⟨lw_p40, List.forall_mem_cons.mpr ⟨lw_p41, List.forall_mem_cons.mpr ⟨lw_p42, List.forall_mem_cons.mpr ⟨lw_p43, List.forall_mem_cons.mpr ⟨lw_p44, List.forall_mem_cons.mpr ⟨lw_p45, List.forall_mem_cons.mpr ⟨lw_p46, List.forall_mem_cons.mpr ⟨lw_p47, fun _ h => absurd h List.not_mem_nil⟩⟩⟩⟩⟩⟩⟩⟩⟩⟩⟩⟩⟩⟩⟩⟩
theorem lw_p48 : lw_okq (⟨"SecondChancesModel", "planOf", "(II)I"⟩, 39) := ⟨⟨by decide +kernel, by decide +kernel⟩, List.mem_of_getElem? (i := 858) (by decide +kernel), List.mem_of_getElem? (i := 1152) (by decide +kernel), List.mem_of_getElem? (i := 1153) (by decide +kernel)⟩
theorem lw_p49 : lw_okq (⟨"SecondChancesModel", "planCostOf", "(I)I"⟩, 39) := ⟨⟨by decide +kernel, by decide +kernel⟩, List.mem_of_getElem? (i := 858) (by decide +kernel), List.mem_of_getElem? (i := 1156) (by decide +kernel), List.mem_of_getElem? (i := 1157) (by decide +kernel)⟩
theorem lw_p50 : lw_okq (⟨"SecondChancesModel", "askedOf", "(II)I"⟩, 39) := ⟨⟨by decide +kernel, by decide +kernel⟩, List.mem_of_getElem? (i := 858) (by decide +kernel), List.mem_of_getElem? (i := 1164) (by decide +kernel), List.mem_of_getElem? (i := 1165) (by decide +kernel)⟩
theorem lw_p51 : lw_okq (⟨"SecondChancesModel", "crowdOf", "(I)I"⟩, 39) := ⟨⟨by decide +kernel, by decide +kernel⟩, List.mem_of_getElem? (i := 858) (by decide +kernel), List.mem_of_getElem? (i := 1172) (by decide +kernel), List.mem_of_getElem? (i := 1173) (by decide +kernel)⟩
theorem lw_p52 : lw_okq (⟨"SecondChancesModel", "likenessOf", "(II)I"⟩, 39) := ⟨⟨by decide +kernel, by decide +kernel⟩, List.mem_of_getElem? (i := 858) (by decide +kernel), List.mem_of_getElem? (i := 1180) (by decide +kernel), List.mem_of_getElem? (i := 1181) (by decide +kernel)⟩
theorem lw_p53 : lw_okq (⟨"SecondChancesModel", "oddsOf", "(III)J"⟩, 39) := ⟨⟨by decide +kernel, by decide +kernel⟩, List.mem_of_getElem? (i := 858) (by decide +kernel), List.mem_of_getElem? (i := 1188) (by decide +kernel), List.mem_of_getElem? (i := 1189) (by decide +kernel)⟩
theorem lw_p54 : lw_okq (⟨"SecondChancesModel", "isSight", "(I)Z"⟩, 39) := ⟨⟨by decide +kernel, by decide +kernel⟩, List.mem_of_getElem? (i := 858) (by decide +kernel), List.mem_of_getElem? (i := 1208) (by decide +kernel), List.mem_of_getElem? (i := 1209) (by decide +kernel)⟩
theorem lw_p55 : lw_okq (⟨"SecondChancesModel", "areFalse", "(II)Z"⟩, 39) := ⟨⟨by decide +kernel, by decide +kernel⟩, List.mem_of_getElem? (i := 858) (by decide +kernel), List.mem_of_getElem? (i := 1212) (by decide +kernel), List.mem_of_getElem? (i := 1213) (by decide +kernel)⟩
theorem lw_p56 : lw_okq (⟨"SecondChancesModel", "hatsOf", "(I)I"⟩, 39) := ⟨⟨by decide +kernel, by decide +kernel⟩, List.mem_of_getElem? (i := 858) (by decide +kernel), List.mem_of_getElem? (i := 1220) (by decide +kernel), List.mem_of_getElem? (i := 1221) (by decide +kernel)⟩
theorem lw_p57 : lw_okq (⟨"SecondChancesModel", "allDeeds", "()I"⟩, 39) := ⟨⟨by decide +kernel, by decide +kernel⟩, List.mem_of_getElem? (i := 858) (by decide +kernel), List.mem_of_getElem? (i := 1236) (by decide +kernel), List.mem_of_getElem? (i := 1237) (by decide +kernel)⟩
theorem lw_p58 : lw_okq (⟨"SecondChancesModel", "sparedOf", "(I)I"⟩, 39) := ⟨⟨by decide +kernel, by decide +kernel⟩, List.mem_of_getElem? (i := 858) (by decide +kernel), List.mem_of_getElem? (i := 1240) (by decide +kernel), List.mem_of_getElem? (i := 1241) (by decide +kernel)⟩
theorem lw_p59 : lw_okq (⟨"SecondChancesModel", "bestNow", "()I"⟩, 39) := ⟨⟨by decide +kernel, by decide +kernel⟩, List.mem_of_getElem? (i := 858) (by decide +kernel), List.mem_of_getElem? (i := 1248) (by decide +kernel), List.mem_of_getElem? (i := 1249) (by decide +kernel)⟩
theorem lw_p60 : lw_okq (⟨"SecondChancesModel", "regretsOf", "(II)J"⟩, 39) := ⟨⟨by decide +kernel, by decide +kernel⟩, List.mem_of_getElem? (i := 858) (by decide +kernel), List.mem_of_getElem? (i := 1256) (by decide +kernel), List.mem_of_getElem? (i := 1257) (by decide +kernel)⟩
theorem lw_p61 : lw_okq (⟨"SecondChancesModel", "lacks", "(III)I"⟩, 39) := ⟨⟨by decide +kernel, by decide +kernel⟩, List.mem_of_getElem? (i := 858) (by decide +kernel), List.mem_of_getElem? (i := 1275) (by decide +kernel), List.mem_of_getElem? (i := 1276) (by decide +kernel)⟩
theorem lw_p62 : lw_okq (⟨"SecondChancesModel", "keep", "(III)V"⟩, 39) := ⟨⟨by decide +kernel, by decide +kernel⟩, List.mem_of_getElem? (i := 858) (by decide +kernel), List.mem_of_getElem? (i := 1279) (by decide +kernel), List.mem_of_getElem? (i := 1280) (by decide +kernel)⟩
theorem lw_p63 : lw_okq (⟨"SecondChancesModel", "sumOf", "(I)I"⟩, 39) := ⟨⟨by decide +kernel, by decide +kernel⟩, List.mem_of_getElem? (i := 858) (by decide +kernel), List.mem_of_getElem? (i := 1300) (by decide +kernel), List.mem_of_getElem? (i := 1301) (by decide +kernel)⟩
def lw_privs_4 : List (MethodName × Nat) := [(⟨"SecondChancesModel", "planOf", "(II)I"⟩, 39), (⟨"SecondChancesModel", "planCostOf", "(I)I"⟩, 39), (⟨"SecondChancesModel", "askedOf", "(II)I"⟩, 39), (⟨"SecondChancesModel", "crowdOf", "(I)I"⟩, 39), (⟨"SecondChancesModel", "likenessOf", "(II)I"⟩, 39), (⟨"SecondChancesModel", "oddsOf", "(III)J"⟩, 39), (⟨"SecondChancesModel", "isSight", "(I)Z"⟩, 39), (⟨"SecondChancesModel", "areFalse", "(II)Z"⟩, 39), (⟨"SecondChancesModel", "hatsOf", "(I)I"⟩, 39), (⟨"SecondChancesModel", "allDeeds", "()I"⟩, 39), (⟨"SecondChancesModel", "sparedOf", "(I)I"⟩, 39), (⟨"SecondChancesModel", "bestNow", "()I"⟩, 39), (⟨"SecondChancesModel", "regretsOf", "(II)J"⟩, 39), (⟨"SecondChancesModel", "lacks", "(III)I"⟩, 39), (⟨"SecondChancesModel", "keep", "(III)V"⟩, 39), (⟨"SecondChancesModel", "sumOf", "(I)I"⟩, 39)]
theorem lw_r4 : ∀ q ∈ lw_privs_4, lw_okq q := List.forall_mem_cons.mpr ⟨lw_p48, List.forall_mem_cons.mpr ⟨lw_p49, List.forall_mem_cons.mpr ⟨lw_p50, List.forall_mem_cons.mpr ⟨lw_p51, List.forall_mem_cons.mpr ⟨lw_p52, List.forall_mem_cons.mpr ⟨lw_p53, List.forall_mem_cons.mpr ⟨lw_p54, List.forall_mem_cons.mpr ⟨lw_p55, List.forall_mem_cons.mpr ⟨lw_p56, List.forall_mem_cons.mpr ⟨lw_p57, List.forall_mem_cons.mpr ⟨lw_p58, List.forall_mem_cons.mpr ⟨lw_p59, List.forall_mem_cons.mpr ⟨lw_p60, List.forall_mem_cons.mpr ⟨lw_p61, List.forall_mem_cons.mpr ⟨lw_p62, List.forall_mem_cons.mpr ⟨lw_p63, fun _ h => absurd h List.not_mem_nil⟩⟩⟩⟩⟩⟩⟩⟩⟩⟩⟩⟩⟩⟩⟩⟩
def lw_privs : List (MethodName × Nat) := lw_privs_1 ++ (lw_privs_2 ++ (lw_privs_3 ++ (lw_privs_4)))
def lw_tbl : List Cond := k2_sels lw_privs ++ tables_1
theorem lw_privs_ok : ∀ q ∈ lw_privs, lw_okq q := by
  show ∀ q ∈ lw_privs_1 ++ (lw_privs_2 ++ (lw_privs_3 ++ (lw_privs_4))), lw_okq q
  exact List.forall_mem_append.mpr ⟨lw_r1, List.forall_mem_append.mpr ⟨lw_r2, List.forall_mem_append.mpr ⟨lw_r3, lw_r4⟩⟩⟩
end
section
def RX0 : String := "SecondChances$DeedList"
def TX0 : u_T := fun k => match k with
  | 0 => ("SecondChances$DeedList", "kind", "[I", true)
  | 1 => ("SecondChances$DeedList", "place", "[I", true)
  | 2 => ("SecondChances$DeedList", "wet", "[I", true)
  | 3 => ("SecondChances$DeedList", "worth", "[I", true)
  | 4 => ("SecondChances$DeedList", "there", "[I", true)
  | 5 => ("SecondChances$DeedList", "bytes", "I", false)
  | 6 => ("SecondChances$DeedList", "size", "I", false)
  | 7 => ("SecondChances$DeedList", "flaw", "I", false)
  | 8 => ("SecondChances$DeedList", "now", "I", false)
  | 9 => ("SecondChances$DeedList", "step", "I", false)
  | _ => ("SecondChances$DeedList", "broken", "I", false)
def tyX0 : Nat → FieldType := fun k => match k with
  | 0 => .array .int
  | 1 => .array .int
  | 2 => .array .int
  | 3 => .array .int
  | 4 => .array .int
  | 5 => .int
  | 6 => .int
  | 7 => .int
  | 8 => .int
  | 9 => .int
  | _ => .int
theorem nmX0 : ∀ a, a < 11 → ∀ b, b < 11 → a ≠ b → (TX0 a).2.1 ≠ (TX0 b).2.1 := by decide +kernel
theorem tyX0_ok : ∀ k, k < 11 → parseFieldDescriptor (TX0 k).2.2.1 = some (tyX0 k) := by decide +kernel
abbrev cX0_init : ByteArray := prog_2_method_1_code
def yX0_init : MethodName := ⟨RX0, "<init>", "()V"⟩
abbrev cX0_take : ByteArray := prog_2_method_2_code
def yX0_take : MethodName := ⟨RX0, "take", "(I)I"⟩
abbrev cX0_clear : ByteArray := prog_2_method_3_code
def yX0_clear : MethodName := ⟨RX0, "clear", "()I"⟩
abbrev cX0_goesOn : ByteArray := prog_2_method_4_code
def yX0_goesOn : MethodName := ⟨RX0, "goesOn", "(I)Z"⟩
abbrev cX0_takeInto : ByteArray := prog_2_method_5_code
def yX0_takeInto : MethodName := ⟨RX0, "takeInto", "([II)Z"⟩
abbrev cX0_takeWho : ByteArray := prog_2_method_6_code
def yX0_takeWho : MethodName := ⟨RX0, "takeWho", "(I)Z"⟩
abbrev cX0_allBits : ByteArray := prog_2_method_7_code
def yX0_allBits : MethodName := ⟨RX0, "allBits", "()I"⟩
abbrev cX0_worthOf : ByteArray := prog_2_method_8_code
def yX0_worthOf : MethodName := ⟨RX0, "worthOf", "(I)I"⟩
def RX1 : String := "SecondChances$Night"
def TX1 : u_T := fun k => match k with
  | 0 => ("SecondChances$Night", "traits", "[I", true)
  | 1 => ("SecondChances$Night", "sky", "[I", true)
  | _ => ("SecondChances$Night", "setting", "[I", true)
def tyX1 : Nat → FieldType := fun k => match k with
  | 0 => .array .int
  | 1 => .array .int
  | _ => .array .int
theorem nmX1 : ∀ a, a < 3 → ∀ b, b < 3 → a ≠ b → (TX1 a).2.1 ≠ (TX1 b).2.1 := by decide +kernel
theorem tyX1_ok : ∀ k, k < 3 → parseFieldDescriptor (TX1 k).2.2.1 = some (tyX1 k) := by decide +kernel
abbrev cX1_init : ByteArray := prog_3_method_1_code
def yX1_init : MethodName := ⟨RX1, "<init>", "()V"⟩
abbrev cX1_trait : ByteArray := prog_3_method_2_code
def yX1_trait : MethodName := ⟨RX1, "trait", "(II)I"⟩
abbrev cX1_changeTrait : ByteArray := prog_3_method_3_code
def yX1_changeTrait : MethodName := ⟨RX1, "changeTrait", "(III)I"⟩
abbrev cX1_changeSky : ByteArray := prog_3_method_4_code
def yX1_changeSky : MethodName := ⟨RX1, "changeSky", "(II)I"⟩
abbrev cX1_changeSetting : ByteArray := prog_3_method_5_code
def yX1_changeSetting : MethodName := ⟨RX1, "changeSetting", "(II)I"⟩
abbrev cX1_isHere : ByteArray := prog_3_method_6_code
def yX1_isHere : MethodName := ⟨RX1, "isHere", "(II)Z"⟩
abbrev cX1_rainyHours : ByteArray := prog_3_method_7_code
def yX1_rainyHours : MethodName := ⟨RX1, "rainyHours", "()I"⟩
def RX2 : String := "SecondChances$Offers"
def TX2 : u_T := fun k => match k with
  | 0 => ("SecondChances$Offers", "deeds", "LSecondChances$DeedList;", true)
  | 1 => ("SecondChances$Offers", "rules", "LSecondChances$RuleBook;", true)
  | 2 => ("SecondChances$Offers", "night", "LSecondChances$Night;", true)
  | 3 => ("SecondChances$Offers", "need", "[I", true)
  | 4 => ("SecondChances$Offers", "asksWeather", "[Z", true)
  | 5 => ("SecondChances$Offers", "asksPlace", "[Z", true)
  | 6 => ("SecondChances$Offers", "who", "[I", true)
  | 7 => ("SecondChances$Offers", "price", "[I", true)
  | _ => ("SecondChances$Offers", "byPrice", "[I", true)
def tyX2 : Nat → FieldType := fun k => match k with
  | 0 => .object "SecondChances$DeedList"
  | 1 => .object "SecondChances$RuleBook"
  | 2 => .object "SecondChances$Night"
  | 3 => .array .int
  | 4 => .array .boolean
  | 5 => .array .boolean
  | 6 => .array .int
  | 7 => .array .int
  | _ => .array .int
theorem nmX2 : ∀ a, a < 9 → ∀ b, b < 9 → a ≠ b → (TX2 a).2.1 ≠ (TX2 b).2.1 := by decide +kernel
theorem tyX2_ok : ∀ k, k < 9 → parseFieldDescriptor (TX2 k).2.2.1 = some (tyX2 k) := by decide +kernel
abbrev cX2_init : ByteArray := prog_4_method_1_code
def yX2_init : MethodName := ⟨RX2, "<init>", "()V"⟩
abbrev cX2_reckon : ByteArray := prog_4_method_2_code
def yX2_reckon : MethodName := ⟨RX2, "reckon", "()V"⟩
abbrev cX2_applyRule : ByteArray := prog_4_method_3_code
def yX2_applyRule : MethodName := ⟨RX2, "applyRule", "(I)V"⟩
abbrev cX2_sortByPrice : ByteArray := prog_4_method_4_code
def yX2_sortByPrice : MethodName := ⟨RX2, "sortByPrice", "()V"⟩
abbrev cX2_reckonOne : ByteArray := prog_4_method_5_code
def yX2_reckonOne : MethodName := ⟨RX2, "reckonOne", "(II)V"⟩
abbrev cX2_isOpen : ByteArray := prog_4_method_6_code
def yX2_isOpen : MethodName := ⟨RX2, "isOpen", "(II)Z"⟩
abbrev cX2_whoComes : ByteArray := prog_4_method_7_code
def yX2_whoComes : MethodName := ⟨RX2, "whoComes", "(II)I"⟩
abbrev cX2_priceOfPeople : ByteArray := prog_4_method_8_code
def yX2_priceOfPeople : MethodName := ⟨RX2, "priceOfPeople", "(II)I"⟩
abbrev cX2_fullPrice : ByteArray := prog_4_method_9_code
def yX2_fullPrice : MethodName := ⟨RX2, "fullPrice", "(II)I"⟩
abbrev cX2_openHours : ByteArray := prog_4_method_10_code
def yX2_openHours : MethodName := ⟨RX2, "openHours", "(I)I"⟩
abbrev cX2_hopefulDeeds : ByteArray := prog_4_method_11_code
def yX2_hopefulDeeds : MethodName := ⟨RX2, "hopefulDeeds", "()I"⟩
abbrev cX2_timesAsked : ByteArray := prog_4_method_12_code
def yX2_timesAsked : MethodName := ⟨RX2, "timesAsked", "(II)I"⟩
abbrev cX2_tenths : ByteArray := prog_4_method_13_code
def yX2_tenths : MethodName := ⟨RX2, "tenths", "(II)I"⟩
abbrev cX2_isTurned : ByteArray := prog_4_method_14_code
def yX2_isTurned : MethodName := ⟨RX2, "isTurned", "(II)Z"⟩
abbrev cX2_areApart : ByteArray := prog_4_method_15_code
def yX2_areApart : MethodName := ⟨RX2, "areApart", "(III)Z"⟩
abbrev cX2_isPlan : ByteArray := prog_4_method_16_code
def yX2_isPlan : MethodName := ⟨RX2, "isPlan", "([I)Z"⟩
abbrev cX2_fitsBehind : ByteArray := prog_4_method_17_code
def yX2_fitsBehind : MethodName := ⟨RX2, "fitsBehind", "([II)Z"⟩
abbrev cX2_worthOfPlan : ByteArray := prog_4_method_18_code
def yX2_worthOfPlan : MethodName := ⟨RX2, "worthOfPlan", "([I)I"⟩
abbrev cX2_costOfPlan : ByteArray := prog_4_method_19_code
def yX2_costOfPlan : MethodName := ⟨RX2, "costOfPlan", "([I)I"⟩
def RX3 : String := "SecondChances$Pairs"
def TX3 : u_T := fun k => match k with
  | 0 => ("SecondChances$Pairs", "size", "I", false)
  | 1 => ("SecondChances$Pairs", "first", "[I", true)
  | _ => ("SecondChances$Pairs", "then", "[I", true)
def tyX3 : Nat → FieldType := fun k => match k with
  | 0 => .int
  | 1 => .array .int
  | _ => .array .int
theorem nmX3 : ∀ a, a < 3 → ∀ b, b < 3 → a ≠ b → (TX3 a).2.1 ≠ (TX3 b).2.1 := by decide +kernel
theorem tyX3_ok : ∀ k, k < 3 → parseFieldDescriptor (TX3 k).2.2.1 = some (tyX3 k) := by decide +kernel
abbrev cX3_init : ByteArray := prog_5_method_1_code
def yX3_init : MethodName := ⟨RX3, "<init>", "()V"⟩
abbrev cX3_isFull : ByteArray := prog_5_method_2_code
def yX3_isFull : MethodName := ⟨RX3, "isFull", "()Z"⟩
abbrev cX3_add : ByteArray := prog_5_method_3_code
def yX3_add : MethodName := ⟨RX3, "add", "(II)I"⟩
abbrev cX3_clear : ByteArray := prog_5_method_4_code
def yX3_clear : MethodName := ⟨RX3, "clear", "()I"⟩
abbrev cX3_reached : ByteArray := prog_5_method_5_code
def yX3_reached : MethodName := ⟨RX3, "reached", "(II)I"⟩
def RX4 : String := "SecondChances$Planner"
def TX4 : u_T := fun k => match k with
  | 0 => ("SecondChances$Planner", "row", "[I", true)
  | 1 => ("SecondChances$Planner", "worth", "I", false)
  | 2 => ("SecondChances$Planner", "cost", "I", false)
  | 3 => ("SecondChances$Planner", "offers", "LSecondChances$Offers;", true)
  | 4 => ("SecondChances$Planner", "least", "[J", true)
  | 5 => ("SecondChances$Planner", "before", "[J", true)
  | 6 => ("SecondChances$Planner", "together", "[J", true)
  | _ => ("SecondChances$Planner", "all", "I", false)
def tyX4 : Nat → FieldType := fun k => match k with
  | 0 => .array .int
  | 1 => .int
  | 2 => .int
  | 3 => .object "SecondChances$Offers"
  | 4 => .array .long
  | 5 => .array .long
  | 6 => .array .long
  | _ => .int
theorem nmX4 : ∀ a, a < 8 → ∀ b, b < 8 → a ≠ b → (TX4 a).2.1 ≠ (TX4 b).2.1 := by decide +kernel
theorem tyX4_ok : ∀ k, k < 8 → parseFieldDescriptor (TX4 k).2.2.1 = some (tyX4 k) := by decide +kernel
abbrev cX4_init : ByteArray := prog_6_method_1_code
def yX4_init : MethodName := ⟨RX4, "<init>", "()V"⟩
abbrev cX4_reckon : ByteArray := prog_6_method_2_code
def yX4_reckon : MethodName := ⟨RX4, "reckon", "()V"⟩
abbrev cX4_joinHour : ByteArray := prog_6_method_3_code
def yX4_joinHour : MethodName := ⟨RX4, "joinHour", "(I)V"⟩
abbrev cX4_turnedBy : ByteArray := prog_6_method_4_code
def yX4_turnedBy : MethodName := ⟨RX4, "turnedBy", "(I)I"⟩
abbrev cX4_reckonTogether : ByteArray := prog_6_method_5_code
def yX4_reckonTogether : MethodName := ⟨RX4, "reckonTogether", "(I)V"⟩
abbrev cX4_apartFrom : ByteArray := prog_6_method_6_code
def yX4_apartFrom : MethodName := ⟨RX4, "apartFrom", "(II)I"⟩
abbrev cX4_joinWithRest : ByteArray := prog_6_method_7_code
def yX4_joinWithRest : MethodName := ⟨RX4, "joinWithRest", "(IJ)V"⟩
abbrev cX4_choose : ByteArray := prog_6_method_8_code
def yX4_choose : MethodName := ⟨RX4, "choose", "()V"⟩
def RX5 : String := "SecondChances$RuleBook"
def TX5 : u_T := fun k => match k with
  | 0 => ("SecondChances$RuleBook", "bytes", "I", false)
  | 1 => ("SecondChances$RuleBook", "parts", "I", false)
  | 2 => ("SecondChances$RuleBook", "flaw", "I", false)
  | 3 => ("SecondChances$RuleBook", "need", "[I", true)
  | 4 => ("SecondChances$RuleBook", "weather", "[Z", true)
  | 5 => ("SecondChances$RuleBook", "place", "[Z", true)
  | 6 => ("SecondChances$RuleBook", "begun", "I", false)
  | 7 => ("SecondChances$RuleBook", "kind", "I", false)
  | 8 => ("SecondChances$RuleBook", "step", "I", false)
  | _ => ("SecondChances$RuleBook", "broken", "I", false)
def tyX5 : Nat → FieldType := fun k => match k with
  | 0 => .int
  | 1 => .int
  | 2 => .int
  | 3 => .array .int
  | 4 => .array .boolean
  | 5 => .array .boolean
  | 6 => .int
  | 7 => .int
  | 8 => .int
  | _ => .int
theorem nmX5 : ∀ a, a < 10 → ∀ b, b < 10 → a ≠ b → (TX5 a).2.1 ≠ (TX5 b).2.1 := by decide +kernel
theorem tyX5_ok : ∀ k, k < 10 → parseFieldDescriptor (TX5 k).2.2.1 = some (tyX5 k) := by decide +kernel
abbrev cX5_init : ByteArray := prog_7_method_1_code
def yX5_init : MethodName := ⟨RX5, "<init>", "()V"⟩
abbrev cX5_take : ByteArray := prog_7_method_2_code
def yX5_take : MethodName := ⟨RX5, "take", "(I)I"⟩
abbrev cX5_clear : ByteArray := prog_7_method_3_code
def yX5_clear : MethodName := ⟨RX5, "clear", "()I"⟩
abbrev cX5_goesOn : ByteArray := prog_7_method_4_code
def yX5_goesOn : MethodName := ⟨RX5, "goesOn", "(I)Z"⟩
abbrev cX5_takeKind : ByteArray := prog_7_method_5_code
def yX5_takeKind : MethodName := ⟨RX5, "takeKind", "(I)Z"⟩
abbrev cX5_takeMany : ByteArray := prog_7_method_6_code
def yX5_takeMany : MethodName := ⟨RX5, "takeMany", "(I)Z"⟩
abbrev cX5_takeMark : ByteArray := prog_7_method_7_code
def yX5_takeMark : MethodName := ⟨RX5, "takeMark", "(I)Z"⟩
abbrev cX5_say : ByteArray := prog_7_method_8_code
def yX5_say : MethodName := ⟨RX5, "say", "(II)V"⟩
abbrev cX5_needOf : ByteArray := prog_7_method_9_code
def yX5_needOf : MethodName := ⟨RX5, "needOf", "(I)I"⟩
abbrev cX5_asksWeather : ByteArray := prog_7_method_10_code
def yX5_asksWeather : MethodName := ⟨RX5, "asksWeather", "(I)Z"⟩
abbrev cX5_asksPlace : ByteArray := prog_7_method_11_code
def yX5_asksPlace : MethodName := ⟨RX5, "asksPlace", "(I)Z"⟩
def RX6 : String := "SecondChances$Sheets"
def TX6 : u_T := fun k => match k with
  | 0 => ("SecondChances$Sheets", "rows", "[[I", true)
  | 1 => ("SecondChances$Sheets", "form", "[I", true)
  | 2 => ("SecondChances$Sheets", "size", "[I", true)
  | _ => ("SecondChances$Sheets", "latestFinding", "I", false)
def tyX6 : Nat → FieldType := fun k => match k with
  | 0 => .array (.array .int)
  | 1 => .array .int
  | 2 => .array .int
  | _ => .int
theorem nmX6 : ∀ a, a < 4 → ∀ b, b < 4 → a ≠ b → (TX6 a).2.1 ≠ (TX6 b).2.1 := by decide +kernel
theorem tyX6_ok : ∀ k, k < 4 → parseFieldDescriptor (TX6 k).2.2.1 = some (tyX6 k) := by decide +kernel
abbrev cX6_init : ByteArray := prog_8_method_1_code
def yX6_init : MethodName := ⟨RX6, "<init>", "()V"⟩
abbrev cX6_isNumber : ByteArray := prog_8_method_2_code
def yX6_isNumber : MethodName := ⟨RX6, "isNumber", "(I)Z"⟩
abbrev cX6_isForm : ByteArray := prog_8_method_3_code
def yX6_isForm : MethodName := ⟨RX6, "isForm", "(I)Z"⟩
abbrev cX6_isLost : ByteArray := prog_8_method_4_code
def yX6_isLost : MethodName := ⟨RX6, "isLost", "(I)Z"⟩
abbrev cX6_tell : ByteArray := prog_8_method_5_code
def yX6_tell : MethodName := ⟨RX6, "tell", "(I)I"⟩
abbrev cX6_renew : ByteArray := prog_8_method_6_code
def yX6_renew : MethodName := ⟨RX6, "renew", "(III)I"⟩
abbrev cX6_drop : ByteArray := prog_8_method_7_code
def yX6_drop : MethodName := ⟨RX6, "drop", "(I)I"⟩
abbrev cX6_findingAt : ByteArray := prog_8_method_8_code
def yX6_findingAt : MethodName := ⟨RX6, "findingAt", "(III)I"⟩
abbrev cX6_hasSpan : ByteArray := prog_8_method_9_code
def yX6_hasSpan : MethodName := ⟨RX6, "hasSpan", "(III)Z"⟩
abbrev cX6_store : ByteArray := prog_8_method_10_code
def yX6_store : MethodName := ⟨RX6, "store", "(III)V"⟩
def RX7 : String := "SecondChances$Sightings"
def TX7 : u_T := fun k => match k with
  | 0 => ("SecondChances$Sightings", "size", "I", false)
  | 1 => ("SecondChances$Sightings", "person", "[I", true)
  | 2 => ("SecondChances$Sightings", "place", "[I", true)
  | 3 => ("SecondChances$Sightings", "hour", "[I", true)
  | 4 => ("SecondChances$Sightings", "foes", "[I", true)
  | 5 => ("SecondChances$Sightings", "hatBits", "I", false)
  | _ => ("SecondChances$Sightings", "stale", "Z", false)
def tyX7 : Nat → FieldType := fun k => match k with
  | 0 => .int
  | 1 => .array .int
  | 2 => .array .int
  | 3 => .array .int
  | 4 => .array .int
  | 5 => .int
  | _ => .boolean
theorem nmX7 : ∀ a, a < 7 → ∀ b, b < 7 → a ≠ b → (TX7 a).2.1 ≠ (TX7 b).2.1 := by decide +kernel
theorem tyX7_ok : ∀ k, k < 7 → parseFieldDescriptor (TX7 k).2.2.1 = some (tyX7 k) := by decide +kernel
abbrev cX7_init : ByteArray := prog_9_method_1_code
def yX7_init : MethodName := ⟨RX7, "<init>", "()V"⟩
abbrev cX7_isFull : ByteArray := prog_9_method_2_code
def yX7_isFull : MethodName := ⟨RX7, "isFull", "()Z"⟩
abbrev cX7_add : ByteArray := prog_9_method_3_code
def yX7_add : MethodName := ⟨RX7, "add", "(III)I"⟩
abbrev cX7_meetFoes : ByteArray := prog_9_method_4_code
def yX7_meetFoes : MethodName := ⟨RX7, "meetFoes", "(I)V"⟩
abbrev cX7_clear : ByteArray := prog_9_method_5_code
def yX7_clear : MethodName := ⟨RX7, "clear", "()I"⟩
abbrev cX7_clash : ByteArray := prog_9_method_6_code
def yX7_clash : MethodName := ⟨RX7, "clash", "(II)Z"⟩
abbrev cX7_fewestFalse : ByteArray := prog_9_method_7_code
def yX7_fewestFalse : MethodName := ⟨RX7, "fewestFalse", "()I"⟩
abbrev cX7_searchFewest : ByteArray := prog_9_method_8_code
def yX7_searchFewest : MethodName := ⟨RX7, "searchFewest", "()I"⟩
abbrev cX7_isPeaceful : ByteArray := prog_9_method_9_code
def yX7_isPeaceful : MethodName := ⟨RX7, "isPeaceful", "(I)Z"⟩
def RX8 : String := "SecondChances"
def TX8 : u_T := fun k => match k with
  | 0 => ("SecondChances", "planner", "LSecondChances$Planner;", true)
  | 1 => ("SecondChances", "offers", "LSecondChances$Offers;", true)
  | 2 => ("SecondChances", "deedList", "LSecondChances$DeedList;", true)
  | 3 => ("SecondChances", "ruleBook", "LSecondChances$RuleBook;", true)
  | 4 => ("SecondChances", "night", "LSecondChances$Night;", true)
  | 5 => ("SecondChances", "sightings", "LSecondChances$Sightings;", true)
  | 6 => ("SecondChances", "pairs", "LSecondChances$Pairs;", true)
  | 7 => ("SecondChances", "sheets", "LSecondChances$Sheets;", true)
  | 8 => ("SecondChances", "draft", "[I", true)
  | 9 => ("SecondChances", "offersStale", "Z", false)
  | _ => ("SecondChances", "planStale", "Z", false)
def tyX8 : Nat → FieldType := fun k => match k with
  | 0 => .object "SecondChances$Planner"
  | 1 => .object "SecondChances$Offers"
  | 2 => .object "SecondChances$DeedList"
  | 3 => .object "SecondChances$RuleBook"
  | 4 => .object "SecondChances$Night"
  | 5 => .object "SecondChances$Sightings"
  | 6 => .object "SecondChances$Pairs"
  | 7 => .object "SecondChances$Sheets"
  | 8 => .array .int
  | 9 => .boolean
  | _ => .boolean
theorem nmX8 : ∀ a, a < 11 → ∀ b, b < 11 → a ≠ b → (TX8 a).2.1 ≠ (TX8 b).2.1 := by decide +kernel
theorem tyX8_ok : ∀ k, k < 11 → parseFieldDescriptor (TX8 k).2.2.1 = some (tyX8 k) := by decide +kernel
abbrev cX8_init : ByteArray := prog_1_method_1_code
def yX8_init : MethodName := ⟨RX8, "<init>", "()V"⟩
abbrev cX8_type : ByteArray := prog_1_method_2_code
def yX8_type : MethodName := ⟨RX8, "type", "(II)I"⟩
abbrev cX8_wipe : ByteArray := prog_1_method_3_code
def yX8_wipe : MethodName := ⟨RX8, "wipe", "(I)I"⟩
abbrev cX8_fault : ByteArray := prog_1_method_4_code
def yX8_fault : MethodName := ⟨RX8, "fault", "(I)I"⟩
abbrev cX8_deed : ByteArray := prog_1_method_5_code
def yX8_deed : MethodName := ⟨RX8, "deed", "(II)I"⟩
abbrev cX8_rule : ByteArray := prog_1_method_6_code
def yX8_rule : MethodName := ⟨RX8, "rule", "(II)I"⟩
abbrev cX8_person : ByteArray := prog_1_method_7_code
def yX8_person : MethodName := ⟨RX8, "person", "(III)I"⟩
abbrev cX8_weather : ByteArray := prog_1_method_8_code
def yX8_weather : MethodName := ⟨RX8, "weather", "(II)I"⟩
abbrev cX8_set : ByteArray := prog_1_method_9_code
def yX8_set : MethodName := ⟨RX8, "set", "(II)I"⟩
abbrev cX8_read : ByteArray := prog_1_method_10_code
def yX8_read : MethodName := ⟨RX8, "read", "(I)I"⟩
abbrev cX8_can : ByteArray := prog_1_method_11_code
def yX8_can : MethodName := ⟨RX8, "can", "(II)I"⟩
abbrev cX8_hours : ByteArray := prog_1_method_12_code
def yX8_hours : MethodName := ⟨RX8, "hours", "(I)I"⟩
abbrev cX8_comes : ByteArray := prog_1_method_13_code
def yX8_comes : MethodName := ⟨RX8, "comes", "(II)I"⟩
abbrev cX8_costs : ByteArray := prog_1_method_14_code
def yX8_costs : MethodName := ⟨RX8, "costs", "(II)I"⟩
abbrev cX8_most : ByteArray := prog_1_method_15_code
def yX8_most : MethodName := ⟨RX8, "most", "(I)I"⟩
abbrev cX8_when : ByteArray := prog_1_method_16_code
def yX8_when : MethodName := ⟨RX8, "when", "(I)I"⟩
abbrev cX8_plan : ByteArray := prog_1_method_17_code
def yX8_plan : MethodName := ⟨RX8, "plan", "(II)I"⟩
abbrev cX8_asked : ByteArray := prog_1_method_18_code
def yX8_asked : MethodName := ⟨RX8, "asked", "(II)I"⟩
abbrev cX8_crowd : ByteArray := prog_1_method_19_code
def yX8_crowd : MethodName := ⟨RX8, "crowd", "(I)I"⟩
abbrev cX8_likeness : ByteArray := prog_1_method_20_code
def yX8_likeness : MethodName := ⟨RX8, "likeness", "(II)I"⟩
abbrev cX8_odds : ByteArray := prog_1_method_21_code
def yX8_odds : MethodName := ⟨RX8, "odds", "(III)J"⟩
abbrev cX8_seen : ByteArray := prog_1_method_22_code
def yX8_seen : MethodName := ⟨RX8, "seen", "(III)I"⟩
abbrev cX8_isFalse : ByteArray := prog_1_method_23_code
def yX8_isFalse : MethodName := ⟨RX8, "isFalse", "(II)I"⟩
abbrev cX8_hats : ByteArray := prog_1_method_24_code
def yX8_hats : MethodName := ⟨RX8, "hats", "(I)I"⟩
abbrev cX8_after : ByteArray := prog_1_method_25_code
def yX8_after : MethodName := ⟨RX8, "after", "(II)I"⟩
abbrev cX8_forget : ByteArray := prog_1_method_26_code
def yX8_forget : MethodName := ⟨RX8, "forget", "(I)I"⟩
abbrev cX8_spared : ByteArray := prog_1_method_27_code
def yX8_spared : MethodName := ⟨RX8, "spared", "(I)I"⟩
abbrev cX8_best : ByteArray := prog_1_method_28_code
def yX8_best : MethodName := ⟨RX8, "best", "()I"⟩
abbrev cX8_regrets : ByteArray := prog_1_method_29_code
def yX8_regrets : MethodName := ⟨RX8, "regrets", "(II)J"⟩
abbrev cX8_sheet : ByteArray := prog_1_method_30_code
def yX8_sheet : MethodName := ⟨RX8, "sheet", "(III)I"⟩
abbrev cX8_lose : ByteArray := prog_1_method_31_code
def yX8_lose : MethodName := ⟨RX8, "lose", "(I)I"⟩
abbrev cX8_put : ByteArray := prog_1_method_32_code
def yX8_put : MethodName := ⟨RX8, "put", "(IIII)I"⟩
abbrev cX8_get : ByteArray := prog_1_method_33_code
def yX8_get : MethodName := ⟨RX8, "get", "(III)I"⟩
abbrev cX8_copy : ByteArray := prog_1_method_34_code
def yX8_copy : MethodName := ⟨RX8, "copy", "(IIIII)I"⟩
abbrev cX8_write : ByteArray := prog_1_method_35_code
def yX8_write : MethodName := ⟨RX8, "write", "(I)I"⟩
abbrev cX8_count : ByteArray := prog_1_method_36_code
def yX8_count : MethodName := ⟨RX8, "count", "(I)I"⟩
abbrev cX8_digest : ByteArray := prog_1_method_37_code
def yX8_digest : MethodName := ⟨RX8, "digest", "()J"⟩
abbrev cX8_mixDeed : ByteArray := prog_1_method_38_code
def yX8_mixDeed : MethodName := ⟨RX8, "mixDeed", "(JI)J"⟩
abbrev cX8_mix : ByteArray := prog_1_method_39_code
def yX8_mix : MethodName := ⟨RX8, "mix", "(JJ)J"⟩
abbrev cX8_within : ByteArray := prog_1_method_40_code
def yX8_within : MethodName := ⟨RX8, "within", "(II)Z"⟩
abbrev cX8_hasBit : ByteArray := prog_1_method_41_code
def yX8_hasBit : MethodName := ⟨RX8, "hasBit", "(II)Z"⟩
abbrev cX8_kindOf : ByteArray := prog_1_method_42_code
def yX8_kindOf : MethodName := ⟨RX8, "kindOf", "(I)I"⟩
abbrev cX8_figureOf : ByteArray := prog_1_method_43_code
def yX8_figureOf : MethodName := ⟨RX8, "figureOf", "(III)I"⟩
abbrev cX8_refusal : ByteArray := prog_1_method_44_code
def yX8_refusal : MethodName := ⟨RX8, "refusal", "(I)J"⟩
abbrev cX8_lowestTerm : ByteArray := prog_1_method_45_code
def yX8_lowestTerm : MethodName := ⟨RX8, "lowestTerm", "(III)J"⟩
abbrev cX8_isDeed : ByteArray := prog_1_method_46_code
def yX8_isDeed : MethodName := ⟨RX8, "isDeed", "(I)Z"⟩
abbrev cX8_sparedBy : ByteArray := prog_1_method_47_code
def yX8_sparedBy : MethodName := ⟨RX8, "sparedBy", "(I)I"⟩
abbrev cX8_nightChanged : ByteArray := prog_1_method_48_code
def yX8_nightChanged : MethodName := ⟨RX8, "nightChanged", "()V"⟩
abbrev cX8_reckonOffers : ByteArray := prog_1_method_49_code
def yX8_reckonOffers : MethodName := ⟨RX8, "reckonOffers", "()V"⟩
abbrev cX8_reckonPlan : ByteArray := prog_1_method_50_code
def yX8_reckonPlan : MethodName := ⟨RX8, "reckonPlan", "()V"⟩
def RX9 : String := "SecondChancesModel"
def TX9 : u_T := fun k => match k with
  | 0 => ("SecondChancesModel", "typed", "[I", true)
  | 1 => ("SecondChancesModel", "texts", "[I", true)
  | 2 => ("SecondChancesModel", "deeds", "I", false)
  | 3 => ("SecondChancesModel", "kindOf", "[I", true)
  | 4 => ("SecondChancesModel", "placeOf", "[I", true)
  | 5 => ("SecondChancesModel", "rainOf", "[I", true)
  | 6 => ("SecondChancesModel", "worthOf", "[I", true)
  | 7 => ("SecondChancesModel", "whoOf", "[I", true)
  | 8 => ("SecondChancesModel", "parts", "I", false)
  | 9 => ("SecondChancesModel", "ruleMany", "[I", true)
  | 10 => ("SecondChancesModel", "ruleRain", "[I", true)
  | 11 => ("SecondChancesModel", "rulePlace", "[I", true)
  | 12 => ("SecondChancesModel", "come", "[I", true)
  | 13 => ("SecondChancesModel", "until", "[I", true)
  | 14 => ("SecondChancesModel", "price", "[I", true)
  | 15 => ("SecondChancesModel", "memory", "[I", true)
  | 16 => ("SecondChancesModel", "rains", "[I", true)
  | 17 => ("SecondChancesModel", "setting", "[I", true)
  | 18 => ("SecondChancesModel", "together", "[I", true)
  | 19 => ("SecondChancesModel", "least", "[I", true)
  | 20 => ("SecondChancesModel", "then", "[I", true)
  | 21 => ("SecondChancesModel", "fixed", "[I", true)
  | 22 => ("SecondChancesModel", "bestWorth", "I", false)
  | 23 => ("SecondChancesModel", "bestCost", "I", false)
  | 24 => ("SecondChancesModel", "planWorth", "I", false)
  | 25 => ("SecondChancesModel", "planCost", "I", false)
  | 26 => ("SecondChancesModel", "sights", "I", false)
  | 27 => ("SecondChancesModel", "seenWho", "[I", true)
  | 28 => ("SecondChancesModel", "seenPlace", "[I", true)
  | 29 => ("SecondChancesModel", "seenHour", "[I", true)
  | 30 => ("SecondChancesModel", "pairs", "I", false)
  | 31 => ("SecondChancesModel", "pairOf", "[I", true)
  | 32 => ("SecondChancesModel", "pairThen", "[I", true)
  | 33 => ("SecondChancesModel", "isThere", "[Z", true)
  | 34 => ("SecondChancesModel", "forms", "[I", true)
  | 35 => ("SecondChancesModel", "sizes", "[I", true)
  | 36 => ("SecondChancesModel", "items", "[I", true)
  | 37 => ("SecondChancesModel", "moved", "[I", true)
  | _ => ("SecondChancesModel", "finding", "I", false)
def tyX9 : Nat → FieldType := fun k => match k with
  | 0 => .array .int
  | 1 => .array .int
  | 2 => .int
  | 3 => .array .int
  | 4 => .array .int
  | 5 => .array .int
  | 6 => .array .int
  | 7 => .array .int
  | 8 => .int
  | 9 => .array .int
  | 10 => .array .int
  | 11 => .array .int
  | 12 => .array .int
  | 13 => .array .int
  | 14 => .array .int
  | 15 => .array .int
  | 16 => .array .int
  | 17 => .array .int
  | 18 => .array .int
  | 19 => .array .int
  | 20 => .array .int
  | 21 => .array .int
  | 22 => .int
  | 23 => .int
  | 24 => .int
  | 25 => .int
  | 26 => .int
  | 27 => .array .int
  | 28 => .array .int
  | 29 => .array .int
  | 30 => .int
  | 31 => .array .int
  | 32 => .array .int
  | 33 => .array .boolean
  | 34 => .array .int
  | 35 => .array .int
  | 36 => .array .int
  | 37 => .array .int
  | _ => .int
theorem nmX9 : ∀ a, a < 39 → ∀ b, b < 39 → a ≠ b → (TX9 a).2.1 ≠ (TX9 b).2.1 := by decide +kernel
theorem tyX9_ok : ∀ k, k < 39 → parseFieldDescriptor (TX9 k).2.2.1 = some (tyX9 k) := by decide +kernel
abbrev cX9_init : ByteArray := prog_11_method_1_code
def yX9_init : MethodName := ⟨RX9, "<init>", "()V"⟩
abbrev cX9_in : ByteArray := prog_11_method_3_code
def yX9_in : MethodName := ⟨RX9, "in", "(III)Z"⟩
abbrev cX9_isIn : ByteArray := prog_11_method_4_code
def yX9_isIn : MethodName := ⟨RX9, "isIn", "(II)Z"⟩
abbrev cX9_ones : ByteArray := prog_11_method_5_code
def yX9_ones : MethodName := ⟨RX9, "ones", "(I)I"⟩
abbrev cX9_no : ByteArray := prog_11_method_6_code
def yX9_no : MethodName := ⟨RX9, "no", "(I)J"⟩
abbrev cX9_lowest : ByteArray := prog_11_method_7_code
def yX9_lowest : MethodName := ⟨RX9, "lowest", "(JJI)J"⟩
abbrev cX9_choose : ByteArray := prog_11_method_8_code
def yX9_choose : MethodName := ⟨RX9, "choose", "(II)J"⟩
abbrev cX9_type : ByteArray := prog_11_method_9_code
def yX9_type : MethodName := ⟨RX9, "type", "(II)I"⟩
abbrev cX9_wipe : ByteArray := prog_11_method_10_code
def yX9_wipe : MethodName := ⟨RX9, "wipe", "(I)I"⟩
abbrev cX9_byteAt : ByteArray := prog_11_method_11_code
def yX9_byteAt : MethodName := ⟨RX9, "byteAt", "(II)I"⟩
abbrev cX9_kindBy : ByteArray := prog_11_method_12_code
def yX9_kindBy : MethodName := ⟨RX9, "kindBy", "(I)I"⟩
abbrev cX9_readsDeeds : ByteArray := prog_11_method_13_code
def yX9_readsDeeds : MethodName := ⟨RX9, "readsDeeds", "()I"⟩
abbrev cX9_noRules : ByteArray := prog_11_method_14_code
def yX9_noRules : MethodName := ⟨RX9, "noRules", "()V"⟩
abbrev cX9_readsRules : ByteArray := prog_11_method_15_code
def yX9_readsRules : MethodName := ⟨RX9, "readsRules", "()I"⟩
abbrev cX9_faultOf : ByteArray := prog_11_method_16_code
def yX9_faultOf : MethodName := ⟨RX9, "faultOf", "(I)I"⟩
abbrev cX9_reads : ByteArray := prog_11_method_17_code
def yX9_reads : MethodName := ⟨RX9, "reads", "()V"⟩
abbrev cX9_fault : ByteArray := prog_11_method_18_code
def yX9_fault : MethodName := ⟨RX9, "fault", "(I)I"⟩
abbrev cX9_isDeed : ByteArray := prog_11_method_19_code
def yX9_isDeed : MethodName := ⟨RX9, "isDeed", "(I)Z"⟩
abbrev cX9_deedOf : ByteArray := prog_11_method_20_code
def yX9_deedOf : MethodName := ⟨RX9, "deedOf", "(II)I"⟩
abbrev cX9_deed : ByteArray := prog_11_method_21_code
def yX9_deed : MethodName := ⟨RX9, "deed", "(II)I"⟩
abbrev cX9_ruleOf : ByteArray := prog_11_method_22_code
def yX9_ruleOf : MethodName := ⟨RX9, "ruleOf", "(II)I"⟩
abbrev cX9_rule : ByteArray := prog_11_method_23_code
def yX9_rule : MethodName := ⟨RX9, "rule", "(II)I"⟩
abbrev cX9_isPerson : ByteArray := prog_11_method_24_code
def yX9_isPerson : MethodName := ⟨RX9, "isPerson", "(I)Z"⟩
abbrev cX9_isHour : ByteArray := prog_11_method_25_code
def yX9_isHour : MethodName := ⟨RX9, "isHour", "(I)Z"⟩
abbrev cX9_person : ByteArray := prog_11_method_26_code
def yX9_person : MethodName := ⟨RX9, "person", "(III)I"⟩
abbrev cX9_weather : ByteArray := prog_11_method_27_code
def yX9_weather : MethodName := ⟨RX9, "weather", "(II)I"⟩
abbrev cX9_set : ByteArray := prog_11_method_28_code
def yX9_set : MethodName := ⟨RX9, "set", "(II)I"⟩
abbrev cX9_read : ByteArray := prog_11_method_29_code
def yX9_read : MethodName := ⟨RX9, "read", "(I)I"⟩
abbrev cX9_needs : ByteArray := prog_11_method_30_code
def yX9_needs : MethodName := ⟨RX9, "needs", "(I)I"⟩
abbrev cX9_isTurned : ByteArray := prog_11_method_31_code
def yX9_isTurned : MethodName := ⟨RX9, "isTurned", "(II)Z"⟩
abbrev cX9_comesOf : ByteArray := prog_11_method_32_code
def yX9_comesOf : MethodName := ⟨RX9, "comesOf", "(II)I"⟩
abbrev cX9_canOf : ByteArray := prog_11_method_33_code
def yX9_canOf : MethodName := ⟨RX9, "canOf", "(II)I"⟩
abbrev cX9_can : ByteArray := prog_11_method_34_code
def yX9_can : MethodName := ⟨RX9, "can", "(II)I"⟩
abbrev cX9_hoursOf : ByteArray := prog_11_method_35_code
def yX9_hoursOf : MethodName := ⟨RX9, "hoursOf", "(I)I"⟩
abbrev cX9_hours : ByteArray := prog_11_method_36_code
def yX9_hours : MethodName := ⟨RX9, "hours", "(I)I"⟩
abbrev cX9_comes : ByteArray := prog_11_method_37_code
def yX9_comes : MethodName := ⟨RX9, "comes", "(II)I"⟩
abbrev cX9_pricesOf : ByteArray := prog_11_method_38_code
def yX9_pricesOf : MethodName := ⟨RX9, "pricesOf", "(I)I"⟩
abbrev cX9_costsOf : ByteArray := prog_11_method_39_code
def yX9_costsOf : MethodName := ⟨RX9, "costsOf", "(II)I"⟩
abbrev cX9_costs : ByteArray := prog_11_method_40_code
def yX9_costs : MethodName := ⟨RX9, "costs", "(II)I"⟩
abbrev cX9_costTogether : ByteArray := prog_11_method_41_code
def yX9_costTogether : MethodName := ⟨RX9, "costTogether", "(II)I"⟩
abbrev cX9_worthBy : ByteArray := prog_11_method_42_code
def yX9_worthBy : MethodName := ⟨RX9, "worthBy", "(I)I"⟩
abbrev cX9_bestOf : ByteArray := prog_11_method_43_code
def yX9_bestOf : MethodName := ⟨RX9, "bestOf", "(I)V"⟩
abbrev cX9_laysMost : ByteArray := prog_11_method_44_code
def yX9_laysMost : MethodName := ⟨RX9, "laysMost", "()V"⟩
abbrev cX9_most : ByteArray := prog_11_method_45_code
def yX9_most : MethodName := ⟨RX9, "most", "(I)I"⟩
abbrev cX9_when : ByteArray := prog_11_method_46_code
def yX9_when : MethodName := ⟨RX9, "when", "(I)I"⟩
abbrev cX9_planCostOf : ByteArray := prog_11_method_47_code
def yX9_planCostOf : MethodName := ⟨RX9, "planCostOf", "(I)I"⟩
abbrev cX9_planOf : ByteArray := prog_11_method_48_code
def yX9_planOf : MethodName := ⟨RX9, "planOf", "(II)I"⟩
abbrev cX9_plan : ByteArray := prog_11_method_49_code
def yX9_plan : MethodName := ⟨RX9, "plan", "(II)I"⟩
abbrev cX9_askedOf : ByteArray := prog_11_method_50_code
def yX9_askedOf : MethodName := ⟨RX9, "askedOf", "(II)I"⟩
abbrev cX9_asked : ByteArray := prog_11_method_51_code
def yX9_asked : MethodName := ⟨RX9, "asked", "(II)I"⟩
abbrev cX9_crowdOf : ByteArray := prog_11_method_52_code
def yX9_crowdOf : MethodName := ⟨RX9, "crowdOf", "(I)I"⟩
abbrev cX9_crowd : ByteArray := prog_11_method_53_code
def yX9_crowd : MethodName := ⟨RX9, "crowd", "(I)I"⟩
abbrev cX9_likenessOf : ByteArray := prog_11_method_54_code
def yX9_likenessOf : MethodName := ⟨RX9, "likenessOf", "(II)I"⟩
abbrev cX9_likeness : ByteArray := prog_11_method_55_code
def yX9_likeness : MethodName := ⟨RX9, "likeness", "(II)I"⟩
abbrev cX9_oddsOf : ByteArray := prog_11_method_56_code
def yX9_oddsOf : MethodName := ⟨RX9, "oddsOf", "(III)J"⟩
abbrev cX9_odds : ByteArray := prog_11_method_57_code
def yX9_odds : MethodName := ⟨RX9, "odds", "(III)J"⟩
abbrev cX9_seen : ByteArray := prog_11_method_58_code
def yX9_seen : MethodName := ⟨RX9, "seen", "(III)I"⟩
abbrev cX9_areFalse : ByteArray := prog_11_method_59_code
def yX9_areFalse : MethodName := ⟨RX9, "areFalse", "(II)Z"⟩
abbrev cX9_isSight : ByteArray := prog_11_method_60_code
def yX9_isSight : MethodName := ⟨RX9, "isSight", "(I)Z"⟩
abbrev cX9_isFalse : ByteArray := prog_11_method_61_code
def yX9_isFalse : MethodName := ⟨RX9, "isFalse", "(II)I"⟩
abbrev cX9_hatsOf : ByteArray := prog_11_method_62_code
def yX9_hatsOf : MethodName := ⟨RX9, "hatsOf", "(I)I"⟩
abbrev cX9_hats : ByteArray := prog_11_method_63_code
def yX9_hats : MethodName := ⟨RX9, "hats", "(I)I"⟩
abbrev cX9_after : ByteArray := prog_11_method_64_code
def yX9_after : MethodName := ⟨RX9, "after", "(II)I"⟩
abbrev cX9_forget : ByteArray := prog_11_method_65_code
def yX9_forget : MethodName := ⟨RX9, "forget", "(I)I"⟩
abbrev cX9_sparedOf : ByteArray := prog_11_method_66_code
def yX9_sparedOf : MethodName := ⟨RX9, "sparedOf", "(I)I"⟩
abbrev cX9_allDeeds : ByteArray := prog_11_method_67_code
def yX9_allDeeds : MethodName := ⟨RX9, "allDeeds", "()I"⟩
abbrev cX9_spared : ByteArray := prog_11_method_68_code
def yX9_spared : MethodName := ⟨RX9, "spared", "(I)I"⟩
abbrev cX9_bestNow : ByteArray := prog_11_method_69_code
def yX9_bestNow : MethodName := ⟨RX9, "bestNow", "()I"⟩
abbrev cX9_best : ByteArray := prog_11_method_70_code
def yX9_best : MethodName := ⟨RX9, "best", "()I"⟩
abbrev cX9_regretsOf : ByteArray := prog_11_method_71_code
def yX9_regretsOf : MethodName := ⟨RX9, "regretsOf", "(II)J"⟩
abbrev cX9_regrets : ByteArray := prog_11_method_72_code
def yX9_regrets : MethodName := ⟨RX9, "regrets", "(II)J"⟩
abbrev cX9_meets : ByteArray := prog_11_method_73_code
def yX9_meets : MethodName := ⟨RX9, "meets", "(I)I"⟩
abbrev cX9_isSheet : ByteArray := prog_11_method_74_code
def yX9_isSheet : MethodName := ⟨RX9, "isSheet", "(I)Z"⟩
abbrev cX9_sheet : ByteArray := prog_11_method_75_code
def yX9_sheet : MethodName := ⟨RX9, "sheet", "(III)I"⟩
abbrev cX9_lose : ByteArray := prog_11_method_76_code
def yX9_lose : MethodName := ⟨RX9, "lose", "(I)I"⟩
abbrev cX9_lacks : ByteArray := prog_11_method_77_code
def yX9_lacks : MethodName := ⟨RX9, "lacks", "(III)I"⟩
abbrev cX9_keep : ByteArray := prog_11_method_78_code
def yX9_keep : MethodName := ⟨RX9, "keep", "(III)V"⟩
abbrev cX9_put : ByteArray := prog_11_method_79_code
def yX9_put : MethodName := ⟨RX9, "put", "(IIII)I"⟩
abbrev cX9_get : ByteArray := prog_11_method_80_code
def yX9_get : MethodName := ⟨RX9, "get", "(III)I"⟩
abbrev cX9_copy : ByteArray := prog_11_method_81_code
def yX9_copy : MethodName := ⟨RX9, "copy", "(IIIII)I"⟩
abbrev cX9_write : ByteArray := prog_11_method_82_code
def yX9_write : MethodName := ⟨RX9, "write", "(I)I"⟩
abbrev cX9_sumOf : ByteArray := prog_11_method_83_code
def yX9_sumOf : MethodName := ⟨RX9, "sumOf", "(I)I"⟩
abbrev cX9_count : ByteArray := prog_11_method_84_code
def yX9_count : MethodName := ⟨RX9, "count", "(I)I"⟩
abbrev cX9_digest : ByteArray := prog_11_method_85_code
def yX9_digest : MethodName := ⟨RX9, "digest", "()J"⟩
def RJ6 : String := "java/lang/Integer"
abbrev cJ6_bitCount_0f7a4 : ByteArray := prog_12_method_49_code
def yJ6_bitCount_0f7a4 : MethodName := ⟨RJ6, "bitCount", "(I)I"⟩
def RJ9 : String := "java/lang/Math"
abbrev cJ9_abs_0f7a4 : ByteArray := prog_13_method_59_code
def yJ9_abs_0f7a4 : MethodName := ⟨RJ9, "abs", "(I)I"⟩
abbrev cJ9_max_7cf53 : ByteArray := prog_13_method_65_code
def yJ9_max_7cf53 : MethodName := ⟨RJ9, "max", "(II)I"⟩
abbrev cJ9_min_7cf53 : ByteArray := prog_13_method_69_code
def yJ9_min_7cf53 : MethodName := ⟨RJ9, "min", "(II)I"⟩
def RJ10 : String := "java/lang/System"
def RL : String := "SecondChancesLaw"
abbrev cL_law : ByteArray := code
def yL_law : MethodName := ⟨RL, "law", "([I)Z"⟩
abbrev vwCl : List vw_C := [(RX0, TX0, 11), (RX1, TX1, 3), (RX2, TX2, 9), (RX3, TX3, 3), (RX4, TX4, 8), (RX5, TX5, 10), (RX6, TX6, 4), (RX7, TX7, 7), (RX8, TX8, 11), (RX9, TX9, 39)]
end
section
/-! the tables' good words, the nest words -/
def ax_big : List Cond := lw_tbl.filter goodWord
theorem ax_in {w : Cond} (i : Nat) (h : lw_tbl[i]? = some w) (g : goodWord w = true) : w ∈ ax_big := List.mem_filter.mpr ⟨List.mem_of_getElem? h, g⟩
theorem ax_good {z : MethodName} {cz : ByteArray} {nz : Nat} {rz : Option FieldType} (h : Cond.code z cz nz rz ∈ ax_big) : GoodIn ax_big (.code z cz nz rz :: ax_big) := by
  intro w hw
  have hm : w ∈ ax_big := (List.mem_cons.mp hw).elim (fun e => e ▸ h) id
  exact ⟨hm, good_of_word (List.mem_filter.mp hm).2⟩
def ax_isN : Cond → Bool
  | .methodLinkNest _ _ _ _ => true
  | _ => false
def ax_nw : List Cond := lw_tbl.filter ax_isN
theorem ax_inN {w : Cond} (i : Nat) (h : lw_tbl[i]? = some w) (g : ax_isN w = true) : w ∈ ax_nw := List.mem_filter.mpr ⟨List.mem_of_getElem? h, g⟩
/-! values, memory -/
def ax_i (z : Int) : Int32 := Int32.ofInt z
def ax_l (z : Int) : Int64 := Int64.ofInt z
abbrev ax_V : Type := Int ⊕ (Int ⊕ Nat)
def aI (z : Int) : ax_V := .inl z
def aL (z : Int) : ax_V := .inr (.inl z)
def aR (k : Nat) : ax_V := .inr (.inr k)
abbrev ax_M : Type := Nat → Int → Int
abbrev ax_G : Type := Launch × (Nat → Nat) × va_G × (ClassId × ClassId × ClassId × ClassId)
abbrev ax_G.l (g : ax_G) : Launch := g.1
abbrev ax_G.ad (g : ax_G) : Nat → Nat := g.2.1
abbrev ax_G.D (g : ax_G) : va_G := g.2.2.1
abbrev ax_G.cI (g : ax_G) : ClassId := g.2.2.2.1
abbrev ax_G.cZ (g : ax_G) : ClassId := g.2.2.2.2.1
abbrev ax_G.cJ (g : ax_G) : ClassId := g.2.2.2.2.2.1
abbrev ax_G.cR (g : ax_G) : ClassId := g.2.2.2.2.2.2
def cv (g : ax_G) : ax_V → Value
  | .inl z => .int (ax_i z)
  | .inr (.inl z) => .long (ax_l z)
  | .inr (.inr k) => .ref (g.ad k)
/-! the cells: 0 .. 9 the objects, then their arrays -/
def ax_shpL : List (Nat × Nat × List (Option Nat)) := [(4, 0, [some 10, some 11, some 12, some 13, some 14, none, none, none, none, none, none]), (4, 1, [some 15, some 16, some 17]), (4, 2, [some 0, some 5, some 1, some 18, some 19, some 20, some 21, some 22, some 23]), (4, 3, [none, some 24, some 25]), (4, 4, [some 26, none, none, some 2, some 27, some 28, some 29, none]), (4, 5, [none, none, none, some 30, some 31, some 32, none, none, none, none]), (4, 6, [some 33, some 38, some 39, none]), (4, 7, [none, some 40, some 41, some 42, some 43, none, none]), (4, 8, [some 4, some 2, some 0, some 5, some 1, some 7, some 3, some 6, some 44, none, none]), (4, 9, [some 45, some 46, none, some 47, some 48, some 49, some 50, some 51, none, some 52, some 53, some 54, some 55, some 56, some 57, some 58, some 59, some 60, some 61, some 62, some 63, some 64, none, none, none, none, none, some 65, some 66, some 67, none, some 68, some 69, some 70, some 71, some 72, some 73, some 74, none]), (0, 8, []), (0, 8, []), (0, 8, []), (0, 8, []), (0, 8, []), (0, 32, []), (0, 8, []), (0, 4, []), (0, 8, []), (1, 8, []), (1, 8, []), (0, 64, []), (0, 64, []), (0, 8, []), (0, 10, []), (0, 10, []), (0, 8, []), (2, 256, []), (2, 256, []), (2, 256, []), (0, 4, []), (1, 4, []), (1, 4, []), (3, 4, [some 34, some 35, some 36, some 37]), (0, 60, []), (0, 60, []), (0, 60, []), (0, 60, []), (0, 4, []), (0, 4, []), (0, 10, []), (0, 10, []), (0, 10, []), (0, 10, []), (0, 8, []), (0, 2, []), (0, 160, []), (0, 9, []), (0, 9, []), (0, 9, []), (0, 9, []), (0, 9, []), (0, 4, []), (0, 4, []), (0, 4, []), (0, 8, []), (0, 8, []), (0, 8, []), (0, 8, []), (0, 8, []), (0, 4, []), (0, 2048, []), (0, 256, []), (0, 256, []), (0, 8, []), (0, 10, []), (0, 10, []), (0, 10, []), (0, 10, []), (0, 10, []), (1, 4, []), (0, 4, []), (0, 4, []), (0, 240, []), (0, 60, [])]
def ax_NC : Nat := 75
theorem ax_shpL_len : ax_shpL.length = ax_NC := by decide +kernel

def ax_shp (k : Nat) : Nat × Nat × List (Option Nat) := (ax_shpL[k]?).getD (9, 0, [])
theorem ax_shp_lt {k t n : Nat} {x : List (Option Nat)} (h : ax_shp k = (t, n, x)) (ht : t < 9) : k < ax_NC := by
  rcases Nat.lt_or_ge k ax_NC with h1 | h1
  · exact h1
  · unfold ax_shp at h
    rw [List.getElem?_eq_none (by rw [ax_shpL_len]; exact h1)] at h
    have : (9, 0, ([] : List (Option Nat))) = (t, n, x) := h
    cases this
    exact absurd ht (by decide)
def ax_fld (g : ax_G) (M : ax_M) (k : Nat) (q : Option Nat × Nat) : Value := match q.1 with
  | none => .int (ax_i (M k q.2))
  | some k' => .ref (g.ad k')
def ax_cellS (g : ax_G) (M : ax_M) (k : Nat) : Nat × Nat × List (Option Nat) → va_E
  | (0, n, _) => .inl (g.cI, n, .inl fun j => ax_i (M k j))
  | (1, n, _) => .inl (g.cZ, n, .inl fun j => ax_i (M k j))
  | (2, n, _) => .inl (g.cJ, n, .inr (.inl fun j => ax_l (M k j)))
  | (3, n, fs) => .inl (g.cR, n, .inr (.inr (.inr (.inr fun j => ((fs[j]?).getD none).map g.ad))))
  | (_, n, fs) => .inr (n, fs.zipIdx.map (ax_fld g M k))
def ax_cell (g : ax_G) (M : ax_M) (k : Nat) : va_E := ax_cellS g M k (ax_shp k)
def wd (g : ax_G) (M : ax_M) : va_W := (List.range ax_NC).map fun k => (g.ad k, ax_cell g M k)
theorem wd_at {g : ax_G} {M : ax_M} {k : Nat} (h : k < ax_NC) : (wd g M)[k]? = some (g.ad k, ax_cell g M k) := by
  unfold wd
  rw [List.getElem?_map, List.getElem?_range h]
  rfl
theorem wd_inv {g : ax_G} {M : ax_M} {k : Nat} {q : Nat × va_E} (h : (wd g M)[k]? = some q) : k < ax_NC ∧ q = (g.ad k, ax_cell g M k) := by
  have hl : k < ax_NC := by
    have := (List.getElem?_eq_some_iff.mp h).1
    simpa [wd] using this
  rw [wd_at hl] at h
  exact ⟨hl, (Option.some.inj h).symm⟩
theorem wd_set {g : ax_G} {M M' : ax_M} {k : Nat} {e : va_E} (hM : ∀ j, j ≠ k → ax_cell g M' j = ax_cell g M j) (he : ax_cell g M' k = e) : (wd g M).set k (g.ad k, e) = wd g M' := by
  apply List.ext_getElem?
  intro j
  rcases Nat.lt_or_ge j ax_NC with hj | hj
  · by_cases hjk : j = k
    · subst hjk
      rw [List.getElem?_set_self (by simpa [wd] using hj), wd_at hj, he]
    · rw [List.getElem?_set_ne (Ne.symm hjk), wd_at hj, wd_at hj, hM j hjk]
  · rw [List.getElem?_eq_none (by simpa [wd] using hj), List.getElem?_eq_none (by simpa [wd] using hj)]
def ms (M : ax_M) (k : Nat) (i v : Int) : ax_M := fun k' i' => if k' = k ∧ i' = i then v else M k' i'
theorem ms_ne {M : ax_M} {k k' : Nat} {i v : Int} (h : k' ≠ k) : ms M k i v k' = M k' := by
  funext j
  simp [ms, h]
theorem ms_at (M : ax_M) (k : Nat) (i v : Int) : ms M k i v k i = v := by simp [ms]
theorem ms_off {M : ax_M} {k : Nat} {i j v : Int} (h : j ≠ i) : ms M k i v k j = M k j := by simp [ms, h]
/-! bounds of all that the cells hold -/
def bd : Nat → Int → Int × Int := fun k i => match k with
  | 0 => if i = 5 then (0, 80) else if i = 6 then (0, 8) else if i = 7 then ((-1), 80) else if i = 8 then (0, 8) else if i = 9 then (0, 4) else if i = 10 then ((-1), 80) else (0, 0)
  | 1 => (0, 0)
  | 2 => (0, 0)
  | 3 => if i = 0 then (0, 10) else (0, 0)
  | 4 => if i = 1 then (0, 72) else if i = 2 then (0, 1000) else if i = 7 then (0, 255) else (0, 0)
  | 5 => if i = 0 then (0, 40) else if i = 1 then (0, 40) else if i = 2 then ((-1), 40) else if i = 6 then (0, 40) else if i = 7 then (0, 3) else if i = 8 then (0, 4) else if i = 9 then ((-1), 40) else (0, 0)
  | 6 => if i = 3 then (0, 5) else (0, 0)
  | 7 => if i = 0 then (0, 10) else if i = 5 then (0, 1023) else if i = 6 then (0, 1) else (0, 0)
  | 8 => if i = 9 then (0, 1) else if i = 10 then (0, 1) else (0, 0)
  | 9 => if i = 2 then (0, 8) else if i = 8 then (0, 40) else if i = 22 then ((-1), 72) else if i = 23 then (0, 1000000) else if i = 24 then ((-1), 72) else if i = 25 then (0, 1000000) else if i = 26 then (0, 10) else if i = 30 then (0, 10) else if i = 38 then (0, 5) else (0, 0)
  | 10 => (0, 3)
  | 11 => (0, 5)
  | 12 => (0, 1)
  | 13 => (0, 9)
  | 14 => (0, 255)
  | 15 => (0, 99)
  | 16 => (0, 1)
  | 17 => (0, 999)
  | 18 => (0, 8)
  | 19 => (0, 1)
  | 20 => (0, 1)
  | 21 => ((-1), 255)
  | 22 => (0, 792)
  | 23 => (0, 7)
  | 24 => (0, 7)
  | 25 => (0, 7)
  | 26 => ((-1), 7)
  | 27 => (0, 1152921504606846976)
  | 28 => (0, 1152921504606846976)
  | 29 => (0, 1152921504606846976)
  | 30 => (0, 4)
  | 31 => (0, 1)
  | 32 => (0, 1)
  | 33 => (0, 0)
  | 34 => ((-2147483648), 2147483647)
  | 35 => ((-2147483648), 2147483647)
  | 36 => ((-2147483648), 2147483647)
  | 37 => ((-2147483648), 2147483647)
  | 38 => ((-1), 2)
  | 39 => (0, 60)
  | 40 => (0, 7)
  | 41 => (0, 5)
  | 42 => (0, 7)
  | 43 => (0, 1023)
  | 44 => ((-2147483648), 2147483647)
  | 45 => (0, 80)
  | 46 => (0, 255)
  | 47 => (0, 3)
  | 48 => (0, 5)
  | 49 => (0, 1)
  | 50 => (0, 9)
  | 51 => (0, 255)
  | 52 => (0, 4)
  | 53 => (0, 1)
  | 54 => (0, 1)
  | 55 => (0, 7)
  | 56 => (0, 8)
  | 57 => (0, 99)
  | 58 => (0, 16)
  | 59 => (0, 1)
  | 60 => (0, 999)
  | 61 => (0, 1000000)
  | 62 => (0, 1000000)
  | 63 => (0, 1000000)
  | 64 => ((-1), 8)
  | 65 => (0, 7)
  | 66 => (0, 5)
  | 67 => (0, 7)
  | 68 => (0, 7)
  | 69 => (0, 7)
  | 70 => (0, 1)
  | 71 => (0, 2)
  | 72 => (0, 60)
  | 73 => ((-2147483648), 2147483647)
  | 74 => ((-2147483648), 2147483647)
  | _ => (0, 0)

def RG (M : ax_M) : Prop := ∀ (k : Nat) (i : Int), (bd k i).1 ≤ M k i ∧ M k i ≤ (bd k i).2
theorem RG.at {M : ax_M} (h : RG M) {k : Nat} {i lo up : Int} (e : bd k i = (lo, up)) : lo ≤ M k i ∧ M k i ≤ up := by
  have := h k i
  rw [e] at this
  exact this
theorem RG.ms {M : ax_M} (h : RG M) {k : Nat} {i v lo up : Int} (e : bd k i = (lo, up)) (hv : lo ≤ v ∧ v ≤ up) : RG (ms M k i v) := by
  intro k' i'
  show _ ≤ (if _ then _ else _) ∧ (if _ then _ else _) ≤ _
  split
  · next q =>
    obtain ⟨rfl, rfl⟩ := q
    rw [e]
    exact hv
  · exact h k' i'
/-- an int (0), boolean (1), long (2) array: its length, its bounds -/
def ax_arr (t k N : Nat) (lo hi : Int) : Prop := (∃ x, ax_shp k = (t, N, x)) ∧ N ≤ 2147483647 ∧ ∀ i, bd k i = (lo, hi)
/-- object k of class ci has an int or boolean at field j -/
def ax_ob (k ci j : Nat) (z lo up : Int) : Prop := (∃ fs, ax_shp k = (4, ci, fs) ∧ fs[j]? = some none) ∧ bd k z = (lo, up) ∧ (j : Int) = z
def ax_fi (ci j : Nat) : Prop := ∀ (T : u_T) (C : String) (N : Nat), vwCl[ci]? = some (C, T, N) → (T j).2.2.2 = false ∧ parseFieldDescriptor (T j).2.2.1 = some .int
def ax_fz (ci j : Nat) : Prop := ∀ (T : u_T) (C : String) (N : Nat), vwCl[ci]? = some (C, T, N) → (T j).2.2.2 = false ∧ parseFieldDescriptor (T j).2.2.1 = some .boolean
def ax_or1 (k ci j k2 : Nat) : Prop := ∃ fs, ax_shp k = (4, ci, fs) ∧ fs[j]? = some (some k2)
theorem ax_cell_off {g : ax_G} {M M' : ax_M} {k : Nat} (h : M' k = M k) : ax_cell g M' k = ax_cell g M k := by
  unfold ax_cell
  have : ∀ s, ax_cellS g M' k s = ax_cellS g M k s := by
    intro s
    have hf : ax_fld g M' k = ax_fld g M k := by funext q; simp [ax_fld, h]
    unfold ax_cellS
    split <;> simp [h, hf]
  exact this _
/-- which cells may change -/
def ax_A (g : ax_G) : Nat → Prop := fun q => ∃ k, k < ax_NC ∧ q = g.ad k
def ax_D (g : ax_G) : Prop := ∀ i j, i < ax_NC → j < ax_NC → g.ad i = g.ad j → i = j
theorem ax_vaD {g : ax_G} {M : ax_M} (h : ax_D g) : va_D (ax_A g) (wd g M) := by
  refine ⟨fun i j p q hi hj hpq => ?_, fun k q hk => ?_⟩
  · obtain ⟨h1, rfl⟩ := wd_inv hi
    obtain ⟨h2, rfl⟩ := wd_inv hj
    exact h i j h1 h2 hpq
  · obtain ⟨h1, rfl⟩ := wd_inv hk
    exact ⟨k, h1, rfl⟩
/-! tables' facts of a state -/
def ax_tys (g : ax_G) : List (ClassId × FieldType) := [(g.cI, .int), (g.cZ, .boolean), (g.cJ, .long), (g.cR, .array .int)]
def ax_K (g : ax_G) (U : State) : Prop := va_K g.D vwCl (ax_tys g) U ∧ ∀ w ∈ ax_nw, va_Nw w U
theorem ax_K.warm {g : ax_G} {s U : State} (hW : s.WarmedH U.vm) (h : ax_K g s) : ax_K g U := by
  refine ⟨va_K.moved hW.alike h.1, fun w hw => ?_⟩
  have hz := h.2 w hw
  have hn := (List.mem_filter.mp hw).2
  cases w <;> first | exact va_Nw.warmM hW hz | cases hn
def ax_S1 (g : ax_G) (C n d : String) (k : Nat) (ty : FieldType) (N : Nat) (f : Nat → Value) (U : State) (H : Heap) : Prop := va_Z C n d (.ref (g.ad k)) (ax_A g) U H ∧ va_T ty (g.ad k) N f (ax_A g) U H
theorem ax_S1.to {g : ax_G} {C n d : String} {k : Nat} {ty : FieldType} {N : Nat} {f : Nat → Value} {s U : State} {H H1 : Heap} (hvm : s.vm.Alike U.vm) (hq : ∀ a : Nat, a < H.size → ¬ ax_A g a → H1[a]? = H[a]?) (h : ax_S1 g C n d k ty N f s H) : ax_S1 g C n d k ty N f U H1 := ⟨va_Z.moved hvm (h.1.kept hq), va_T.moved hvm (h.2.kept hq)⟩
def ax_tm : Nat → Int := fun j => match j with | 0 => 7 | 1 => 8 | 2 => 99 | _ => 16
def ax_sm : Nat → Int := fun j => match j with | 0 => 99 | 1 => 1 | 2 => 999 | _ => 10
def ax_wt : Nat → Int := fun j => match j with | 0 => 4782969 | 1 => 531441 | 2 => 59049 | 3 => 6561 | 4 => 729 | 5 => 81 | 6 => 9 | _ => 1
def ax_S (g : ax_G) (U : State) (H : Heap) : Prop :=
  ax_S1 g "SecondChances$Night" "TRAIT_MOST" "[I" 100 .int 4 (fun j => .int (ax_i (ax_tm j))) U H ∧
  ax_S1 g "SecondChances$Night" "SETTING_MOST" "[I" 101 .int 4 (fun j => .int (ax_i (ax_sm j))) U H ∧
  ax_S1 g "SecondChances$Planner" "WEIGHT" "[J" 102 .long 8 (fun j => .long (ax_l (ax_wt j))) U H
theorem ax_S.to {g : ax_G} {s U : State} {H H1 : Heap} (hvm : s.vm.Alike U.vm) (hq : ∀ a : Nat, a < H.size → ¬ ax_A g a → H1[a]? = H[a]?) (h : ax_S g s H) : ax_S g U H1 := ⟨h.1.to hvm hq, h.2.1.to hvm hq, h.2.2.to hvm hq⟩
/-! frames -/
def ax_lvL (g : ax_G) (lv : List (Option ax_V)) : List (Nat × Value) := lv.zipIdx.filterMap (fun q => q.1.map (fun v => (q.2, cv g v)))
theorem ax_lvL_mem {g : ax_G} {lv : List (Option ax_V)} {i : Nat} {w : Value} : (i, w) ∈ ax_lvL g lv ↔ ∃ v, lv[i]? = some (some v) ∧ w = cv g v := by
  unfold ax_lvL
  rw [List.mem_filterMap]
  constructor
  · rintro ⟨⟨a, j⟩, h1, h2⟩
    rw [List.mem_zipIdx_iff_getElem?] at h1
    cases a with
    | none => simp at h2
    | some v =>
      simp only [Option.map_some, Option.some.injEq, Prod.mk.injEq] at h2
      obtain ⟨rfl, rfl⟩ := h2
      exact ⟨v, h1, rfl⟩
  · rintro ⟨v, h1, rfl⟩
    exact ⟨(some v, i), List.mem_zipIdx_iff_getElem?.mpr h1, rfl⟩
def ax_notL : Option ax_V → Bool
  | some (.inr (.inl _)) => false
  | _ => true
theorem ax_notL_cat {g : ax_G} {v : ax_V} (h : ax_notL (some v) = true) : (cv g v).category = 1 := by
  rcases v with z | z | z
  · rfl
  · cases h
  · rfl
theorem ax_lv_get {g : ax_G} {ls : Array Slot} {nL : Nat} {lv : List (Option ax_V)} (h : lv_has ls nL (ax_lvL g lv)) (i : Nat) {v : ax_V} (hi : lv[i]? = some (some v)) : ls[i]? = some (.val (cv g v)) := h.2.2 (i, cv g v) (ax_lvL_mem.mpr ⟨v, hi, rfl⟩)
theorem ax_hx {lv : List (Option ax_V)} {i : Nat} {x : Option ax_V} (h : lv[i]? = some x) (hx : ax_notL x = true) : ∀ j, j + 1 = i + 1 → ∀ w, lv[j]? = some (some w) → ax_notL (some w) = true := by
  intro j hj w hw
  obtain rfl : j = i := by omega
  rw [h] at hw
  cases hw
  exact hx
theorem ax_h0 {lv : List (Option ax_V)} : ∀ j, j + 1 = 0 → ∀ w, lv[j]? = some (some w) → ax_notL (some w) = true := by
  intro j hj
  omega
theorem ax_lv_st1 {g : ax_G} {ls' : Array Slot} {nL i : Nat} {lv lv' : List (Option ax_V)} {v : ax_V} (h : lv_has ls' nL ((i, cv g v) :: (ax_lvL g lv).filter (fun q => !(q.1 == i) && !(q.1 + 1 == i && q.2.category == 2)))) (e : lv' = lv.set i (some v)) (hn : ∀ j, j + 1 = i → ∀ w, lv[j]? = some (some w) → ax_notL (some w) = true) : lv_has ls' nL (ax_lvL g lv') := by
  refine ⟨h.1, h.2.1, fun q hq => ?_⟩
  obtain ⟨j, w⟩ := q
  obtain ⟨v', h1, rfl⟩ := ax_lvL_mem.mp hq
  rw [e] at h1
  by_cases hj : j = i
  · subst hj
    have hl : j < lv.length := by
      have := (List.getElem?_eq_some_iff.mp h1).1
      simpa using this
    rw [List.getElem?_set_self hl] at h1
    cases h1
    exact h.2.2 _ List.mem_cons_self
  · rw [List.getElem?_set_ne (Ne.symm hj)] at h1
    refine h.2.2 _ (List.mem_cons_of_mem _ (List.mem_filter.mpr ⟨ax_lvL_mem.mpr ⟨v', h1, rfl⟩, ?_⟩))
    by_cases hj1 : j + 1 = i
    · have := ax_notL_cat (g := g) (hn j hj1 v' h1)
      simp [hj, this]
    · simp [hj, hj1]
theorem ax_lv_st2 {g : ax_G} {ls' : Array Slot} {nL i : Nat} {lv lv' : List (Option ax_V)} {v : ax_V} (h : lv_has ls' nL ((i, cv g v) :: (ax_lvL g lv).filter (fun q => !(q.1 == i) && (!(q.1 == i + 1) && !(q.1 + 1 == i && q.2.category == 2))))) (e : lv' = (lv.set i (some v)).set (i + 1) none) (hn : ∀ j, j + 1 = i → ∀ w, lv[j]? = some (some w) → ax_notL (some w) = true) : lv_has ls' nL (ax_lvL g lv') := by
  refine ⟨h.1, h.2.1, fun q hq => ?_⟩
  obtain ⟨j, w⟩ := q
  obtain ⟨v', h1, rfl⟩ := ax_lvL_mem.mp hq
  rw [e] at h1
  by_cases hj2 : j = i + 1
  · subst hj2
    have hl : i + 1 < lv.length := by
      have := (List.getElem?_eq_some_iff.mp h1).1
      simpa using this
    rw [List.getElem?_set_self (by simpa using hl)] at h1
    cases h1
  · rw [List.getElem?_set_ne (Ne.symm hj2)] at h1
    by_cases hj : j = i
    · subst hj
      have hl : j < lv.length := by
        have := (List.getElem?_eq_some_iff.mp h1).1
        simpa using this
      rw [List.getElem?_set_self hl] at h1
      cases h1
      exact h.2.2 _ List.mem_cons_self
    · rw [List.getElem?_set_ne (Ne.symm hj)] at h1
      refine h.2.2 _ (List.mem_cons_of_mem _ (List.mem_filter.mpr ⟨ax_lvL_mem.mpr ⟨v', h1, rfl⟩, ?_⟩))
      by_cases hj1 : j + 1 = i
      · have := ax_notL_cat (g := g) (hn j hj1 v' h1)
        simp [hj, hj2, this]
      · simp [hj, hj1, hj2]
/-! a body's fixed things -/
abbrev ax_X : Type := ax_G × Program × Env × Room × State × MethodId × Array Value × List Frame × Method × Code × Nat × Nat × Nat × (State → Prop)
abbrev ax_X.g (X : ax_X) : ax_G := X.1
abbrev ax_X.p (X : ax_X) : Program := X.2.1
abbrev ax_X.e (X : ax_X) : Env := X.2.2.1
abbrev ax_X.R (X : ax_X) : Room := X.2.2.2.1
abbrev ax_X.s (X : ax_X) : State := X.2.2.2.2.1
abbrev ax_X.m (X : ax_X) : MethodId := X.2.2.2.2.2.1
abbrev ax_X.args (X : ax_X) : Array Value := X.2.2.2.2.2.2.1
abbrev ax_X.below (X : ax_X) : List Frame := X.2.2.2.2.2.2.2.1
abbrev ax_X.meth (X : ax_X) : Method := X.2.2.2.2.2.2.2.2.1
abbrev ax_X.c (X : ax_X) : Code := X.2.2.2.2.2.2.2.2.2.1
abbrev ax_X.nL (X : ax_X) : Nat := X.2.2.2.2.2.2.2.2.2.2.1
abbrev ax_X.cells (X : ax_X) : Nat := X.2.2.2.2.2.2.2.2.2.2.2.1
abbrev ax_X.slots (X : ax_X) : Nat := X.2.2.2.2.2.2.2.2.2.2.2.2.1
abbrev ax_X.Q (X : ax_X) : State → Prop := X.2.2.2.2.2.2.2.2.2.2.2.2.2
abbrev ax_W (X : ax_X) (H : Heap) (locs : List Loc) (g : JFrame) : Prop := W X.p X.g.l X.e X.R X.s X.m X.args X.below X.meth X.c H locs X.cells X.slots X.Q g
def AW (X : ax_X) (pc : Nat) (lv : List (Option ax_V)) (st : List ax_V) (M : ax_M) : Prop :=
  RG M → ∀ (H : Heap) (locs : List Loc) (ls : Array Slot), va_P X.g.D vwCl (wd X.g M) H → va_S (ax_A X.g) X.s.heap H locs → lv_has ls X.nL (ax_lvL X.g lv) → lv.length = X.nL → ax_W X H locs (F0 X.m pc ls (st.map (cv X.g)))
def ax_b (X : ax_X) (cc : ByteArray) (own : String) (n : Nat) : Prop :=
  X.p.tables.exec = Jvm.exec ∧ X.c.code = cc ∧ X.c.maxLocals = X.nL ∧ X.s.vm.findClass own = some X.m.cls ∧ (∀ w ∈ ax_big, w.before X.args X.s = true) ∧ ax_K X.g X.s ∧ ax_S X.g X.s X.s.heap ∧ ax_D X.g ∧ X.meth.locks = false ∧ (n ≤ X.R.frames ∧ 30 * n ≤ X.R.locals) ∧ (X.cells ≤ X.R.cells ∧ X.slots ≤ X.R.slots)
def ax_PQ (g : ax_G) (P : Option ax_V → ax_M → Prop) : Array Value → State → Outcome → State → Prop := fun _ st oc t =>
  (∃ (r : Option ax_V) (M' : ax_M), oc = .returned (r.map (cv g)) ∧ (P r M' ∧ RG M') ∧ va_P g.D vwCl (wd g M') t.heap) ∧ va_F (ax_A g) st t
def ax_r (X : ax_X) (ret : Option FieldType) (P : Option ax_V → ax_M → Prop) : Prop := X.meth.sig.returnType = ret ∧ X.Q = MQ X.below (ax_PQ X.g P) X.args X.s X.cells X.slots (ax_A X.g)
abbrev ax_Md : Type := MethodName × ByteArray × Nat × Option FieldType
def ax_rm (d : Nat) : Room := { frames := d, cells := 0, slots := 0, locals := 30 * d }
def ax_Pre (g : ax_G) (M : ax_M) (U : State) : Prop := va_P g.D vwCl (wd g M) U.heap ∧ ax_K g U ∧ ax_S g U U.heap ∧ ax_D g ∧ RG M
/-- a method's contract over the abstract machine -/
def CT (g : ax_G) (md : ax_Md) (d : Nat) (As : List ax_V) (M : ax_M) (P : Option ax_V → ax_M → Prop) : Prop :=
  Met g.l md.1 (.code md.1 md.2.1 md.2.2.1 md.2.2.2 :: ax_big) (ax_rm d) (va_Pc (As.map (cv g)) (ax_Pre g M)) (ax_PQ g P) 0 0 (ax_A g)
def ax_args : List ax_V → List (Option ax_V)
  | [] => []
  | .inr (.inl z) :: r => some (.inr (.inl z)) :: none :: ax_args r
  | v :: r => some v :: ax_args r
theorem ax_args_lv (g : ax_G) : ∀ (As : List ax_V) (i : Nat) (j : Nat) (v : ax_V), (ax_args As)[j]? = some (some v) → (i + j, cv g v) ∈ lv_args i (As.map (cv g))
  | [], i, j, v, h => by simp [ax_args] at h
  | .inr (.inl z) :: r, i, j, v, h => by
    show _ ∈ (i, cv g _) :: lv_args (i + 2) (r.map (cv g))
    cases j with
    | zero =>
      have : some (some (Sum.inr (Sum.inl z) : ax_V)) = some (some v) := h
      cases this
      exact List.mem_cons_self
    | succ j =>
      cases j with
      | zero =>
        have : some (none : Option ax_V) = some (some v) := h
        cases this
      | succ j =>
        have := ax_args_lv g r (i + 2) j v h
        rw [show i + (j + 1 + 1) = i + 2 + j by omega]
        exact List.mem_cons_of_mem _ this
  | .inl z :: r, i, j, v, h => by
    show _ ∈ (i, cv g _) :: lv_args (i + 1) (r.map (cv g))
    cases j with
    | zero =>
      have : some (some (Sum.inl z : ax_V)) = some (some v) := h
      cases this
      exact List.mem_cons_self
    | succ j =>
      have := ax_args_lv g r (i + 1) j v h
      rw [show i + (j + 1) = i + 1 + j by omega]
      exact List.mem_cons_of_mem _ this
  | .inr (.inr z) :: r, i, j, v, h => by
    show _ ∈ (i, cv g _) :: lv_args (i + 1) (r.map (cv g))
    cases j with
    | zero =>
      have : some (some (Sum.inr (Sum.inr z) : ax_V)) = some (some v) := h
      cases this
      exact List.mem_cons_self
    | succ j =>
      have := ax_args_lv g r (i + 1) j v h
      rw [show i + (j + 1) = i + 1 + j by omega]
      exact List.mem_cons_of_mem _ this
theorem ax_args_len (g : ax_G) : ∀ As : List ax_V, (lg_sl (As.map (cv g))).length = (ax_args As).length
  | [] => rfl
  | .inr (.inl z) :: r => by
    have := ax_args_len g r
    simp only [List.map_cons, lg_sl, List.flatMap_cons, List.length_append] at this ⊢
    rw [this]
    simp [ax_args, cv, Value.category]
    omega
  | .inl z :: r => by
    have := ax_args_len g r
    simp only [List.map_cons, lg_sl, List.flatMap_cons, List.length_append] at this ⊢
    rw [this]
    simp [ax_args, cv, Value.category]
    omega
  | .inr (.inr z) :: r => by
    have := ax_args_len g r
    simp only [List.map_cons, lg_sl, List.flatMap_cons, List.length_append] at this ⊢
    rw [this]
    simp [ax_args, cv, Value.category]
    omega
/-- a contract out of its body's walk -/
theorem ct_intro {g : ax_G} {y : MethodName} {cc : ByteArray} {nL : Nat} {ret : Option FieldType} {d : Nat} {As : List ax_V} {M : ax_M} {P : Option ax_V → ax_M → Prop} (k : Nat) (hk : (ax_args As).length + k = nL) (hy : plainName y.cls = true)
    (body : ∀ X : ax_X, X.g = g → ax_b X cc y.cls d → ax_r X ret P → AW X 0 (ax_args As ++ List.replicate k none) [] M) : CT g (y, cc, nL, ret) d As M P := by
  refine Met.ofW (cc := cc) (maxL := nL) (ret := ret) hy rfl ?_
  intro p e s m args below meth c s₁ B hml hv
  obtain ⟨rfl, hP, hK, hS, hD, hG⟩ := hv
  have hts := atoms_spec (ws := Cond.code y cc nL ret :: ax_big) B.pre
  have hl := lv_entry (As.map (cv g)) (n := nL) (by rw [ax_args_len]; omega)
  rw [lg_entry_eq]
  generalize (lg_sl (As.map (cv g)) ++ List.replicate (nL - (lg_sl (As.map (cv g))).length) Slot.unset).toArray = ls at hl ⊢
  refine body (g, p, e, ax_rm d, s, m, (As.map (cv g)).toArray, below, meth, c, nL, 0, 0, MQ below (ax_PQ g P) (As.map (cv g)).toArray s 0 0 (ax_A g)) rfl ⟨B.exec, B.bytes, hml, findClass_of_methodNamed B.named, fun w hw => hts w (List.mem_cons_of_mem _ hw), hK, hS, hD, B.notSynchronized, ⟨Nat.le_refl _, Nat.le_refl _⟩, ⟨Nat.le_refl _, Nat.le_refl _⟩⟩ ⟨B.returns, rfl⟩ hG s.heap [] ls hP va_S.rf ⟨hl.1, hl.2.1, ?_⟩ (by simp; omega)
  intro q hq
  obtain ⟨j, w⟩ := q
  obtain ⟨v, h1, rfl⟩ := ax_lvL_mem.mp hq
  have h2 : (ax_args As)[j]? = some (some v) := by
    rcases Nat.lt_or_ge j (ax_args As).length with h | h
    · rwa [List.getElem?_append_left h] at h1
    · rw [List.getElem?_append_right h] at h1
      have := List.mem_of_getElem? h1
      rw [List.mem_replicate] at this
      cases this.2
  have := ax_args_lv g As 0 j v h2
  rw [Nat.zero_add] at this
  exact hl.2.2 _ this
theorem CT.mono {g : ax_G} {md : ax_Md} {d : Nat} {As : List ax_V} {M : ax_M} {P P' : Option ax_V → ax_M → Prop} (h : CT g md d As M P) (hp : ∀ r M', P r M' → P' r M') : CT g md d As M P' := by
  intro p e ha hc hk s m args below hf happ hpre htr
  obtain ⟨k, o, h1, h2, h3, ⟨⟨⟨r, M', e1, ⟨e2, e5⟩, e3⟩, e4⟩, hL⟩⟩ := h p e ha hc hk s m args below hf happ hpre htr
  exact ⟨k, o, h1, h2, h3, ⟨⟨r, M', e1, ⟨hp r M' e2, e5⟩, e3⟩, e4⟩, hL⟩
section AXR
variable {X : ax_X} {cc : ByteArray} {own : String} {n pc : Nat} {lv : List (Option ax_V)} {rest st : List ax_V} {M : ax_M}
theorem ax_i_of {z : Int} (h : -2147483648 ≤ z ∧ z ≤ 2147483647) : (ax_i z).toInt = z := Int32.toInt_ofInt_of_le (by omega) (by omega)
theorem ax_l_of {z : Int} (h : -9223372036854775808 ≤ z ∧ z ≤ 9223372036854775807) : (ax_l z).toInt = z := Int64.toInt_ofInt_of_le (by omega) (by omega)
theorem ax_i_eq {a b : Int} (h : -2147483648 ≤ a ∧ a ≤ 2147483647 ∧ -2147483648 ≤ b ∧ b ≤ 2147483647) : ax_i a = ax_i b ↔ a = b := by
  constructor
  · intro e
    have := congrArg Int32.toInt e
    rwa [ax_i_of ⟨h.1, h.2.1⟩, ax_i_of h.2.2] at this
  · rintro rfl; rfl
theorem ax_i_lt {a b : Int} (h : -2147483648 ≤ a ∧ a ≤ 2147483647 ∧ -2147483648 ≤ b ∧ b ≤ 2147483647) : ax_i a < ax_i b ↔ a < b := by
  rw [Int32.lt_iff_toInt_lt, ax_i_of ⟨h.1, h.2.1⟩, ax_i_of h.2.2]
theorem ax_i_le {a b : Int} (h : -2147483648 ≤ a ∧ a ≤ 2147483647 ∧ -2147483648 ≤ b ∧ b ≤ 2147483647) : ax_i a ≤ ax_i b ↔ a ≤ b := by
  rw [Int32.le_iff_toInt_le, ax_i_of ⟨h.1, h.2.1⟩, ax_i_of h.2.2]
theorem ax_i_0 : ax_i 0 = 0 := rfl
theorem ax_nat {i : Int} {n : Nat} (h0 : 0 ≤ i) (h1 : i < n) (hn : n ≤ 2147483647) : vp_in (ax_i i) n ∧ (ax_i i).toNatClampNeg = i.toNat ∧ ((ax_i i).toNatClampNeg : Int) = i := by
  have e := ax_i_of (z := i) (by omega)
  have e2 : (ax_i i).toNatClampNeg = i.toNat := by rw [← Int32.toNat_toInt, e]
  exact ⟨vp_in_iff.mpr ⟨by omega, by omega⟩, e2, by omega⟩
theorem rr_iconst {z : Int} (B : ax_b X cc own n) (hd : decode cc pc = .ok (.iconst z, 1)) (k : AW X (pc + 1) lv (aI z :: rest) M) : AW X pc lv rest M := fun hG H locs ls hP hS hl hn => lv_iconst B.1 B.2.1 hd rfl (k hG H locs ls hP hS hl hn)
theorem rr_bipush {z : Int} (B : ax_b X cc own n) (hd : decode cc pc = .ok (.bipush z, 2)) (hz : (Int8.ofInt z).toInt32 = ax_i z) (k : AW X (pc + 2) lv (aI z :: rest) M) : AW X pc lv rest M := fun hG H locs ls hP hS hl hn => lv_bipush B.1 B.2.1 hd hz (k hG H locs ls hP hS hl hn)
theorem rr_sipush {z : Int} (B : ax_b X cc own n) (hd : decode cc pc = .ok (.sipush z, 3)) (hz : (Int16.ofInt z).toInt32 = ax_i z) (k : AW X (pc + 3) lv (aI z :: rest) M) : AW X pc lv rest M := fun hG H locs ls hP hS hl hn => lv_sipush B.1 B.2.1 hd hz (k hG H locs ls hP hS hl hn)
theorem rr_lconst0 (B : ax_b X cc own n) (hd : decode cc pc = .ok (.lconst 0, 1)) (k : AW X (pc + 1) lv (aL 0 :: rest) M) : AW X pc lv rest M := fun hG H locs ls hP hS hl hn => lv_lconst B.1 B.2.1 hd rfl (k hG H locs ls hP hS hl hn)
theorem rr_lconst1 (B : ax_b X cc own n) (hd : decode cc pc = .ok (.lconst 1, 1)) (k : AW X (pc + 1) lv (aL 1 :: rest) M) : AW X pc lv rest M := fun hG H locs ls hP hS hl hn => lv_lconst B.1 B.2.1 hd rfl (k hG H locs ls hP hS hl hn)
theorem rr_ldc {idx : Nat} {z : Int} {v : Int32} (B : ax_b X cc own n) (hd : decode cc pc = .ok (.ldc idx, 2)) (hw : Cond.constant own idx v ∈ ax_big) (hz : v = ax_i z) (k : AW X (pc + 2) lv (aI z :: rest) M) : AW X pc lv rest M := fun hG H locs ls hP hS hl hn => lv_ldc B.1 B.2.1 B.2.2.2.1 (hz ▸ B.2.2.2.2.1 _ hw) hd (k hG H locs ls hP hS hl hn)
theorem rr_ldc2 {idx : Nat} {z : Int} {v : Int64} (B : ax_b X cc own n) (hd : decode cc pc = .ok (.ldc2_w idx, 3)) (hw : Cond.constantLong own idx v ∈ ax_big) (hz : v = ax_l z) (k : AW X (pc + 3) lv (aL z :: rest) M) : AW X pc lv rest M := fun hG H locs ls hP hS hl hn => lv_ldc2 B.1 B.2.1 B.2.2.2.1 (hz ▸ B.2.2.2.2.1 _ hw) hd (k hG H locs ls hP hS hl hn)
theorem rr_iload0 {a : Int} {r : List (Option ax_V)} (B : ax_b X cc own n) (hd : decode cc pc = .ok (.iload_n 0, 1)) (k : AW X (pc + 1) (some (aI a) :: r) (aI a :: rest) M) : AW X pc (some (aI a) :: r) rest M := fun hG H locs ls hP hS hl hn => lv_iload_n B.1 B.2.1 hd rfl (ax_lv_get hl 0 rfl) (k hG H locs ls hP hS hl hn)
theorem rr_lload0 {a : Int} {r : List (Option ax_V)} (B : ax_b X cc own n) (hd : decode cc pc = .ok (.lload_n 0, 1)) (k : AW X (pc + 1) (some (aL a) :: r) (aL a :: rest) M) : AW X pc (some (aL a) :: r) rest M := fun hG H locs ls hP hS hl hn => lv_lload_n B.1 B.2.1 hd rfl (ax_lv_get hl 0 rfl) (k hG H locs ls hP hS hl hn)
theorem rr_aload0 {a : Nat} {r : List (Option ax_V)} (B : ax_b X cc own n) (hd : decode cc pc = .ok (.aload_n 0, 1)) (k : AW X (pc + 1) (some (aR a) :: r) (aR a :: rest) M) : AW X pc (some (aR a) :: r) rest M := fun hG H locs ls hP hS hl hn => lv_aload_n B.1 B.2.1 hd rfl (ax_lv_get hl 0 rfl) (k hG H locs ls hP hS hl hn)
theorem rr_istore0 {a : Int} {old : Option ax_V} {r : List (Option ax_V)} (B : ax_b X cc own n) (hd : decode cc pc = .ok (.istore_n 0, 1)) (k : AW X (pc + 1) (some (aI a) :: r) rest M) : AW X pc (old :: r) (aI a :: rest) M := fun hG H locs ls hP hS hl hn => lv_istore_n B.1 B.2.1 hd rfl hl (by rw [← hn]; simp only [List.length_cons]; show 0 < _; omega) rfl (fun ls1 h1 => k hG H locs ls1 hP hS (ax_lv_st1 (v := aI a) h1 rfl ax_h0) (by rw [← hn]; rfl))
theorem rr_astore0 {a : Nat} {old : Option ax_V} {r : List (Option ax_V)} (B : ax_b X cc own n) (hd : decode cc pc = .ok (.astore_n 0, 1)) (k : AW X (pc + 1) (some (aR a) :: r) rest M) : AW X pc (old :: r) (aR a :: rest) M := fun hG H locs ls hP hS hl hn => lv_astore_n B.1 B.2.1 hd rfl hl (by rw [← hn]; simp only [List.length_cons]; show 0 < _; omega) rfl (fun ls1 h1 => k hG H locs ls1 hP hS (ax_lv_st1 (v := aR a) h1 rfl ax_h0) (by rw [← hn]; rfl))
theorem rr_lstore0 {a : Int} {old old2 : Option ax_V} {r : List (Option ax_V)} (B : ax_b X cc own n) (hd : decode cc pc = .ok (.lstore_n 0, 1)) (k : AW X (pc + 1) (some (aL a) :: none :: r) rest M) : AW X pc (old :: old2 :: r) (aL a :: rest) M := fun hG H locs ls hP hS hl hn => lv_lstore_n B.1 B.2.1 hd rfl hl (by rw [← hn]; simp only [List.length_cons]; show 0 + 1 < _; omega) rfl (fun ls1 h1 => k hG H locs ls1 hP hS (ax_lv_st2 (v := aL a) h1 rfl ax_h0) (by rw [← hn]; rfl))
theorem rr_iinc0 {a z : Int} {r : List (Option ax_V)} (B : ax_b X cc own n) (hd : decode cc pc = .ok (.iinc 0 z, 3)) (k : AW X (pc + 3) (some (aI (a + z)) :: r) rest M) : AW X pc (some (aI a) :: r) rest M := by
  intro hG H locs ls hP hS hl hn
  obtain ⟨kk, hkk⟩ := List.getElem?_of_mem (ax_lvL_mem.mpr ⟨aI a, (rfl : (some (aI a) :: r)[0]? = some (some (aI a))), (rfl : cv X.g (aI a) = cv X.g (aI a))⟩)
  exact lv_iinc B.1 B.2.1 hd hl hkk (Int32.ofInt_add a z).symm (by rw [← hn]; simp) rfl (fun ls1 h1 => k hG H locs ls1 hP hS (ax_lv_st1 (v := aI (a + z)) h1 rfl ax_h0) (by rw [← hn]; rfl))
theorem rr_iload1 {a : Int} {x0 : Option ax_V} {r : List (Option ax_V)} (B : ax_b X cc own n) (hd : decode cc pc = .ok (.iload_n 1, 1)) (k : AW X (pc + 1) (x0 :: some (aI a) :: r) (aI a :: rest) M) : AW X pc (x0 :: some (aI a) :: r) rest M := fun hG H locs ls hP hS hl hn => lv_iload_n B.1 B.2.1 hd rfl (ax_lv_get hl 1 rfl) (k hG H locs ls hP hS hl hn)
theorem rr_lload1 {a : Int} {x0 : Option ax_V} {r : List (Option ax_V)} (B : ax_b X cc own n) (hd : decode cc pc = .ok (.lload_n 1, 1)) (k : AW X (pc + 1) (x0 :: some (aL a) :: r) (aL a :: rest) M) : AW X pc (x0 :: some (aL a) :: r) rest M := fun hG H locs ls hP hS hl hn => lv_lload_n B.1 B.2.1 hd rfl (ax_lv_get hl 1 rfl) (k hG H locs ls hP hS hl hn)
theorem rr_aload1 {a : Nat} {x0 : Option ax_V} {r : List (Option ax_V)} (B : ax_b X cc own n) (hd : decode cc pc = .ok (.aload_n 1, 1)) (k : AW X (pc + 1) (x0 :: some (aR a) :: r) (aR a :: rest) M) : AW X pc (x0 :: some (aR a) :: r) rest M := fun hG H locs ls hP hS hl hn => lv_aload_n B.1 B.2.1 hd rfl (ax_lv_get hl 1 rfl) (k hG H locs ls hP hS hl hn)
theorem rr_istore1 {a : Int} {old : Option ax_V} {x0 : Option ax_V} {r : List (Option ax_V)} (B : ax_b X cc own n) (hd : decode cc pc = .ok (.istore_n 1, 1)) (hx : ax_notL x0 = true) (k : AW X (pc + 1) (x0 :: some (aI a) :: r) rest M) : AW X pc (x0 :: old :: r) (aI a :: rest) M := fun hG H locs ls hP hS hl hn => lv_istore_n B.1 B.2.1 hd rfl hl (by rw [← hn]; simp only [List.length_cons]; show 1 < _; omega) rfl (fun ls1 h1 => k hG H locs ls1 hP hS (ax_lv_st1 (v := aI a) h1 rfl (ax_hx (i := 0) rfl hx)) (by rw [← hn]; rfl))
theorem rr_astore1 {a : Nat} {old : Option ax_V} {x0 : Option ax_V} {r : List (Option ax_V)} (B : ax_b X cc own n) (hd : decode cc pc = .ok (.astore_n 1, 1)) (hx : ax_notL x0 = true) (k : AW X (pc + 1) (x0 :: some (aR a) :: r) rest M) : AW X pc (x0 :: old :: r) (aR a :: rest) M := fun hG H locs ls hP hS hl hn => lv_astore_n B.1 B.2.1 hd rfl hl (by rw [← hn]; simp only [List.length_cons]; show 1 < _; omega) rfl (fun ls1 h1 => k hG H locs ls1 hP hS (ax_lv_st1 (v := aR a) h1 rfl (ax_hx (i := 0) rfl hx)) (by rw [← hn]; rfl))
theorem rr_lstore1 {a : Int} {old old2 : Option ax_V} {x0 : Option ax_V} {r : List (Option ax_V)} (B : ax_b X cc own n) (hd : decode cc pc = .ok (.lstore_n 1, 1)) (hx : ax_notL x0 = true) (k : AW X (pc + 1) (x0 :: some (aL a) :: none :: r) rest M) : AW X pc (x0 :: old :: old2 :: r) (aL a :: rest) M := fun hG H locs ls hP hS hl hn => lv_lstore_n B.1 B.2.1 hd rfl hl (by rw [← hn]; simp only [List.length_cons]; show 1 + 1 < _; omega) rfl (fun ls1 h1 => k hG H locs ls1 hP hS (ax_lv_st2 (v := aL a) h1 rfl (ax_hx (i := 0) rfl hx)) (by rw [← hn]; rfl))
theorem rr_iinc1 {a z : Int} {x0 : Option ax_V} {r : List (Option ax_V)} (B : ax_b X cc own n) (hd : decode cc pc = .ok (.iinc 1 z, 3)) (hx : ax_notL x0 = true) (k : AW X (pc + 3) (x0 :: some (aI (a + z)) :: r) rest M) : AW X pc (x0 :: some (aI a) :: r) rest M := by
  intro hG H locs ls hP hS hl hn
  obtain ⟨kk, hkk⟩ := List.getElem?_of_mem (ax_lvL_mem.mpr ⟨aI a, (rfl : (x0 :: some (aI a) :: r)[1]? = some (some (aI a))), (rfl : cv X.g (aI a) = cv X.g (aI a))⟩)
  exact lv_iinc B.1 B.2.1 hd hl hkk (Int32.ofInt_add a z).symm (by rw [← hn]; simp) rfl (fun ls1 h1 => k hG H locs ls1 hP hS (ax_lv_st1 (v := aI (a + z)) h1 rfl (ax_hx (i := 0) rfl hx)) (by rw [← hn]; rfl))
theorem rr_iload2 {a : Int} {x0 x1 : Option ax_V} {r : List (Option ax_V)} (B : ax_b X cc own n) (hd : decode cc pc = .ok (.iload_n 2, 1)) (k : AW X (pc + 1) (x0 :: x1 :: some (aI a) :: r) (aI a :: rest) M) : AW X pc (x0 :: x1 :: some (aI a) :: r) rest M := fun hG H locs ls hP hS hl hn => lv_iload_n B.1 B.2.1 hd rfl (ax_lv_get hl 2 rfl) (k hG H locs ls hP hS hl hn)
theorem rr_lload2 {a : Int} {x0 x1 : Option ax_V} {r : List (Option ax_V)} (B : ax_b X cc own n) (hd : decode cc pc = .ok (.lload_n 2, 1)) (k : AW X (pc + 1) (x0 :: x1 :: some (aL a) :: r) (aL a :: rest) M) : AW X pc (x0 :: x1 :: some (aL a) :: r) rest M := fun hG H locs ls hP hS hl hn => lv_lload_n B.1 B.2.1 hd rfl (ax_lv_get hl 2 rfl) (k hG H locs ls hP hS hl hn)
theorem rr_aload2 {a : Nat} {x0 x1 : Option ax_V} {r : List (Option ax_V)} (B : ax_b X cc own n) (hd : decode cc pc = .ok (.aload_n 2, 1)) (k : AW X (pc + 1) (x0 :: x1 :: some (aR a) :: r) (aR a :: rest) M) : AW X pc (x0 :: x1 :: some (aR a) :: r) rest M := fun hG H locs ls hP hS hl hn => lv_aload_n B.1 B.2.1 hd rfl (ax_lv_get hl 2 rfl) (k hG H locs ls hP hS hl hn)
theorem rr_istore2 {a : Int} {old : Option ax_V} {x0 x1 : Option ax_V} {r : List (Option ax_V)} (B : ax_b X cc own n) (hd : decode cc pc = .ok (.istore_n 2, 1)) (hx : ax_notL x1 = true) (k : AW X (pc + 1) (x0 :: x1 :: some (aI a) :: r) rest M) : AW X pc (x0 :: x1 :: old :: r) (aI a :: rest) M := fun hG H locs ls hP hS hl hn => lv_istore_n B.1 B.2.1 hd rfl hl (by rw [← hn]; simp only [List.length_cons]; show 2 < _; omega) rfl (fun ls1 h1 => k hG H locs ls1 hP hS (ax_lv_st1 (v := aI a) h1 rfl (ax_hx (i := 1) rfl hx)) (by rw [← hn]; rfl))
theorem rr_astore2 {a : Nat} {old : Option ax_V} {x0 x1 : Option ax_V} {r : List (Option ax_V)} (B : ax_b X cc own n) (hd : decode cc pc = .ok (.astore_n 2, 1)) (hx : ax_notL x1 = true) (k : AW X (pc + 1) (x0 :: x1 :: some (aR a) :: r) rest M) : AW X pc (x0 :: x1 :: old :: r) (aR a :: rest) M := fun hG H locs ls hP hS hl hn => lv_astore_n B.1 B.2.1 hd rfl hl (by rw [← hn]; simp only [List.length_cons]; show 2 < _; omega) rfl (fun ls1 h1 => k hG H locs ls1 hP hS (ax_lv_st1 (v := aR a) h1 rfl (ax_hx (i := 1) rfl hx)) (by rw [← hn]; rfl))
theorem rr_lstore2 {a : Int} {old old2 : Option ax_V} {x0 x1 : Option ax_V} {r : List (Option ax_V)} (B : ax_b X cc own n) (hd : decode cc pc = .ok (.lstore_n 2, 1)) (hx : ax_notL x1 = true) (k : AW X (pc + 1) (x0 :: x1 :: some (aL a) :: none :: r) rest M) : AW X pc (x0 :: x1 :: old :: old2 :: r) (aL a :: rest) M := fun hG H locs ls hP hS hl hn => lv_lstore_n B.1 B.2.1 hd rfl hl (by rw [← hn]; simp only [List.length_cons]; show 2 + 1 < _; omega) rfl (fun ls1 h1 => k hG H locs ls1 hP hS (ax_lv_st2 (v := aL a) h1 rfl (ax_hx (i := 1) rfl hx)) (by rw [← hn]; rfl))
theorem rr_iinc2 {a z : Int} {x0 x1 : Option ax_V} {r : List (Option ax_V)} (B : ax_b X cc own n) (hd : decode cc pc = .ok (.iinc 2 z, 3)) (hx : ax_notL x1 = true) (k : AW X (pc + 3) (x0 :: x1 :: some (aI (a + z)) :: r) rest M) : AW X pc (x0 :: x1 :: some (aI a) :: r) rest M := by
  intro hG H locs ls hP hS hl hn
  obtain ⟨kk, hkk⟩ := List.getElem?_of_mem (ax_lvL_mem.mpr ⟨aI a, (rfl : (x0 :: x1 :: some (aI a) :: r)[2]? = some (some (aI a))), (rfl : cv X.g (aI a) = cv X.g (aI a))⟩)
  exact lv_iinc B.1 B.2.1 hd hl hkk (Int32.ofInt_add a z).symm (by rw [← hn]; simp) rfl (fun ls1 h1 => k hG H locs ls1 hP hS (ax_lv_st1 (v := aI (a + z)) h1 rfl (ax_hx (i := 1) rfl hx)) (by rw [← hn]; rfl))
theorem rr_iload3 {a : Int} {x0 x1 x2 : Option ax_V} {r : List (Option ax_V)} (B : ax_b X cc own n) (hd : decode cc pc = .ok (.iload_n 3, 1)) (k : AW X (pc + 1) (x0 :: x1 :: x2 :: some (aI a) :: r) (aI a :: rest) M) : AW X pc (x0 :: x1 :: x2 :: some (aI a) :: r) rest M := fun hG H locs ls hP hS hl hn => lv_iload_n B.1 B.2.1 hd rfl (ax_lv_get hl 3 rfl) (k hG H locs ls hP hS hl hn)
theorem rr_lload3 {a : Int} {x0 x1 x2 : Option ax_V} {r : List (Option ax_V)} (B : ax_b X cc own n) (hd : decode cc pc = .ok (.lload_n 3, 1)) (k : AW X (pc + 1) (x0 :: x1 :: x2 :: some (aL a) :: r) (aL a :: rest) M) : AW X pc (x0 :: x1 :: x2 :: some (aL a) :: r) rest M := fun hG H locs ls hP hS hl hn => lv_lload_n B.1 B.2.1 hd rfl (ax_lv_get hl 3 rfl) (k hG H locs ls hP hS hl hn)
theorem rr_aload3 {a : Nat} {x0 x1 x2 : Option ax_V} {r : List (Option ax_V)} (B : ax_b X cc own n) (hd : decode cc pc = .ok (.aload_n 3, 1)) (k : AW X (pc + 1) (x0 :: x1 :: x2 :: some (aR a) :: r) (aR a :: rest) M) : AW X pc (x0 :: x1 :: x2 :: some (aR a) :: r) rest M := fun hG H locs ls hP hS hl hn => lv_aload_n B.1 B.2.1 hd rfl (ax_lv_get hl 3 rfl) (k hG H locs ls hP hS hl hn)
theorem rr_istore3 {a : Int} {old : Option ax_V} {x0 x1 x2 : Option ax_V} {r : List (Option ax_V)} (B : ax_b X cc own n) (hd : decode cc pc = .ok (.istore_n 3, 1)) (hx : ax_notL x2 = true) (k : AW X (pc + 1) (x0 :: x1 :: x2 :: some (aI a) :: r) rest M) : AW X pc (x0 :: x1 :: x2 :: old :: r) (aI a :: rest) M := fun hG H locs ls hP hS hl hn => lv_istore_n B.1 B.2.1 hd rfl hl (by rw [← hn]; simp only [List.length_cons]; show 3 < _; omega) rfl (fun ls1 h1 => k hG H locs ls1 hP hS (ax_lv_st1 (v := aI a) h1 rfl (ax_hx (i := 2) rfl hx)) (by rw [← hn]; rfl))
theorem rr_astore3 {a : Nat} {old : Option ax_V} {x0 x1 x2 : Option ax_V} {r : List (Option ax_V)} (B : ax_b X cc own n) (hd : decode cc pc = .ok (.astore_n 3, 1)) (hx : ax_notL x2 = true) (k : AW X (pc + 1) (x0 :: x1 :: x2 :: some (aR a) :: r) rest M) : AW X pc (x0 :: x1 :: x2 :: old :: r) (aR a :: rest) M := fun hG H locs ls hP hS hl hn => lv_astore_n B.1 B.2.1 hd rfl hl (by rw [← hn]; simp only [List.length_cons]; show 3 < _; omega) rfl (fun ls1 h1 => k hG H locs ls1 hP hS (ax_lv_st1 (v := aR a) h1 rfl (ax_hx (i := 2) rfl hx)) (by rw [← hn]; rfl))
theorem rr_lstore3 {a : Int} {old old2 : Option ax_V} {x0 x1 x2 : Option ax_V} {r : List (Option ax_V)} (B : ax_b X cc own n) (hd : decode cc pc = .ok (.lstore_n 3, 1)) (hx : ax_notL x2 = true) (k : AW X (pc + 1) (x0 :: x1 :: x2 :: some (aL a) :: none :: r) rest M) : AW X pc (x0 :: x1 :: x2 :: old :: old2 :: r) (aL a :: rest) M := fun hG H locs ls hP hS hl hn => lv_lstore_n B.1 B.2.1 hd rfl hl (by rw [← hn]; simp only [List.length_cons]; show 3 + 1 < _; omega) rfl (fun ls1 h1 => k hG H locs ls1 hP hS (ax_lv_st2 (v := aL a) h1 rfl (ax_hx (i := 2) rfl hx)) (by rw [← hn]; rfl))
theorem rr_iinc3 {a z : Int} {x0 x1 x2 : Option ax_V} {r : List (Option ax_V)} (B : ax_b X cc own n) (hd : decode cc pc = .ok (.iinc 3 z, 3)) (hx : ax_notL x2 = true) (k : AW X (pc + 3) (x0 :: x1 :: x2 :: some (aI (a + z)) :: r) rest M) : AW X pc (x0 :: x1 :: x2 :: some (aI a) :: r) rest M := by
  intro hG H locs ls hP hS hl hn
  obtain ⟨kk, hkk⟩ := List.getElem?_of_mem (ax_lvL_mem.mpr ⟨aI a, (rfl : (x0 :: x1 :: x2 :: some (aI a) :: r)[3]? = some (some (aI a))), (rfl : cv X.g (aI a) = cv X.g (aI a))⟩)
  exact lv_iinc B.1 B.2.1 hd hl hkk (Int32.ofInt_add a z).symm (by rw [← hn]; simp) rfl (fun ls1 h1 => k hG H locs ls1 hP hS (ax_lv_st1 (v := aI (a + z)) h1 rfl (ax_hx (i := 2) rfl hx)) (by rw [← hn]; rfl))
theorem rr_iload4 {a : Int} {x0 x1 x2 x3 : Option ax_V} {r : List (Option ax_V)} (B : ax_b X cc own n) (hd : decode cc pc = .ok (.iload 4, 2)) (k : AW X (pc + 2) (x0 :: x1 :: x2 :: x3 :: some (aI a) :: r) (aI a :: rest) M) : AW X pc (x0 :: x1 :: x2 :: x3 :: some (aI a) :: r) rest M := fun hG H locs ls hP hS hl hn => lv_iload B.1 B.2.1 hd (ax_lv_get hl 4 rfl) (k hG H locs ls hP hS hl hn)
theorem rr_lload4 {a : Int} {x0 x1 x2 x3 : Option ax_V} {r : List (Option ax_V)} (B : ax_b X cc own n) (hd : decode cc pc = .ok (.lload 4, 2)) (k : AW X (pc + 2) (x0 :: x1 :: x2 :: x3 :: some (aL a) :: r) (aL a :: rest) M) : AW X pc (x0 :: x1 :: x2 :: x3 :: some (aL a) :: r) rest M := fun hG H locs ls hP hS hl hn => lv_lload B.1 B.2.1 hd (ax_lv_get hl 4 rfl) (k hG H locs ls hP hS hl hn)
theorem rr_istore4 {a : Int} {old : Option ax_V} {x0 x1 x2 x3 : Option ax_V} {r : List (Option ax_V)} (B : ax_b X cc own n) (hd : decode cc pc = .ok (.istore 4, 2)) (hx : ax_notL x3 = true) (k : AW X (pc + 2) (x0 :: x1 :: x2 :: x3 :: some (aI a) :: r) rest M) : AW X pc (x0 :: x1 :: x2 :: x3 :: old :: r) (aI a :: rest) M := fun hG H locs ls hP hS hl hn => lv_istore B.1 B.2.1 hd hl (by rw [← hn]; simp only [List.length_cons]; show 4 < _; omega) rfl (fun ls1 h1 => k hG H locs ls1 hP hS (ax_lv_st1 (v := aI a) h1 rfl (ax_hx (i := 3) rfl hx)) (by rw [← hn]; rfl))
theorem rr_lstore4 {a : Int} {old old2 : Option ax_V} {x0 x1 x2 x3 : Option ax_V} {r : List (Option ax_V)} (B : ax_b X cc own n) (hd : decode cc pc = .ok (.lstore 4, 2)) (hx : ax_notL x3 = true) (k : AW X (pc + 2) (x0 :: x1 :: x2 :: x3 :: some (aL a) :: none :: r) rest M) : AW X pc (x0 :: x1 :: x2 :: x3 :: old :: old2 :: r) (aL a :: rest) M := fun hG H locs ls hP hS hl hn => lv_lstore B.1 B.2.1 hd hl (by rw [← hn]; simp only [List.length_cons]; show 4 + 1 < _; omega) rfl (fun ls1 h1 => k hG H locs ls1 hP hS (ax_lv_st2 (v := aL a) h1 rfl (ax_hx (i := 3) rfl hx)) (by rw [← hn]; rfl))
theorem rr_iinc4 {a z : Int} {x0 x1 x2 x3 : Option ax_V} {r : List (Option ax_V)} (B : ax_b X cc own n) (hd : decode cc pc = .ok (.iinc 4 z, 3)) (hx : ax_notL x3 = true) (k : AW X (pc + 3) (x0 :: x1 :: x2 :: x3 :: some (aI (a + z)) :: r) rest M) : AW X pc (x0 :: x1 :: x2 :: x3 :: some (aI a) :: r) rest M := by
  intro hG H locs ls hP hS hl hn
  obtain ⟨kk, hkk⟩ := List.getElem?_of_mem (ax_lvL_mem.mpr ⟨aI a, (rfl : (x0 :: x1 :: x2 :: x3 :: some (aI a) :: r)[4]? = some (some (aI a))), (rfl : cv X.g (aI a) = cv X.g (aI a))⟩)
  exact lv_iinc B.1 B.2.1 hd hl hkk (Int32.ofInt_add a z).symm (by rw [← hn]; simp) rfl (fun ls1 h1 => k hG H locs ls1 hP hS (ax_lv_st1 (v := aI (a + z)) h1 rfl (ax_hx (i := 3) rfl hx)) (by rw [← hn]; rfl))
theorem rr_iload5 {a : Int} {x0 x1 x2 x3 x4 : Option ax_V} {r : List (Option ax_V)} (B : ax_b X cc own n) (hd : decode cc pc = .ok (.iload 5, 2)) (k : AW X (pc + 2) (x0 :: x1 :: x2 :: x3 :: x4 :: some (aI a) :: r) (aI a :: rest) M) : AW X pc (x0 :: x1 :: x2 :: x3 :: x4 :: some (aI a) :: r) rest M := fun hG H locs ls hP hS hl hn => lv_iload B.1 B.2.1 hd (ax_lv_get hl 5 rfl) (k hG H locs ls hP hS hl hn)
theorem rr_lload5 {a : Int} {x0 x1 x2 x3 x4 : Option ax_V} {r : List (Option ax_V)} (B : ax_b X cc own n) (hd : decode cc pc = .ok (.lload 5, 2)) (k : AW X (pc + 2) (x0 :: x1 :: x2 :: x3 :: x4 :: some (aL a) :: r) (aL a :: rest) M) : AW X pc (x0 :: x1 :: x2 :: x3 :: x4 :: some (aL a) :: r) rest M := fun hG H locs ls hP hS hl hn => lv_lload B.1 B.2.1 hd (ax_lv_get hl 5 rfl) (k hG H locs ls hP hS hl hn)
theorem rr_istore5 {a : Int} {old : Option ax_V} {x0 x1 x2 x3 x4 : Option ax_V} {r : List (Option ax_V)} (B : ax_b X cc own n) (hd : decode cc pc = .ok (.istore 5, 2)) (hx : ax_notL x4 = true) (k : AW X (pc + 2) (x0 :: x1 :: x2 :: x3 :: x4 :: some (aI a) :: r) rest M) : AW X pc (x0 :: x1 :: x2 :: x3 :: x4 :: old :: r) (aI a :: rest) M := fun hG H locs ls hP hS hl hn => lv_istore B.1 B.2.1 hd hl (by rw [← hn]; simp only [List.length_cons]; show 5 < _; omega) rfl (fun ls1 h1 => k hG H locs ls1 hP hS (ax_lv_st1 (v := aI a) h1 rfl (ax_hx (i := 4) rfl hx)) (by rw [← hn]; rfl))
theorem rr_lstore5 {a : Int} {old old2 : Option ax_V} {x0 x1 x2 x3 x4 : Option ax_V} {r : List (Option ax_V)} (B : ax_b X cc own n) (hd : decode cc pc = .ok (.lstore 5, 2)) (hx : ax_notL x4 = true) (k : AW X (pc + 2) (x0 :: x1 :: x2 :: x3 :: x4 :: some (aL a) :: none :: r) rest M) : AW X pc (x0 :: x1 :: x2 :: x3 :: x4 :: old :: old2 :: r) (aL a :: rest) M := fun hG H locs ls hP hS hl hn => lv_lstore B.1 B.2.1 hd hl (by rw [← hn]; simp only [List.length_cons]; show 5 + 1 < _; omega) rfl (fun ls1 h1 => k hG H locs ls1 hP hS (ax_lv_st2 (v := aL a) h1 rfl (ax_hx (i := 4) rfl hx)) (by rw [← hn]; rfl))
theorem rr_iinc5 {a z : Int} {x0 x1 x2 x3 x4 : Option ax_V} {r : List (Option ax_V)} (B : ax_b X cc own n) (hd : decode cc pc = .ok (.iinc 5 z, 3)) (hx : ax_notL x4 = true) (k : AW X (pc + 3) (x0 :: x1 :: x2 :: x3 :: x4 :: some (aI (a + z)) :: r) rest M) : AW X pc (x0 :: x1 :: x2 :: x3 :: x4 :: some (aI a) :: r) rest M := by
  intro hG H locs ls hP hS hl hn
  obtain ⟨kk, hkk⟩ := List.getElem?_of_mem (ax_lvL_mem.mpr ⟨aI a, (rfl : (x0 :: x1 :: x2 :: x3 :: x4 :: some (aI a) :: r)[5]? = some (some (aI a))), (rfl : cv X.g (aI a) = cv X.g (aI a))⟩)
  exact lv_iinc B.1 B.2.1 hd hl hkk (Int32.ofInt_add a z).symm (by rw [← hn]; simp) rfl (fun ls1 h1 => k hG H locs ls1 hP hS (ax_lv_st1 (v := aI (a + z)) h1 rfl (ax_hx (i := 4) rfl hx)) (by rw [← hn]; rfl))
theorem rr_iload6 {a : Int} {x0 x1 x2 x3 x4 x5 : Option ax_V} {r : List (Option ax_V)} (B : ax_b X cc own n) (hd : decode cc pc = .ok (.iload 6, 2)) (k : AW X (pc + 2) (x0 :: x1 :: x2 :: x3 :: x4 :: x5 :: some (aI a) :: r) (aI a :: rest) M) : AW X pc (x0 :: x1 :: x2 :: x3 :: x4 :: x5 :: some (aI a) :: r) rest M := fun hG H locs ls hP hS hl hn => lv_iload B.1 B.2.1 hd (ax_lv_get hl 6 rfl) (k hG H locs ls hP hS hl hn)
theorem rr_lload6 {a : Int} {x0 x1 x2 x3 x4 x5 : Option ax_V} {r : List (Option ax_V)} (B : ax_b X cc own n) (hd : decode cc pc = .ok (.lload 6, 2)) (k : AW X (pc + 2) (x0 :: x1 :: x2 :: x3 :: x4 :: x5 :: some (aL a) :: r) (aL a :: rest) M) : AW X pc (x0 :: x1 :: x2 :: x3 :: x4 :: x5 :: some (aL a) :: r) rest M := fun hG H locs ls hP hS hl hn => lv_lload B.1 B.2.1 hd (ax_lv_get hl 6 rfl) (k hG H locs ls hP hS hl hn)
theorem rr_istore6 {a : Int} {old : Option ax_V} {x0 x1 x2 x3 x4 x5 : Option ax_V} {r : List (Option ax_V)} (B : ax_b X cc own n) (hd : decode cc pc = .ok (.istore 6, 2)) (hx : ax_notL x5 = true) (k : AW X (pc + 2) (x0 :: x1 :: x2 :: x3 :: x4 :: x5 :: some (aI a) :: r) rest M) : AW X pc (x0 :: x1 :: x2 :: x3 :: x4 :: x5 :: old :: r) (aI a :: rest) M := fun hG H locs ls hP hS hl hn => lv_istore B.1 B.2.1 hd hl (by rw [← hn]; simp only [List.length_cons]; show 6 < _; omega) rfl (fun ls1 h1 => k hG H locs ls1 hP hS (ax_lv_st1 (v := aI a) h1 rfl (ax_hx (i := 5) rfl hx)) (by rw [← hn]; rfl))
theorem rr_lstore6 {a : Int} {old old2 : Option ax_V} {x0 x1 x2 x3 x4 x5 : Option ax_V} {r : List (Option ax_V)} (B : ax_b X cc own n) (hd : decode cc pc = .ok (.lstore 6, 2)) (hx : ax_notL x5 = true) (k : AW X (pc + 2) (x0 :: x1 :: x2 :: x3 :: x4 :: x5 :: some (aL a) :: none :: r) rest M) : AW X pc (x0 :: x1 :: x2 :: x3 :: x4 :: x5 :: old :: old2 :: r) (aL a :: rest) M := fun hG H locs ls hP hS hl hn => lv_lstore B.1 B.2.1 hd hl (by rw [← hn]; simp only [List.length_cons]; show 6 + 1 < _; omega) rfl (fun ls1 h1 => k hG H locs ls1 hP hS (ax_lv_st2 (v := aL a) h1 rfl (ax_hx (i := 5) rfl hx)) (by rw [← hn]; rfl))
theorem rr_iinc6 {a z : Int} {x0 x1 x2 x3 x4 x5 : Option ax_V} {r : List (Option ax_V)} (B : ax_b X cc own n) (hd : decode cc pc = .ok (.iinc 6 z, 3)) (hx : ax_notL x5 = true) (k : AW X (pc + 3) (x0 :: x1 :: x2 :: x3 :: x4 :: x5 :: some (aI (a + z)) :: r) rest M) : AW X pc (x0 :: x1 :: x2 :: x3 :: x4 :: x5 :: some (aI a) :: r) rest M := by
  intro hG H locs ls hP hS hl hn
  obtain ⟨kk, hkk⟩ := List.getElem?_of_mem (ax_lvL_mem.mpr ⟨aI a, (rfl : (x0 :: x1 :: x2 :: x3 :: x4 :: x5 :: some (aI a) :: r)[6]? = some (some (aI a))), (rfl : cv X.g (aI a) = cv X.g (aI a))⟩)
  exact lv_iinc B.1 B.2.1 hd hl hkk (Int32.ofInt_add a z).symm (by rw [← hn]; simp) rfl (fun ls1 h1 => k hG H locs ls1 hP hS (ax_lv_st1 (v := aI (a + z)) h1 rfl (ax_hx (i := 5) rfl hx)) (by rw [← hn]; rfl))
theorem rr_iload7 {a : Int} {x0 x1 x2 x3 x4 x5 x6 : Option ax_V} {r : List (Option ax_V)} (B : ax_b X cc own n) (hd : decode cc pc = .ok (.iload 7, 2)) (k : AW X (pc + 2) (x0 :: x1 :: x2 :: x3 :: x4 :: x5 :: x6 :: some (aI a) :: r) (aI a :: rest) M) : AW X pc (x0 :: x1 :: x2 :: x3 :: x4 :: x5 :: x6 :: some (aI a) :: r) rest M := fun hG H locs ls hP hS hl hn => lv_iload B.1 B.2.1 hd (ax_lv_get hl 7 rfl) (k hG H locs ls hP hS hl hn)
theorem rr_lload7 {a : Int} {x0 x1 x2 x3 x4 x5 x6 : Option ax_V} {r : List (Option ax_V)} (B : ax_b X cc own n) (hd : decode cc pc = .ok (.lload 7, 2)) (k : AW X (pc + 2) (x0 :: x1 :: x2 :: x3 :: x4 :: x5 :: x6 :: some (aL a) :: r) (aL a :: rest) M) : AW X pc (x0 :: x1 :: x2 :: x3 :: x4 :: x5 :: x6 :: some (aL a) :: r) rest M := fun hG H locs ls hP hS hl hn => lv_lload B.1 B.2.1 hd (ax_lv_get hl 7 rfl) (k hG H locs ls hP hS hl hn)
theorem rr_istore7 {a : Int} {old : Option ax_V} {x0 x1 x2 x3 x4 x5 x6 : Option ax_V} {r : List (Option ax_V)} (B : ax_b X cc own n) (hd : decode cc pc = .ok (.istore 7, 2)) (hx : ax_notL x6 = true) (k : AW X (pc + 2) (x0 :: x1 :: x2 :: x3 :: x4 :: x5 :: x6 :: some (aI a) :: r) rest M) : AW X pc (x0 :: x1 :: x2 :: x3 :: x4 :: x5 :: x6 :: old :: r) (aI a :: rest) M := fun hG H locs ls hP hS hl hn => lv_istore B.1 B.2.1 hd hl (by rw [← hn]; simp only [List.length_cons]; show 7 < _; omega) rfl (fun ls1 h1 => k hG H locs ls1 hP hS (ax_lv_st1 (v := aI a) h1 rfl (ax_hx (i := 6) rfl hx)) (by rw [← hn]; rfl))
theorem rr_lstore7 {a : Int} {old old2 : Option ax_V} {x0 x1 x2 x3 x4 x5 x6 : Option ax_V} {r : List (Option ax_V)} (B : ax_b X cc own n) (hd : decode cc pc = .ok (.lstore 7, 2)) (hx : ax_notL x6 = true) (k : AW X (pc + 2) (x0 :: x1 :: x2 :: x3 :: x4 :: x5 :: x6 :: some (aL a) :: none :: r) rest M) : AW X pc (x0 :: x1 :: x2 :: x3 :: x4 :: x5 :: x6 :: old :: old2 :: r) (aL a :: rest) M := fun hG H locs ls hP hS hl hn => lv_lstore B.1 B.2.1 hd hl (by rw [← hn]; simp only [List.length_cons]; show 7 + 1 < _; omega) rfl (fun ls1 h1 => k hG H locs ls1 hP hS (ax_lv_st2 (v := aL a) h1 rfl (ax_hx (i := 6) rfl hx)) (by rw [← hn]; rfl))
theorem rr_iinc7 {a z : Int} {x0 x1 x2 x3 x4 x5 x6 : Option ax_V} {r : List (Option ax_V)} (B : ax_b X cc own n) (hd : decode cc pc = .ok (.iinc 7 z, 3)) (hx : ax_notL x6 = true) (k : AW X (pc + 3) (x0 :: x1 :: x2 :: x3 :: x4 :: x5 :: x6 :: some (aI (a + z)) :: r) rest M) : AW X pc (x0 :: x1 :: x2 :: x3 :: x4 :: x5 :: x6 :: some (aI a) :: r) rest M := by
  intro hG H locs ls hP hS hl hn
  obtain ⟨kk, hkk⟩ := List.getElem?_of_mem (ax_lvL_mem.mpr ⟨aI a, (rfl : (x0 :: x1 :: x2 :: x3 :: x4 :: x5 :: x6 :: some (aI a) :: r)[7]? = some (some (aI a))), (rfl : cv X.g (aI a) = cv X.g (aI a))⟩)
  exact lv_iinc B.1 B.2.1 hd hl hkk (Int32.ofInt_add a z).symm (by rw [← hn]; simp) rfl (fun ls1 h1 => k hG H locs ls1 hP hS (ax_lv_st1 (v := aI (a + z)) h1 rfl (ax_hx (i := 6) rfl hx)) (by rw [← hn]; rfl))
theorem rr_iload8 {a : Int} {x0 x1 x2 x3 x4 x5 x6 x7 : Option ax_V} {r : List (Option ax_V)} (B : ax_b X cc own n) (hd : decode cc pc = .ok (.iload 8, 2)) (k : AW X (pc + 2) (x0 :: x1 :: x2 :: x3 :: x4 :: x5 :: x6 :: x7 :: some (aI a) :: r) (aI a :: rest) M) : AW X pc (x0 :: x1 :: x2 :: x3 :: x4 :: x5 :: x6 :: x7 :: some (aI a) :: r) rest M := fun hG H locs ls hP hS hl hn => lv_iload B.1 B.2.1 hd (ax_lv_get hl 8 rfl) (k hG H locs ls hP hS hl hn)
theorem rr_lload8 {a : Int} {x0 x1 x2 x3 x4 x5 x6 x7 : Option ax_V} {r : List (Option ax_V)} (B : ax_b X cc own n) (hd : decode cc pc = .ok (.lload 8, 2)) (k : AW X (pc + 2) (x0 :: x1 :: x2 :: x3 :: x4 :: x5 :: x6 :: x7 :: some (aL a) :: r) (aL a :: rest) M) : AW X pc (x0 :: x1 :: x2 :: x3 :: x4 :: x5 :: x6 :: x7 :: some (aL a) :: r) rest M := fun hG H locs ls hP hS hl hn => lv_lload B.1 B.2.1 hd (ax_lv_get hl 8 rfl) (k hG H locs ls hP hS hl hn)
theorem rr_istore8 {a : Int} {old : Option ax_V} {x0 x1 x2 x3 x4 x5 x6 x7 : Option ax_V} {r : List (Option ax_V)} (B : ax_b X cc own n) (hd : decode cc pc = .ok (.istore 8, 2)) (hx : ax_notL x7 = true) (k : AW X (pc + 2) (x0 :: x1 :: x2 :: x3 :: x4 :: x5 :: x6 :: x7 :: some (aI a) :: r) rest M) : AW X pc (x0 :: x1 :: x2 :: x3 :: x4 :: x5 :: x6 :: x7 :: old :: r) (aI a :: rest) M := fun hG H locs ls hP hS hl hn => lv_istore B.1 B.2.1 hd hl (by rw [← hn]; simp only [List.length_cons]; show 8 < _; omega) rfl (fun ls1 h1 => k hG H locs ls1 hP hS (ax_lv_st1 (v := aI a) h1 rfl (ax_hx (i := 7) rfl hx)) (by rw [← hn]; rfl))
theorem rr_lstore8 {a : Int} {old old2 : Option ax_V} {x0 x1 x2 x3 x4 x5 x6 x7 : Option ax_V} {r : List (Option ax_V)} (B : ax_b X cc own n) (hd : decode cc pc = .ok (.lstore 8, 2)) (hx : ax_notL x7 = true) (k : AW X (pc + 2) (x0 :: x1 :: x2 :: x3 :: x4 :: x5 :: x6 :: x7 :: some (aL a) :: none :: r) rest M) : AW X pc (x0 :: x1 :: x2 :: x3 :: x4 :: x5 :: x6 :: x7 :: old :: old2 :: r) (aL a :: rest) M := fun hG H locs ls hP hS hl hn => lv_lstore B.1 B.2.1 hd hl (by rw [← hn]; simp only [List.length_cons]; show 8 + 1 < _; omega) rfl (fun ls1 h1 => k hG H locs ls1 hP hS (ax_lv_st2 (v := aL a) h1 rfl (ax_hx (i := 7) rfl hx)) (by rw [← hn]; rfl))
theorem rr_iinc8 {a z : Int} {x0 x1 x2 x3 x4 x5 x6 x7 : Option ax_V} {r : List (Option ax_V)} (B : ax_b X cc own n) (hd : decode cc pc = .ok (.iinc 8 z, 3)) (hx : ax_notL x7 = true) (k : AW X (pc + 3) (x0 :: x1 :: x2 :: x3 :: x4 :: x5 :: x6 :: x7 :: some (aI (a + z)) :: r) rest M) : AW X pc (x0 :: x1 :: x2 :: x3 :: x4 :: x5 :: x6 :: x7 :: some (aI a) :: r) rest M := by
  intro hG H locs ls hP hS hl hn
  obtain ⟨kk, hkk⟩ := List.getElem?_of_mem (ax_lvL_mem.mpr ⟨aI a, (rfl : (x0 :: x1 :: x2 :: x3 :: x4 :: x5 :: x6 :: x7 :: some (aI a) :: r)[8]? = some (some (aI a))), (rfl : cv X.g (aI a) = cv X.g (aI a))⟩)
  exact lv_iinc B.1 B.2.1 hd hl hkk (Int32.ofInt_add a z).symm (by rw [← hn]; simp) rfl (fun ls1 h1 => k hG H locs ls1 hP hS (ax_lv_st1 (v := aI (a + z)) h1 rfl (ax_hx (i := 7) rfl hx)) (by rw [← hn]; rfl))
theorem rr_iload9 {a : Int} {x0 x1 x2 x3 x4 x5 x6 x7 x8 : Option ax_V} {r : List (Option ax_V)} (B : ax_b X cc own n) (hd : decode cc pc = .ok (.iload 9, 2)) (k : AW X (pc + 2) (x0 :: x1 :: x2 :: x3 :: x4 :: x5 :: x6 :: x7 :: x8 :: some (aI a) :: r) (aI a :: rest) M) : AW X pc (x0 :: x1 :: x2 :: x3 :: x4 :: x5 :: x6 :: x7 :: x8 :: some (aI a) :: r) rest M := fun hG H locs ls hP hS hl hn => lv_iload B.1 B.2.1 hd (ax_lv_get hl 9 rfl) (k hG H locs ls hP hS hl hn)
theorem rr_lload9 {a : Int} {x0 x1 x2 x3 x4 x5 x6 x7 x8 : Option ax_V} {r : List (Option ax_V)} (B : ax_b X cc own n) (hd : decode cc pc = .ok (.lload 9, 2)) (k : AW X (pc + 2) (x0 :: x1 :: x2 :: x3 :: x4 :: x5 :: x6 :: x7 :: x8 :: some (aL a) :: r) (aL a :: rest) M) : AW X pc (x0 :: x1 :: x2 :: x3 :: x4 :: x5 :: x6 :: x7 :: x8 :: some (aL a) :: r) rest M := fun hG H locs ls hP hS hl hn => lv_lload B.1 B.2.1 hd (ax_lv_get hl 9 rfl) (k hG H locs ls hP hS hl hn)
theorem rr_istore9 {a : Int} {old : Option ax_V} {x0 x1 x2 x3 x4 x5 x6 x7 x8 : Option ax_V} {r : List (Option ax_V)} (B : ax_b X cc own n) (hd : decode cc pc = .ok (.istore 9, 2)) (hx : ax_notL x8 = true) (k : AW X (pc + 2) (x0 :: x1 :: x2 :: x3 :: x4 :: x5 :: x6 :: x7 :: x8 :: some (aI a) :: r) rest M) : AW X pc (x0 :: x1 :: x2 :: x3 :: x4 :: x5 :: x6 :: x7 :: x8 :: old :: r) (aI a :: rest) M := fun hG H locs ls hP hS hl hn => lv_istore B.1 B.2.1 hd hl (by rw [← hn]; simp only [List.length_cons]; show 9 < _; omega) rfl (fun ls1 h1 => k hG H locs ls1 hP hS (ax_lv_st1 (v := aI a) h1 rfl (ax_hx (i := 8) rfl hx)) (by rw [← hn]; rfl))
theorem rr_lstore9 {a : Int} {old old2 : Option ax_V} {x0 x1 x2 x3 x4 x5 x6 x7 x8 : Option ax_V} {r : List (Option ax_V)} (B : ax_b X cc own n) (hd : decode cc pc = .ok (.lstore 9, 2)) (hx : ax_notL x8 = true) (k : AW X (pc + 2) (x0 :: x1 :: x2 :: x3 :: x4 :: x5 :: x6 :: x7 :: x8 :: some (aL a) :: none :: r) rest M) : AW X pc (x0 :: x1 :: x2 :: x3 :: x4 :: x5 :: x6 :: x7 :: x8 :: old :: old2 :: r) (aL a :: rest) M := fun hG H locs ls hP hS hl hn => lv_lstore B.1 B.2.1 hd hl (by rw [← hn]; simp only [List.length_cons]; show 9 + 1 < _; omega) rfl (fun ls1 h1 => k hG H locs ls1 hP hS (ax_lv_st2 (v := aL a) h1 rfl (ax_hx (i := 8) rfl hx)) (by rw [← hn]; rfl))
theorem rr_iinc9 {a z : Int} {x0 x1 x2 x3 x4 x5 x6 x7 x8 : Option ax_V} {r : List (Option ax_V)} (B : ax_b X cc own n) (hd : decode cc pc = .ok (.iinc 9 z, 3)) (hx : ax_notL x8 = true) (k : AW X (pc + 3) (x0 :: x1 :: x2 :: x3 :: x4 :: x5 :: x6 :: x7 :: x8 :: some (aI (a + z)) :: r) rest M) : AW X pc (x0 :: x1 :: x2 :: x3 :: x4 :: x5 :: x6 :: x7 :: x8 :: some (aI a) :: r) rest M := by
  intro hG H locs ls hP hS hl hn
  obtain ⟨kk, hkk⟩ := List.getElem?_of_mem (ax_lvL_mem.mpr ⟨aI a, (rfl : (x0 :: x1 :: x2 :: x3 :: x4 :: x5 :: x6 :: x7 :: x8 :: some (aI a) :: r)[9]? = some (some (aI a))), (rfl : cv X.g (aI a) = cv X.g (aI a))⟩)
  exact lv_iinc B.1 B.2.1 hd hl hkk (Int32.ofInt_add a z).symm (by rw [← hn]; simp) rfl (fun ls1 h1 => k hG H locs ls1 hP hS (ax_lv_st1 (v := aI (a + z)) h1 rfl (ax_hx (i := 8) rfl hx)) (by rw [← hn]; rfl))
theorem rr_iload10 {a : Int} {x0 x1 x2 x3 x4 x5 x6 x7 x8 x9 : Option ax_V} {r : List (Option ax_V)} (B : ax_b X cc own n) (hd : decode cc pc = .ok (.iload 10, 2)) (k : AW X (pc + 2) (x0 :: x1 :: x2 :: x3 :: x4 :: x5 :: x6 :: x7 :: x8 :: x9 :: some (aI a) :: r) (aI a :: rest) M) : AW X pc (x0 :: x1 :: x2 :: x3 :: x4 :: x5 :: x6 :: x7 :: x8 :: x9 :: some (aI a) :: r) rest M := fun hG H locs ls hP hS hl hn => lv_iload B.1 B.2.1 hd (ax_lv_get hl 10 rfl) (k hG H locs ls hP hS hl hn)
theorem rr_lload10 {a : Int} {x0 x1 x2 x3 x4 x5 x6 x7 x8 x9 : Option ax_V} {r : List (Option ax_V)} (B : ax_b X cc own n) (hd : decode cc pc = .ok (.lload 10, 2)) (k : AW X (pc + 2) (x0 :: x1 :: x2 :: x3 :: x4 :: x5 :: x6 :: x7 :: x8 :: x9 :: some (aL a) :: r) (aL a :: rest) M) : AW X pc (x0 :: x1 :: x2 :: x3 :: x4 :: x5 :: x6 :: x7 :: x8 :: x9 :: some (aL a) :: r) rest M := fun hG H locs ls hP hS hl hn => lv_lload B.1 B.2.1 hd (ax_lv_get hl 10 rfl) (k hG H locs ls hP hS hl hn)
theorem rr_istore10 {a : Int} {old : Option ax_V} {x0 x1 x2 x3 x4 x5 x6 x7 x8 x9 : Option ax_V} {r : List (Option ax_V)} (B : ax_b X cc own n) (hd : decode cc pc = .ok (.istore 10, 2)) (hx : ax_notL x9 = true) (k : AW X (pc + 2) (x0 :: x1 :: x2 :: x3 :: x4 :: x5 :: x6 :: x7 :: x8 :: x9 :: some (aI a) :: r) rest M) : AW X pc (x0 :: x1 :: x2 :: x3 :: x4 :: x5 :: x6 :: x7 :: x8 :: x9 :: old :: r) (aI a :: rest) M := fun hG H locs ls hP hS hl hn => lv_istore B.1 B.2.1 hd hl (by rw [← hn]; simp only [List.length_cons]; show 10 < _; omega) rfl (fun ls1 h1 => k hG H locs ls1 hP hS (ax_lv_st1 (v := aI a) h1 rfl (ax_hx (i := 9) rfl hx)) (by rw [← hn]; rfl))
theorem rr_lstore10 {a : Int} {old old2 : Option ax_V} {x0 x1 x2 x3 x4 x5 x6 x7 x8 x9 : Option ax_V} {r : List (Option ax_V)} (B : ax_b X cc own n) (hd : decode cc pc = .ok (.lstore 10, 2)) (hx : ax_notL x9 = true) (k : AW X (pc + 2) (x0 :: x1 :: x2 :: x3 :: x4 :: x5 :: x6 :: x7 :: x8 :: x9 :: some (aL a) :: none :: r) rest M) : AW X pc (x0 :: x1 :: x2 :: x3 :: x4 :: x5 :: x6 :: x7 :: x8 :: x9 :: old :: old2 :: r) (aL a :: rest) M := fun hG H locs ls hP hS hl hn => lv_lstore B.1 B.2.1 hd hl (by rw [← hn]; simp only [List.length_cons]; show 10 + 1 < _; omega) rfl (fun ls1 h1 => k hG H locs ls1 hP hS (ax_lv_st2 (v := aL a) h1 rfl (ax_hx (i := 9) rfl hx)) (by rw [← hn]; rfl))
theorem rr_iinc10 {a z : Int} {x0 x1 x2 x3 x4 x5 x6 x7 x8 x9 : Option ax_V} {r : List (Option ax_V)} (B : ax_b X cc own n) (hd : decode cc pc = .ok (.iinc 10 z, 3)) (hx : ax_notL x9 = true) (k : AW X (pc + 3) (x0 :: x1 :: x2 :: x3 :: x4 :: x5 :: x6 :: x7 :: x8 :: x9 :: some (aI (a + z)) :: r) rest M) : AW X pc (x0 :: x1 :: x2 :: x3 :: x4 :: x5 :: x6 :: x7 :: x8 :: x9 :: some (aI a) :: r) rest M := by
  intro hG H locs ls hP hS hl hn
  obtain ⟨kk, hkk⟩ := List.getElem?_of_mem (ax_lvL_mem.mpr ⟨aI a, (rfl : (x0 :: x1 :: x2 :: x3 :: x4 :: x5 :: x6 :: x7 :: x8 :: x9 :: some (aI a) :: r)[10]? = some (some (aI a))), (rfl : cv X.g (aI a) = cv X.g (aI a))⟩)
  exact lv_iinc B.1 B.2.1 hd hl hkk (Int32.ofInt_add a z).symm (by rw [← hn]; simp) rfl (fun ls1 h1 => k hG H locs ls1 hP hS (ax_lv_st1 (v := aI (a + z)) h1 rfl (ax_hx (i := 9) rfl hx)) (by rw [← hn]; rfl))
theorem rr_iload11 {a : Int} {x0 x1 x2 x3 x4 x5 x6 x7 x8 x9 x10 : Option ax_V} {r : List (Option ax_V)} (B : ax_b X cc own n) (hd : decode cc pc = .ok (.iload 11, 2)) (k : AW X (pc + 2) (x0 :: x1 :: x2 :: x3 :: x4 :: x5 :: x6 :: x7 :: x8 :: x9 :: x10 :: some (aI a) :: r) (aI a :: rest) M) : AW X pc (x0 :: x1 :: x2 :: x3 :: x4 :: x5 :: x6 :: x7 :: x8 :: x9 :: x10 :: some (aI a) :: r) rest M := fun hG H locs ls hP hS hl hn => lv_iload B.1 B.2.1 hd (ax_lv_get hl 11 rfl) (k hG H locs ls hP hS hl hn)
theorem rr_lload11 {a : Int} {x0 x1 x2 x3 x4 x5 x6 x7 x8 x9 x10 : Option ax_V} {r : List (Option ax_V)} (B : ax_b X cc own n) (hd : decode cc pc = .ok (.lload 11, 2)) (k : AW X (pc + 2) (x0 :: x1 :: x2 :: x3 :: x4 :: x5 :: x6 :: x7 :: x8 :: x9 :: x10 :: some (aL a) :: r) (aL a :: rest) M) : AW X pc (x0 :: x1 :: x2 :: x3 :: x4 :: x5 :: x6 :: x7 :: x8 :: x9 :: x10 :: some (aL a) :: r) rest M := fun hG H locs ls hP hS hl hn => lv_lload B.1 B.2.1 hd (ax_lv_get hl 11 rfl) (k hG H locs ls hP hS hl hn)
theorem rr_istore11 {a : Int} {old : Option ax_V} {x0 x1 x2 x3 x4 x5 x6 x7 x8 x9 x10 : Option ax_V} {r : List (Option ax_V)} (B : ax_b X cc own n) (hd : decode cc pc = .ok (.istore 11, 2)) (hx : ax_notL x10 = true) (k : AW X (pc + 2) (x0 :: x1 :: x2 :: x3 :: x4 :: x5 :: x6 :: x7 :: x8 :: x9 :: x10 :: some (aI a) :: r) rest M) : AW X pc (x0 :: x1 :: x2 :: x3 :: x4 :: x5 :: x6 :: x7 :: x8 :: x9 :: x10 :: old :: r) (aI a :: rest) M := fun hG H locs ls hP hS hl hn => lv_istore B.1 B.2.1 hd hl (by rw [← hn]; simp only [List.length_cons]; show 11 < _; omega) rfl (fun ls1 h1 => k hG H locs ls1 hP hS (ax_lv_st1 (v := aI a) h1 rfl (ax_hx (i := 10) rfl hx)) (by rw [← hn]; rfl))
theorem rr_iinc11 {a z : Int} {x0 x1 x2 x3 x4 x5 x6 x7 x8 x9 x10 : Option ax_V} {r : List (Option ax_V)} (B : ax_b X cc own n) (hd : decode cc pc = .ok (.iinc 11 z, 3)) (hx : ax_notL x10 = true) (k : AW X (pc + 3) (x0 :: x1 :: x2 :: x3 :: x4 :: x5 :: x6 :: x7 :: x8 :: x9 :: x10 :: some (aI (a + z)) :: r) rest M) : AW X pc (x0 :: x1 :: x2 :: x3 :: x4 :: x5 :: x6 :: x7 :: x8 :: x9 :: x10 :: some (aI a) :: r) rest M := by
  intro hG H locs ls hP hS hl hn
  obtain ⟨kk, hkk⟩ := List.getElem?_of_mem (ax_lvL_mem.mpr ⟨aI a, (rfl : (x0 :: x1 :: x2 :: x3 :: x4 :: x5 :: x6 :: x7 :: x8 :: x9 :: x10 :: some (aI a) :: r)[11]? = some (some (aI a))), (rfl : cv X.g (aI a) = cv X.g (aI a))⟩)
  exact lv_iinc B.1 B.2.1 hd hl hkk (Int32.ofInt_add a z).symm (by rw [← hn]; simp) rfl (fun ls1 h1 => k hG H locs ls1 hP hS (ax_lv_st1 (v := aI (a + z)) h1 rfl (ax_hx (i := 10) rfl hx)) (by rw [← hn]; rfl))
def ax_and (a b : Int) : Int := (ax_i a &&& ax_i b).toInt
def ax_or (a b : Int) : Int := (ax_i a ||| ax_i b).toInt
def ax_xor (a b : Int) : Int := (ax_i a ^^^ ax_i b).toInt
def ax_shl (a b : Int) : Int := (ax_i a <<< (ax_i b &&& 31)).toInt
def ax_shr (a b : Int) : Int := (ax_i a >>> (ax_i b &&& 31)).toInt
def ax_ushr (a b : Int) : Int := ((ax_i a).toUInt32 >>> ((ax_i b).toUInt32 &&& Int32.toUInt32 31)).toInt32.toInt
theorem ax_tdiv {a b : Int} (h : 0 ≤ a ∧ a ≤ 2147483647 ∧ 0 < b ∧ b ≤ 2147483647) : ax_i a / ax_i b = ax_i (a / b) := by
  rw [← Int.tdiv_eq_ediv_of_nonneg h.1]
  exact (Int32.ofInt_tdiv (by show (-2147483648 : Int) ≤ a; omega) (by show a ≤ (2147483647 : Int); omega) (by show (-2147483648 : Int) ≤ b; omega) (by show b ≤ (2147483647 : Int); omega)).symm
theorem ax_ltdiv {a b : Int} (h : 0 ≤ a ∧ a ≤ 9223372036854775807 ∧ 0 < b ∧ b ≤ 9223372036854775807) : ax_l a / ax_l b = ax_l (a / b) := by
  rw [← Int.tdiv_eq_ediv_of_nonneg h.1]
  exact (Int64.ofInt_tdiv (by show (-9223372036854775808 : Int) ≤ a; omega) (by show a ≤ (9223372036854775807 : Int); omega) (by show (-9223372036854775808 : Int) ≤ b; omega) (by show b ≤ (9223372036854775807 : Int); omega)).symm
theorem ax_ne0 {b : Int} (h : 0 < b ∧ b ≤ 2147483647) : ¬ ax_i b = 0 := by
  rw [← ax_i_0, ax_i_eq (by omega)]; omega
theorem ax_lne0 {b : Int} (h : 0 < b ∧ b ≤ 9223372036854775807) : ¬ ax_l b = 0 := by
  intro e
  have := congrArg Int64.toInt e
  rw [ax_l_of (by omega)] at this
  have h0 : (0 : Int64).toInt = 0 := rfl
  omega
theorem ax_rem {a b : Int} (h : 0 ≤ a ∧ a ≤ 2147483647 ∧ 0 < b ∧ b ≤ 2147483647) : ax_i a - ax_i a / ax_i b * ax_i b = ax_i (a % b) := by
  rw [ax_tdiv h]
  have e : a % b = a - a / b * b := by
    have := Int.emod_def a b
    rw [this, Int.mul_comm]
  rw [e]
  unfold ax_i
  rw [Int32.ofInt_sub, Int32.ofInt_mul]
theorem ax_lrem {a b : Int} (h : 0 ≤ a ∧ a ≤ 9223372036854775807 ∧ 0 < b ∧ b ≤ 9223372036854775807) : ax_l a - ax_l a / ax_l b * ax_l b = ax_l (a % b) := by
  rw [ax_ltdiv h]
  have e : a % b = a - a / b * b := by
    have := Int.emod_def a b
    rw [this, Int.mul_comm]
  rw [e]
  unfold ax_l
  rw [Int64.ofInt_sub, Int64.ofInt_mul]
theorem ax_not (a : Int) : ax_i a ^^^ ax_i (-1) = ax_i (-1 - a) := by
  unfold ax_i
  rw [Int32.ofInt_sub]
  apply Int32.toBitVec_inj.mp
  simp only [Int32.toBitVec_xor, Int32.toBitVec_sub, Int32.toBitVec_ofInt]
  generalize BitVec.ofInt 32 a = v
  have h1 : BitVec.ofInt 32 (-1) = BitVec.allOnes 32 := by decide
  rw [h1, BitVec.xor_allOnes]
  apply BitVec.eq_of_toNat_eq
  rw [BitVec.toNat_not, BitVec.toNat_sub, BitVec.toNat_allOnes]
  have := v.isLt
  omega
theorem rr_iadd {a b : Int} (B : ax_b X cc own n) (hd : decode cc pc = .ok (.iadd, 1)) (k : AW X (pc + 1) lv (aI (a + b) :: rest) M) : AW X pc lv (aI b :: aI a :: rest) M := by
  intro hG H locs ls hP hS hl hn
  refine lv_iadd B.1 B.2.1 hd ?_
  refine lv_topi (fun y hy => ?_)
  obtain rfl := hy.trans (Int32.ofInt_add a b).symm
  exact k hG H locs ls hP hS hl hn
theorem rr_isub {a b : Int} (B : ax_b X cc own n) (hd : decode cc pc = .ok (.isub, 1)) (k : AW X (pc + 1) lv (aI (a - b) :: rest) M) : AW X pc lv (aI b :: aI a :: rest) M := by
  intro hG H locs ls hP hS hl hn
  refine lv_isub B.1 B.2.1 hd ?_
  refine lv_topi (fun y hy => ?_)
  obtain rfl := hy.trans (Int32.ofInt_sub a b).symm
  exact k hG H locs ls hP hS hl hn
theorem rr_imul {a b : Int} (B : ax_b X cc own n) (hd : decode cc pc = .ok (.imul, 1)) (k : AW X (pc + 1) lv (aI (a * b) :: rest) M) : AW X pc lv (aI b :: aI a :: rest) M := by
  intro hG H locs ls hP hS hl hn
  refine lv_imul B.1 B.2.1 hd ?_
  refine lv_topi (fun y hy => ?_)
  obtain rfl := hy.trans (Int32.ofInt_mul a b).symm
  exact k hG H locs ls hP hS hl hn
theorem rr_iand {a b : Int} (B : ax_b X cc own n) (hd : decode cc pc = .ok (.iand, 1)) (k : AW X (pc + 1) lv (aI (ax_and a b) :: rest) M) : AW X pc lv (aI b :: aI a :: rest) M := by
  intro hG H locs ls hP hS hl hn
  refine lv_iand B.1 B.2.1 hd ?_
  refine lv_topi (fun y hy => ?_)
  obtain rfl := hy.trans (Int32.ofInt_toInt _).symm
  exact k hG H locs ls hP hS hl hn
theorem rr_ior {a b : Int} (B : ax_b X cc own n) (hd : decode cc pc = .ok (.ior, 1)) (k : AW X (pc + 1) lv (aI (ax_or a b) :: rest) M) : AW X pc lv (aI b :: aI a :: rest) M := by
  intro hG H locs ls hP hS hl hn
  refine lv_ior B.1 B.2.1 hd ?_
  refine lv_topi (fun y hy => ?_)
  obtain rfl := hy.trans (Int32.ofInt_toInt _).symm
  exact k hG H locs ls hP hS hl hn
theorem rr_ishl {a b : Int} (B : ax_b X cc own n) (hd : decode cc pc = .ok (.ishl, 1)) (k : AW X (pc + 1) lv (aI (ax_shl a b) :: rest) M) : AW X pc lv (aI b :: aI a :: rest) M := by
  intro hG H locs ls hP hS hl hn
  refine lv_ishl B.1 B.2.1 hd ?_
  refine lv_topi (fun y hy => ?_)
  obtain rfl := hy.trans (Int32.ofInt_toInt _).symm
  exact k hG H locs ls hP hS hl hn
theorem rr_ishr {a b : Int} (B : ax_b X cc own n) (hd : decode cc pc = .ok (.ishr, 1)) (k : AW X (pc + 1) lv (aI (ax_shr a b) :: rest) M) : AW X pc lv (aI b :: aI a :: rest) M := by
  intro hG H locs ls hP hS hl hn
  refine lv_ishr B.1 B.2.1 hd ?_
  refine lv_topi (fun y hy => ?_)
  obtain rfl := hy.trans (Int32.ofInt_toInt _).symm
  exact k hG H locs ls hP hS hl hn
theorem rr_inot {a : Int} (B : ax_b X cc own n) (hd : decode cc pc = .ok (.ixor, 1)) (k : AW X (pc + 1) lv (aI (-1 - a) :: rest) M) : AW X pc lv (aI (-1) :: aI a :: rest) M := by
  intro hG H locs ls hP hS hl hn
  refine lv_ixor B.1 B.2.1 hd ?_
  refine lv_topi (fun y hy => ?_)
  obtain rfl := hy.trans (ax_not a)
  exact k hG H locs ls hP hS hl hn
theorem rr_iushr {a b : Int} (B : ax_b X cc own n) (hd : decode cc pc = .ok (.iushr, 1)) (k : AW X (pc + 1) lv (aI (ax_ushr a b) :: rest) M) : AW X pc lv (aI b :: aI a :: rest) M := by
  intro hG H locs ls hP hS hl hn
  refine lv_iushr (v := ax_i (ax_ushr a b)) B.1 B.2.1 hd (Int32.ofInt_toInt _).symm ?_
  exact k hG H locs ls hP hS hl hn
theorem rr_idiv {a b : Int} (B : ax_b X cc own n) (hd : decode cc pc = .ok (.idiv, 1)) (h : 0 ≤ a ∧ a ≤ 2147483647 ∧ 0 < b ∧ b ≤ 2147483647) (k : AW X (pc + 1) lv (aI (a / b) :: rest) M) : AW X pc lv (aI b :: aI a :: rest) M := by
  intro hG H locs ls hP hS hl hn
  refine lv_idiv B.1 B.2.1 hd (ax_ne0 h.2.2) ?_
  refine lv_topi (fun y hy => ?_)
  obtain rfl := hy.trans (ax_tdiv h)
  exact k hG H locs ls hP hS hl hn
theorem rr_irem {a b : Int} (B : ax_b X cc own n) (hd : decode cc pc = .ok (.irem, 1)) (h : 0 ≤ a ∧ a ≤ 2147483647 ∧ 0 < b ∧ b ≤ 2147483647) (k : AW X (pc + 1) lv (aI (a % b) :: rest) M) : AW X pc lv (aI b :: aI a :: rest) M := by
  intro hG H locs ls hP hS hl hn
  refine lv_irem B.1 B.2.1 hd (ax_ne0 h.2.2) ?_
  refine lv_topi (fun y hy => ?_)
  obtain rfl := hy.trans (ax_rem h)
  exact k hG H locs ls hP hS hl hn
theorem rr_ladd {a b : Int} (B : ax_b X cc own n) (hd : decode cc pc = .ok (.ladd, 1)) (k : AW X (pc + 1) lv (aL (a + b) :: rest) M) : AW X pc lv (aL b :: aL a :: rest) M := by
  intro hG H locs ls hP hS hl hn
  refine lv_ladd B.1 B.2.1 hd ?_
  refine lv_topl (fun y hy => ?_)
  obtain rfl := hy.trans (Int64.ofInt_add a b).symm
  exact k hG H locs ls hP hS hl hn
theorem rr_lsub {a b : Int} (B : ax_b X cc own n) (hd : decode cc pc = .ok (.lsub, 1)) (k : AW X (pc + 1) lv (aL (a - b) :: rest) M) : AW X pc lv (aL b :: aL a :: rest) M := by
  intro hG H locs ls hP hS hl hn
  refine lv_lsub B.1 B.2.1 hd ?_
  refine lv_topl (fun y hy => ?_)
  obtain rfl := hy.trans (Int64.ofInt_sub a b).symm
  exact k hG H locs ls hP hS hl hn
theorem rr_lmul {a b : Int} (B : ax_b X cc own n) (hd : decode cc pc = .ok (.lmul, 1)) (k : AW X (pc + 1) lv (aL (a * b) :: rest) M) : AW X pc lv (aL b :: aL a :: rest) M := by
  intro hG H locs ls hP hS hl hn
  refine lv_lmul B.1 B.2.1 hd ?_
  refine lv_topl (fun y hy => ?_)
  obtain rfl := hy.trans (Int64.ofInt_mul a b).symm
  exact k hG H locs ls hP hS hl hn
theorem rr_ldiv {a b : Int} (B : ax_b X cc own n) (hd : decode cc pc = .ok (.ldiv, 1)) (h : 0 ≤ a ∧ a ≤ 9223372036854775807 ∧ 0 < b ∧ b ≤ 9223372036854775807) (k : AW X (pc + 1) lv (aL (a / b) :: rest) M) : AW X pc lv (aL b :: aL a :: rest) M := by
  intro hG H locs ls hP hS hl hn
  refine lv_ldiv B.1 B.2.1 hd (ax_lne0 h.2.2) ?_
  refine lv_topl (fun y hy => ?_)
  obtain rfl := hy.trans (ax_ltdiv h)
  exact k hG H locs ls hP hS hl hn
theorem rr_lrem {a b : Int} (B : ax_b X cc own n) (hd : decode cc pc = .ok (.lrem, 1)) (h : 0 ≤ a ∧ a ≤ 9223372036854775807 ∧ 0 < b ∧ b ≤ 9223372036854775807) (k : AW X (pc + 1) lv (aL (a % b) :: rest) M) : AW X pc lv (aL b :: aL a :: rest) M := by
  intro hG H locs ls hP hS hl hn
  refine lv_lrem B.1 B.2.1 hd (ax_lne0 h.2.2) ?_
  refine lv_topl (fun y hy => ?_)
  obtain rfl := hy.trans (ax_lrem h)
  exact k hG H locs ls hP hS hl hn
theorem rr_i2l {a : Int} (B : ax_b X cc own n) (hd : decode cc pc = .ok (.i2l, 1)) (h : -2147483648 ≤ a ∧ a ≤ 2147483647) (k : AW X (pc + 1) lv (aL a :: rest) M) : AW X pc lv (aI a :: rest) M := by
  intro hG H locs ls hP hS hl hn
  refine lv_i2l (v := ax_l a) B.1 B.2.1 hd ?_ (k hG H locs ls hP hS hl hn)
  rw [← Int64.ofInt_int32ToInt, ax_i_of h]; rfl
theorem rr_l2i {a : Int} (B : ax_b X cc own n) (hd : decode cc pc = .ok (.l2i, 1)) (h : -2147483648 ≤ a ∧ a ≤ 2147483647) (k : AW X (pc + 1) lv (aI a :: rest) M) : AW X pc lv (aL a :: rest) M := by
  intro hG H locs ls hP hS hl hn
  refine lv_l2i (v := ax_i a) B.1 B.2.1 hd ?_ (k hG H locs ls hP hS hl hn)
  rw [← Int32.ofInt_int64ToInt, ax_l_of (by omega)]; rfl
def ax_b8 (a : Int) : Int := (ax_i a).toInt8.toInt32.toInt
def ax_s16 (a : Int) : Int := (ax_i a).toInt16.toInt32.toInt
theorem rr_i2b {a : Int} (B : ax_b X cc own n) (hd : decode cc pc = .ok (.i2b, 1)) (k : AW X (pc + 1) lv (aI (ax_b8 a) :: rest) M) : AW X pc lv (aI a :: rest) M := fun hG H locs ls hP hS hl hn => lv_i2b (v := ax_i (ax_b8 a)) B.1 B.2.1 hd (Int32.ofInt_toInt _).symm (k hG H locs ls hP hS hl hn)
theorem rr_i2s {a : Int} (B : ax_b X cc own n) (hd : decode cc pc = .ok (.i2s, 1)) (k : AW X (pc + 1) lv (aI (ax_s16 a) :: rest) M) : AW X pc lv (aI a :: rest) M := fun hG H locs ls hP hS hl hn => lv_i2s (v := ax_i (ax_s16 a)) B.1 B.2.1 hd (Int32.ofInt_toInt _).symm (k hG H locs ls hP hS hl hn)
theorem rr_dup {a : ax_V} (B : ax_b X cc own n) (hd : decode cc pc = .ok (.dup, 1)) (ha : ax_notL (some a) = true) (k : AW X (pc + 1) lv (a :: a :: rest) M) : AW X pc lv (a :: rest) M := fun hG H locs ls hP hS hl hn => lv_dup B.1 B.2.1 hd (ax_notL_cat ha) (k hG H locs ls hP hS hl hn)
theorem rr_dup2 {a b : ax_V} (B : ax_b X cc own n) (hd : decode cc pc = .ok (.dup2, 1)) (ha : ax_notL (some a) = true) (hb : ax_notL (some b) = true) (k : AW X (pc + 1) lv (a :: b :: a :: b :: rest) M) : AW X pc lv (a :: b :: rest) M := fun hG H locs ls hP hS hl hn => lv_dup2_11 B.1 B.2.1 hd (ax_notL_cat ha) (ax_notL_cat hb) (k hG H locs ls hP hS hl hn)
theorem rr_pop {a : ax_V} (B : ax_b X cc own n) (hd : decode cc pc = .ok (.pop, 1)) (ha : ax_notL (some a) = true) (k : AW X (pc + 1) lv rest M) : AW X pc lv (a :: rest) M := fun hG H locs ls hP hS hl hn => lv_pop B.1 B.2.1 hd (ax_notL_cat ha) (k hG H locs ls hP hS hl hn)
theorem rr_goto {off : Int} (tgt : Nat) (B : ax_b X cc own n) (hd : decode cc pc = .ok (.goto off, 3)) (ht : (pc : Int) + off = (tgt : Int)) (k : AW X tgt lv rest M) : AW X pc lv rest M := fun hG H locs ls hP hS hl hn => lv_goto B.1 B.2.1 hd ht (k hG H locs ls hP hS hl hn)
def bi (b : Bool) : Int := if b then 1 else 0
theorem ax_i_ne {a b : Int} (h : -2147483648 ≤ a ∧ a ≤ 2147483647 ∧ -2147483648 ≤ b ∧ b ≤ 2147483647) (e : a ≠ b) : ¬ ax_i a = ax_i b := fun q => e ((ax_i_eq h).mp q)
theorem rr_icmp_eq {a b off : Int} (tgt : Nat) (B : ax_b X cc own n) (hd : decode cc pc = .ok (.if_icmp .eq off, 3)) (ht : (pc : Int) + off = (tgt : Int)) (h : -2147483648 ≤ a ∧ a ≤ 2147483647 ∧ -2147483648 ≤ b ∧ b ≤ 2147483647) (kt : a = b → AW X tgt lv rest M) (kf : a ≠ b → AW X (pc + 3) lv rest M) : AW X pc lv (aI b :: aI a :: rest) M := by
  intro hG H locs ls hP hS hl hn
  have e1 := ax_i_eq h
  have e2 := ax_i_lt h
  have e3 := ax_i_le h
  have h' : -2147483648 ≤ b ∧ b ≤ 2147483647 ∧ -2147483648 ≤ a ∧ a ≤ 2147483647 := ⟨h.2.2.1, h.2.2.2, h.1, h.2.1⟩
  have e4 := ax_i_lt h'
  have e5 := ax_i_le h'
  refine lv_icmp_eq B.1 B.2.1 hd ht (fun q => ?_) (fun q => ?_)
  · refine kt ?_ hG H locs ls hP hS hl hn
    simp only [gt_iff_lt, ge_iff_le, ne_eq, e1, e2, e3, e4, e5] at q
    omega
  · refine kf ?_ hG H locs ls hP hS hl hn
    simp only [gt_iff_lt, ge_iff_le, ne_eq, e1, e2, e3, e4, e5] at q
    omega
theorem rr_if_eq {a off : Int} (tgt : Nat) (B : ax_b X cc own n) (hd : decode cc pc = .ok (.ifCond .eq off, 3)) (ht : (pc : Int) + off = (tgt : Int)) (h : -2147483648 ≤ a ∧ a ≤ 2147483647) (kt : a = 0 → AW X tgt lv rest M) (kf : a ≠ 0 → AW X (pc + 3) lv rest M) : AW X pc lv (aI a :: rest) M := by
  intro hG H locs ls hP hS hl hn
  have h1 : -2147483648 ≤ a ∧ a ≤ 2147483647 ∧ -2147483648 ≤ (0 : Int) ∧ (0 : Int) ≤ 2147483647 := by omega
  have h2 : -2147483648 ≤ (0 : Int) ∧ (0 : Int) ≤ 2147483647 ∧ -2147483648 ≤ a ∧ a ≤ 2147483647 := by omega
  have e1 := ax_i_eq h1
  have e2 := ax_i_lt h1
  have e3 := ax_i_le h1
  have e4 := ax_i_lt h2
  have e5 := ax_i_le h2
  rw [ax_i_0] at e1 e2 e3 e4 e5
  refine lv_if_eq B.1 B.2.1 hd ht (fun q => ?_) (fun q => ?_)
  · refine kt ?_ hG H locs ls hP hS hl hn
    simp only [gt_iff_lt, ge_iff_le, ne_eq, e1, e2, e3, e4, e5] at q
    omega
  · refine kf ?_ hG H locs ls hP hS hl hn
    simp only [gt_iff_lt, ge_iff_le, ne_eq, e1, e2, e3, e4, e5] at q
    omega
theorem rr_lcmp_eq {a b off : Int} (tgt : Nat) (B : ax_b X cc own n) (hd : decode cc pc = .ok (.lcmp, 1)) (hd2 : decode cc (pc + 1) = .ok (.ifCond .eq off, 3)) (ht : ((pc + 1 : Nat) : Int) + off = (tgt : Int)) (h : -9223372036854775808 ≤ a ∧ a ≤ 9223372036854775807 ∧ -9223372036854775808 ≤ b ∧ b ≤ 9223372036854775807) (kt : a = b → AW X tgt lv rest M) (kf : a ≠ b → AW X (pc + 1 + 3) lv rest M) : AW X pc lv (aL b :: aL a :: rest) M := by
  intro hG H locs ls hP hS hl hn
  have ea := ax_l_of (z := a) ⟨h.1, h.2.1⟩
  have eb := ax_l_of (z := b) h.2.2
  refine W.lcmp B.1 B.2.1 hd ?_
  refine lv_if_eq B.1 B.2.1 hd2 ht (fun q => ?_) (fun q => ?_)
  · refine kt ?_ hG H locs ls hP hS hl hn
    simp only [gt_iff_lt, ge_iff_le, ne_eq, lg_cmp_ge, lg_cmp_le, lg_cmp_gt, lg_cmp_lt, lg_cmp_eq, Int64.lt_iff_toInt_lt, Int64.le_iff_toInt_le, ← Int64.toInt_inj, ea, eb] at q
    omega
  · refine kf ?_ hG H locs ls hP hS hl hn
    simp only [gt_iff_lt, ge_iff_le, ne_eq, lg_cmp_ge, lg_cmp_le, lg_cmp_gt, lg_cmp_lt, lg_cmp_eq, Int64.lt_iff_toInt_lt, Int64.le_iff_toInt_le, ← Int64.toInt_inj, ea, eb] at q
    omega
theorem rr_icmp_ne {a b off : Int} (tgt : Nat) (B : ax_b X cc own n) (hd : decode cc pc = .ok (.if_icmp .ne off, 3)) (ht : (pc : Int) + off = (tgt : Int)) (h : -2147483648 ≤ a ∧ a ≤ 2147483647 ∧ -2147483648 ≤ b ∧ b ≤ 2147483647) (kt : a ≠ b → AW X tgt lv rest M) (kf : a = b → AW X (pc + 3) lv rest M) : AW X pc lv (aI b :: aI a :: rest) M := by
  intro hG H locs ls hP hS hl hn
  have e1 := ax_i_eq h
  have e2 := ax_i_lt h
  have e3 := ax_i_le h
  have h' : -2147483648 ≤ b ∧ b ≤ 2147483647 ∧ -2147483648 ≤ a ∧ a ≤ 2147483647 := ⟨h.2.2.1, h.2.2.2, h.1, h.2.1⟩
  have e4 := ax_i_lt h'
  have e5 := ax_i_le h'
  refine lv_icmp_ne B.1 B.2.1 hd ht (fun q => ?_) (fun q => ?_)
  · refine kt ?_ hG H locs ls hP hS hl hn
    simp only [gt_iff_lt, ge_iff_le, ne_eq, e1, e2, e3, e4, e5] at q
    omega
  · refine kf ?_ hG H locs ls hP hS hl hn
    simp only [gt_iff_lt, ge_iff_le, ne_eq, e1, e2, e3, e4, e5] at q
    omega
theorem rr_if_ne {a off : Int} (tgt : Nat) (B : ax_b X cc own n) (hd : decode cc pc = .ok (.ifCond .ne off, 3)) (ht : (pc : Int) + off = (tgt : Int)) (h : -2147483648 ≤ a ∧ a ≤ 2147483647) (kt : a ≠ 0 → AW X tgt lv rest M) (kf : a = 0 → AW X (pc + 3) lv rest M) : AW X pc lv (aI a :: rest) M := by
  intro hG H locs ls hP hS hl hn
  have h1 : -2147483648 ≤ a ∧ a ≤ 2147483647 ∧ -2147483648 ≤ (0 : Int) ∧ (0 : Int) ≤ 2147483647 := by omega
  have h2 : -2147483648 ≤ (0 : Int) ∧ (0 : Int) ≤ 2147483647 ∧ -2147483648 ≤ a ∧ a ≤ 2147483647 := by omega
  have e1 := ax_i_eq h1
  have e2 := ax_i_lt h1
  have e3 := ax_i_le h1
  have e4 := ax_i_lt h2
  have e5 := ax_i_le h2
  rw [ax_i_0] at e1 e2 e3 e4 e5
  refine lv_if_ne B.1 B.2.1 hd ht (fun q => ?_) (fun q => ?_)
  · refine kt ?_ hG H locs ls hP hS hl hn
    simp only [gt_iff_lt, ge_iff_le, ne_eq, e1, e2, e3, e4, e5] at q
    omega
  · refine kf ?_ hG H locs ls hP hS hl hn
    simp only [gt_iff_lt, ge_iff_le, ne_eq, e1, e2, e3, e4, e5] at q
    omega
theorem rr_lcmp_ne {a b off : Int} (tgt : Nat) (B : ax_b X cc own n) (hd : decode cc pc = .ok (.lcmp, 1)) (hd2 : decode cc (pc + 1) = .ok (.ifCond .ne off, 3)) (ht : ((pc + 1 : Nat) : Int) + off = (tgt : Int)) (h : -9223372036854775808 ≤ a ∧ a ≤ 9223372036854775807 ∧ -9223372036854775808 ≤ b ∧ b ≤ 9223372036854775807) (kt : a ≠ b → AW X tgt lv rest M) (kf : a = b → AW X (pc + 1 + 3) lv rest M) : AW X pc lv (aL b :: aL a :: rest) M := by
  intro hG H locs ls hP hS hl hn
  have ea := ax_l_of (z := a) ⟨h.1, h.2.1⟩
  have eb := ax_l_of (z := b) h.2.2
  refine W.lcmp B.1 B.2.1 hd ?_
  refine lv_if_ne B.1 B.2.1 hd2 ht (fun q => ?_) (fun q => ?_)
  · refine kt ?_ hG H locs ls hP hS hl hn
    simp only [gt_iff_lt, ge_iff_le, ne_eq, lg_cmp_ge, lg_cmp_le, lg_cmp_gt, lg_cmp_lt, lg_cmp_eq, Int64.lt_iff_toInt_lt, Int64.le_iff_toInt_le, ← Int64.toInt_inj, ea, eb] at q
    omega
  · refine kf ?_ hG H locs ls hP hS hl hn
    simp only [gt_iff_lt, ge_iff_le, ne_eq, lg_cmp_ge, lg_cmp_le, lg_cmp_gt, lg_cmp_lt, lg_cmp_eq, Int64.lt_iff_toInt_lt, Int64.le_iff_toInt_le, ← Int64.toInt_inj, ea, eb] at q
    omega
theorem rr_icmp_lt {a b off : Int} (tgt : Nat) (B : ax_b X cc own n) (hd : decode cc pc = .ok (.if_icmp .lt off, 3)) (ht : (pc : Int) + off = (tgt : Int)) (h : -2147483648 ≤ a ∧ a ≤ 2147483647 ∧ -2147483648 ≤ b ∧ b ≤ 2147483647) (kt : a < b → AW X tgt lv rest M) (kf : b ≤ a → AW X (pc + 3) lv rest M) : AW X pc lv (aI b :: aI a :: rest) M := by
  intro hG H locs ls hP hS hl hn
  have e1 := ax_i_eq h
  have e2 := ax_i_lt h
  have e3 := ax_i_le h
  have h' : -2147483648 ≤ b ∧ b ≤ 2147483647 ∧ -2147483648 ≤ a ∧ a ≤ 2147483647 := ⟨h.2.2.1, h.2.2.2, h.1, h.2.1⟩
  have e4 := ax_i_lt h'
  have e5 := ax_i_le h'
  refine lv_icmp_lt B.1 B.2.1 hd ht (fun q => ?_) (fun q => ?_)
  · refine kt ?_ hG H locs ls hP hS hl hn
    simp only [gt_iff_lt, ge_iff_le, ne_eq, e1, e2, e3, e4, e5] at q
    omega
  · refine kf ?_ hG H locs ls hP hS hl hn
    simp only [gt_iff_lt, ge_iff_le, ne_eq, e1, e2, e3, e4, e5] at q
    omega
theorem rr_if_lt {a off : Int} (tgt : Nat) (B : ax_b X cc own n) (hd : decode cc pc = .ok (.ifCond .lt off, 3)) (ht : (pc : Int) + off = (tgt : Int)) (h : -2147483648 ≤ a ∧ a ≤ 2147483647) (kt : a < 0 → AW X tgt lv rest M) (kf : 0 ≤ a → AW X (pc + 3) lv rest M) : AW X pc lv (aI a :: rest) M := by
  intro hG H locs ls hP hS hl hn
  have h1 : -2147483648 ≤ a ∧ a ≤ 2147483647 ∧ -2147483648 ≤ (0 : Int) ∧ (0 : Int) ≤ 2147483647 := by omega
  have h2 : -2147483648 ≤ (0 : Int) ∧ (0 : Int) ≤ 2147483647 ∧ -2147483648 ≤ a ∧ a ≤ 2147483647 := by omega
  have e1 := ax_i_eq h1
  have e2 := ax_i_lt h1
  have e3 := ax_i_le h1
  have e4 := ax_i_lt h2
  have e5 := ax_i_le h2
  rw [ax_i_0] at e1 e2 e3 e4 e5
  refine lv_if_lt B.1 B.2.1 hd ht (fun q => ?_) (fun q => ?_)
  · refine kt ?_ hG H locs ls hP hS hl hn
    simp only [gt_iff_lt, ge_iff_le, ne_eq, e1, e2, e3, e4, e5] at q
    omega
  · refine kf ?_ hG H locs ls hP hS hl hn
    simp only [gt_iff_lt, ge_iff_le, ne_eq, e1, e2, e3, e4, e5] at q
    omega
theorem rr_lcmp_lt {a b off : Int} (tgt : Nat) (B : ax_b X cc own n) (hd : decode cc pc = .ok (.lcmp, 1)) (hd2 : decode cc (pc + 1) = .ok (.ifCond .lt off, 3)) (ht : ((pc + 1 : Nat) : Int) + off = (tgt : Int)) (h : -9223372036854775808 ≤ a ∧ a ≤ 9223372036854775807 ∧ -9223372036854775808 ≤ b ∧ b ≤ 9223372036854775807) (kt : a < b → AW X tgt lv rest M) (kf : b ≤ a → AW X (pc + 1 + 3) lv rest M) : AW X pc lv (aL b :: aL a :: rest) M := by
  intro hG H locs ls hP hS hl hn
  have ea := ax_l_of (z := a) ⟨h.1, h.2.1⟩
  have eb := ax_l_of (z := b) h.2.2
  refine W.lcmp B.1 B.2.1 hd ?_
  refine lv_if_lt B.1 B.2.1 hd2 ht (fun q => ?_) (fun q => ?_)
  · refine kt ?_ hG H locs ls hP hS hl hn
    simp only [gt_iff_lt, ge_iff_le, ne_eq, lg_cmp_ge, lg_cmp_le, lg_cmp_gt, lg_cmp_lt, lg_cmp_eq, Int64.lt_iff_toInt_lt, Int64.le_iff_toInt_le, ← Int64.toInt_inj, ea, eb] at q
    omega
  · refine kf ?_ hG H locs ls hP hS hl hn
    simp only [gt_iff_lt, ge_iff_le, ne_eq, lg_cmp_ge, lg_cmp_le, lg_cmp_gt, lg_cmp_lt, lg_cmp_eq, Int64.lt_iff_toInt_lt, Int64.le_iff_toInt_le, ← Int64.toInt_inj, ea, eb] at q
    omega
theorem rr_icmp_ge {a b off : Int} (tgt : Nat) (B : ax_b X cc own n) (hd : decode cc pc = .ok (.if_icmp .ge off, 3)) (ht : (pc : Int) + off = (tgt : Int)) (h : -2147483648 ≤ a ∧ a ≤ 2147483647 ∧ -2147483648 ≤ b ∧ b ≤ 2147483647) (kt : b ≤ a → AW X tgt lv rest M) (kf : a < b → AW X (pc + 3) lv rest M) : AW X pc lv (aI b :: aI a :: rest) M := by
  intro hG H locs ls hP hS hl hn
  have e1 := ax_i_eq h
  have e2 := ax_i_lt h
  have e3 := ax_i_le h
  have h' : -2147483648 ≤ b ∧ b ≤ 2147483647 ∧ -2147483648 ≤ a ∧ a ≤ 2147483647 := ⟨h.2.2.1, h.2.2.2, h.1, h.2.1⟩
  have e4 := ax_i_lt h'
  have e5 := ax_i_le h'
  refine lv_icmp_ge B.1 B.2.1 hd ht (fun q => ?_) (fun q => ?_)
  · refine kt ?_ hG H locs ls hP hS hl hn
    simp only [gt_iff_lt, ge_iff_le, ne_eq, e1, e2, e3, e4, e5] at q
    omega
  · refine kf ?_ hG H locs ls hP hS hl hn
    simp only [gt_iff_lt, ge_iff_le, ne_eq, e1, e2, e3, e4, e5] at q
    omega
theorem rr_if_ge {a off : Int} (tgt : Nat) (B : ax_b X cc own n) (hd : decode cc pc = .ok (.ifCond .ge off, 3)) (ht : (pc : Int) + off = (tgt : Int)) (h : -2147483648 ≤ a ∧ a ≤ 2147483647) (kt : 0 ≤ a → AW X tgt lv rest M) (kf : a < 0 → AW X (pc + 3) lv rest M) : AW X pc lv (aI a :: rest) M := by
  intro hG H locs ls hP hS hl hn
  have h1 : -2147483648 ≤ a ∧ a ≤ 2147483647 ∧ -2147483648 ≤ (0 : Int) ∧ (0 : Int) ≤ 2147483647 := by omega
  have h2 : -2147483648 ≤ (0 : Int) ∧ (0 : Int) ≤ 2147483647 ∧ -2147483648 ≤ a ∧ a ≤ 2147483647 := by omega
  have e1 := ax_i_eq h1
  have e2 := ax_i_lt h1
  have e3 := ax_i_le h1
  have e4 := ax_i_lt h2
  have e5 := ax_i_le h2
  rw [ax_i_0] at e1 e2 e3 e4 e5
  refine lv_if_ge B.1 B.2.1 hd ht (fun q => ?_) (fun q => ?_)
  · refine kt ?_ hG H locs ls hP hS hl hn
    simp only [gt_iff_lt, ge_iff_le, ne_eq, e1, e2, e3, e4, e5] at q
    omega
  · refine kf ?_ hG H locs ls hP hS hl hn
    simp only [gt_iff_lt, ge_iff_le, ne_eq, e1, e2, e3, e4, e5] at q
    omega
theorem rr_lcmp_ge {a b off : Int} (tgt : Nat) (B : ax_b X cc own n) (hd : decode cc pc = .ok (.lcmp, 1)) (hd2 : decode cc (pc + 1) = .ok (.ifCond .ge off, 3)) (ht : ((pc + 1 : Nat) : Int) + off = (tgt : Int)) (h : -9223372036854775808 ≤ a ∧ a ≤ 9223372036854775807 ∧ -9223372036854775808 ≤ b ∧ b ≤ 9223372036854775807) (kt : b ≤ a → AW X tgt lv rest M) (kf : a < b → AW X (pc + 1 + 3) lv rest M) : AW X pc lv (aL b :: aL a :: rest) M := by
  intro hG H locs ls hP hS hl hn
  have ea := ax_l_of (z := a) ⟨h.1, h.2.1⟩
  have eb := ax_l_of (z := b) h.2.2
  refine W.lcmp B.1 B.2.1 hd ?_
  refine lv_if_ge B.1 B.2.1 hd2 ht (fun q => ?_) (fun q => ?_)
  · refine kt ?_ hG H locs ls hP hS hl hn
    simp only [gt_iff_lt, ge_iff_le, ne_eq, lg_cmp_ge, lg_cmp_le, lg_cmp_gt, lg_cmp_lt, lg_cmp_eq, Int64.lt_iff_toInt_lt, Int64.le_iff_toInt_le, ← Int64.toInt_inj, ea, eb] at q
    omega
  · refine kf ?_ hG H locs ls hP hS hl hn
    simp only [gt_iff_lt, ge_iff_le, ne_eq, lg_cmp_ge, lg_cmp_le, lg_cmp_gt, lg_cmp_lt, lg_cmp_eq, Int64.lt_iff_toInt_lt, Int64.le_iff_toInt_le, ← Int64.toInt_inj, ea, eb] at q
    omega
theorem rr_icmp_gt {a b off : Int} (tgt : Nat) (B : ax_b X cc own n) (hd : decode cc pc = .ok (.if_icmp .gt off, 3)) (ht : (pc : Int) + off = (tgt : Int)) (h : -2147483648 ≤ a ∧ a ≤ 2147483647 ∧ -2147483648 ≤ b ∧ b ≤ 2147483647) (kt : b < a → AW X tgt lv rest M) (kf : a ≤ b → AW X (pc + 3) lv rest M) : AW X pc lv (aI b :: aI a :: rest) M := by
  intro hG H locs ls hP hS hl hn
  have e1 := ax_i_eq h
  have e2 := ax_i_lt h
  have e3 := ax_i_le h
  have h' : -2147483648 ≤ b ∧ b ≤ 2147483647 ∧ -2147483648 ≤ a ∧ a ≤ 2147483647 := ⟨h.2.2.1, h.2.2.2, h.1, h.2.1⟩
  have e4 := ax_i_lt h'
  have e5 := ax_i_le h'
  refine lv_icmp_gt B.1 B.2.1 hd ht (fun q => ?_) (fun q => ?_)
  · refine kt ?_ hG H locs ls hP hS hl hn
    simp only [gt_iff_lt, ge_iff_le, ne_eq, e1, e2, e3, e4, e5] at q
    omega
  · refine kf ?_ hG H locs ls hP hS hl hn
    simp only [gt_iff_lt, ge_iff_le, ne_eq, e1, e2, e3, e4, e5] at q
    omega
theorem rr_if_gt {a off : Int} (tgt : Nat) (B : ax_b X cc own n) (hd : decode cc pc = .ok (.ifCond .gt off, 3)) (ht : (pc : Int) + off = (tgt : Int)) (h : -2147483648 ≤ a ∧ a ≤ 2147483647) (kt : 0 < a → AW X tgt lv rest M) (kf : a ≤ 0 → AW X (pc + 3) lv rest M) : AW X pc lv (aI a :: rest) M := by
  intro hG H locs ls hP hS hl hn
  have h1 : -2147483648 ≤ a ∧ a ≤ 2147483647 ∧ -2147483648 ≤ (0 : Int) ∧ (0 : Int) ≤ 2147483647 := by omega
  have h2 : -2147483648 ≤ (0 : Int) ∧ (0 : Int) ≤ 2147483647 ∧ -2147483648 ≤ a ∧ a ≤ 2147483647 := by omega
  have e1 := ax_i_eq h1
  have e2 := ax_i_lt h1
  have e3 := ax_i_le h1
  have e4 := ax_i_lt h2
  have e5 := ax_i_le h2
  rw [ax_i_0] at e1 e2 e3 e4 e5
  refine lv_if_gt B.1 B.2.1 hd ht (fun q => ?_) (fun q => ?_)
  · refine kt ?_ hG H locs ls hP hS hl hn
    simp only [gt_iff_lt, ge_iff_le, ne_eq, e1, e2, e3, e4, e5] at q
    omega
  · refine kf ?_ hG H locs ls hP hS hl hn
    simp only [gt_iff_lt, ge_iff_le, ne_eq, e1, e2, e3, e4, e5] at q
    omega
theorem rr_lcmp_gt {a b off : Int} (tgt : Nat) (B : ax_b X cc own n) (hd : decode cc pc = .ok (.lcmp, 1)) (hd2 : decode cc (pc + 1) = .ok (.ifCond .gt off, 3)) (ht : ((pc + 1 : Nat) : Int) + off = (tgt : Int)) (h : -9223372036854775808 ≤ a ∧ a ≤ 9223372036854775807 ∧ -9223372036854775808 ≤ b ∧ b ≤ 9223372036854775807) (kt : b < a → AW X tgt lv rest M) (kf : a ≤ b → AW X (pc + 1 + 3) lv rest M) : AW X pc lv (aL b :: aL a :: rest) M := by
  intro hG H locs ls hP hS hl hn
  have ea := ax_l_of (z := a) ⟨h.1, h.2.1⟩
  have eb := ax_l_of (z := b) h.2.2
  refine W.lcmp B.1 B.2.1 hd ?_
  refine lv_if_gt B.1 B.2.1 hd2 ht (fun q => ?_) (fun q => ?_)
  · refine kt ?_ hG H locs ls hP hS hl hn
    simp only [gt_iff_lt, ge_iff_le, ne_eq, lg_cmp_ge, lg_cmp_le, lg_cmp_gt, lg_cmp_lt, lg_cmp_eq, Int64.lt_iff_toInt_lt, Int64.le_iff_toInt_le, ← Int64.toInt_inj, ea, eb] at q
    omega
  · refine kf ?_ hG H locs ls hP hS hl hn
    simp only [gt_iff_lt, ge_iff_le, ne_eq, lg_cmp_ge, lg_cmp_le, lg_cmp_gt, lg_cmp_lt, lg_cmp_eq, Int64.lt_iff_toInt_lt, Int64.le_iff_toInt_le, ← Int64.toInt_inj, ea, eb] at q
    omega
theorem rr_icmp_le {a b off : Int} (tgt : Nat) (B : ax_b X cc own n) (hd : decode cc pc = .ok (.if_icmp .le off, 3)) (ht : (pc : Int) + off = (tgt : Int)) (h : -2147483648 ≤ a ∧ a ≤ 2147483647 ∧ -2147483648 ≤ b ∧ b ≤ 2147483647) (kt : a ≤ b → AW X tgt lv rest M) (kf : b < a → AW X (pc + 3) lv rest M) : AW X pc lv (aI b :: aI a :: rest) M := by
  intro hG H locs ls hP hS hl hn
  have e1 := ax_i_eq h
  have e2 := ax_i_lt h
  have e3 := ax_i_le h
  have h' : -2147483648 ≤ b ∧ b ≤ 2147483647 ∧ -2147483648 ≤ a ∧ a ≤ 2147483647 := ⟨h.2.2.1, h.2.2.2, h.1, h.2.1⟩
  have e4 := ax_i_lt h'
  have e5 := ax_i_le h'
  refine lv_icmp_le B.1 B.2.1 hd ht (fun q => ?_) (fun q => ?_)
  · refine kt ?_ hG H locs ls hP hS hl hn
    simp only [gt_iff_lt, ge_iff_le, ne_eq, e1, e2, e3, e4, e5] at q
    omega
  · refine kf ?_ hG H locs ls hP hS hl hn
    simp only [gt_iff_lt, ge_iff_le, ne_eq, e1, e2, e3, e4, e5] at q
    omega
theorem rr_if_le {a off : Int} (tgt : Nat) (B : ax_b X cc own n) (hd : decode cc pc = .ok (.ifCond .le off, 3)) (ht : (pc : Int) + off = (tgt : Int)) (h : -2147483648 ≤ a ∧ a ≤ 2147483647) (kt : a ≤ 0 → AW X tgt lv rest M) (kf : 0 < a → AW X (pc + 3) lv rest M) : AW X pc lv (aI a :: rest) M := by
  intro hG H locs ls hP hS hl hn
  have h1 : -2147483648 ≤ a ∧ a ≤ 2147483647 ∧ -2147483648 ≤ (0 : Int) ∧ (0 : Int) ≤ 2147483647 := by omega
  have h2 : -2147483648 ≤ (0 : Int) ∧ (0 : Int) ≤ 2147483647 ∧ -2147483648 ≤ a ∧ a ≤ 2147483647 := by omega
  have e1 := ax_i_eq h1
  have e2 := ax_i_lt h1
  have e3 := ax_i_le h1
  have e4 := ax_i_lt h2
  have e5 := ax_i_le h2
  rw [ax_i_0] at e1 e2 e3 e4 e5
  refine lv_if_le B.1 B.2.1 hd ht (fun q => ?_) (fun q => ?_)
  · refine kt ?_ hG H locs ls hP hS hl hn
    simp only [gt_iff_lt, ge_iff_le, ne_eq, e1, e2, e3, e4, e5] at q
    omega
  · refine kf ?_ hG H locs ls hP hS hl hn
    simp only [gt_iff_lt, ge_iff_le, ne_eq, e1, e2, e3, e4, e5] at q
    omega
theorem rr_lcmp_le {a b off : Int} (tgt : Nat) (B : ax_b X cc own n) (hd : decode cc pc = .ok (.lcmp, 1)) (hd2 : decode cc (pc + 1) = .ok (.ifCond .le off, 3)) (ht : ((pc + 1 : Nat) : Int) + off = (tgt : Int)) (h : -9223372036854775808 ≤ a ∧ a ≤ 9223372036854775807 ∧ -9223372036854775808 ≤ b ∧ b ≤ 9223372036854775807) (kt : a ≤ b → AW X tgt lv rest M) (kf : b < a → AW X (pc + 1 + 3) lv rest M) : AW X pc lv (aL b :: aL a :: rest) M := by
  intro hG H locs ls hP hS hl hn
  have ea := ax_l_of (z := a) ⟨h.1, h.2.1⟩
  have eb := ax_l_of (z := b) h.2.2
  refine W.lcmp B.1 B.2.1 hd ?_
  refine lv_if_le B.1 B.2.1 hd2 ht (fun q => ?_) (fun q => ?_)
  · refine kt ?_ hG H locs ls hP hS hl hn
    simp only [gt_iff_lt, ge_iff_le, ne_eq, lg_cmp_ge, lg_cmp_le, lg_cmp_gt, lg_cmp_lt, lg_cmp_eq, Int64.lt_iff_toInt_lt, Int64.le_iff_toInt_le, ← Int64.toInt_inj, ea, eb] at q
    omega
  · refine kf ?_ hG H locs ls hP hS hl hn
    simp only [gt_iff_lt, ge_iff_le, ne_eq, lg_cmp_ge, lg_cmp_le, lg_cmp_gt, lg_cmp_lt, lg_cmp_eq, Int64.lt_iff_toInt_lt, Int64.le_iff_toInt_le, ← Int64.toInt_inj, ea, eb] at q
    omega
theorem rr_if_eqB {b : Bool} {off : Int} (tgt : Nat) (B : ax_b X cc own n) (hd : decode cc pc = .ok (.ifCond .eq off, 3)) (ht : (pc : Int) + off = (tgt : Int)) (kt : b = false → AW X tgt lv rest M) (kf : b = true → AW X (pc + 3) lv rest M) : AW X pc lv (aI (bi b) :: rest) M :=
  rr_if_eq tgt B hd ht (by cases b <;> decide) (fun q => kt (by cases b <;> first | rfl | exact absurd q (by decide))) (fun q => kf (by cases b <;> first | rfl | exact absurd rfl q))
theorem rr_if_neB {b : Bool} {off : Int} (tgt : Nat) (B : ax_b X cc own n) (hd : decode cc pc = .ok (.ifCond .ne off, 3)) (ht : (pc : Int) + off = (tgt : Int)) (kt : b = true → AW X tgt lv rest M) (kf : b = false → AW X (pc + 3) lv rest M) : AW X pc lv (aI (bi b) :: rest) M :=
  rr_if_ne tgt B hd ht (by cases b <;> decide) (fun q => kt (by cases b <;> first | rfl | exact absurd rfl q)) (fun q => kf (by cases b <;> first | rfl | exact absurd q (by decide)))
/-! fields -/
/-- field j of the one object of class ci, by pool entry idx of class own -/
def ax_fl (own : String) (idx ci j : Nat) : Prop := ∃ (C : String) (T : u_T) (N : Nat) (ty : Nat → FieldType), (∀ w ∈ u_ws C T N, w ∈ ax_big) ∧ vwCl[ci]? = some (C, T, N) ∧ j < N ∧ Cond.fieldLink own idx (T j).1 (T j).2.1 (T j).2.2.1 ∈ ax_big ∧ (∀ k, k < N → parseFieldDescriptor (T k).2.2.1 = some (ty k)) ∧ (∀ a, a < N → ∀ b, b < N → a ≠ b → (T a).2.1 ≠ (T b).2.1) ∧ ((T j).2.2.2 = false → (parseFieldDescriptor (T j).2.2.1 = some .int ∨ parseFieldDescriptor (T j).2.2.1 = some .boolean))
theorem ax_obj {g : ax_G} {M : ax_M} {k ci : Nat} {fs : List (Option Nat)} (hs : ax_shp k = (4, ci, fs)) : (wd g M)[k]? = some (g.ad k, .inr (ci, fs.zipIdx.map (ax_fld g M k))) := by
  rw [wd_at (ax_shp_lt hs (by decide))]
  unfold ax_cell
  rw [hs]
  rfl
theorem ax_fld_at {g : ax_G} {M : ax_M} {k j : Nat} {fs : List (Option Nat)} {f : Option Nat} (h : fs[j]? = some f) : (fs.zipIdx.map (ax_fld g M k))[j]? = some (ax_fld g M k (f, j)) := by
  rw [List.getElem?_map, List.getElem?_zipIdx, h]
  simp
theorem rr_getI {idx ci j k : Nat} {z lo up : Int} (B : ax_b X cc own n) (hd : decode cc pc = .ok (.getfield idx, 3)) (hf : ax_fl own idx ci j) (ho : ax_ob k ci j z lo up) (kk : lo ≤ M k z ∧ M k z ≤ up → AW X (pc + 3) lv (aI (M k z) :: rest) M) : AW X pc lv (aR k :: rest) M := by
  intro hG H locs ls hP hS hl hn
  obtain ⟨⟨fs, hs, hj⟩, hbd, rfl⟩ := ho
  obtain ⟨C, T, N, ty, h1, h2, h3, h4, -, -, -⟩ := hf
  exact va_get (D := X.g.D) (ci := ci) (v := .int (ax_i (M k j))) B.1 B.2.1 B.2.2.2.2.1 h1 B.2.2.2.1 B.2.2.2.2.2.1.1 hP k (ax_obj hs) h2 j h3 (B.2.2.2.2.1 _ h4) (fun _ h => h) (ax_fld_at hj) hd (kk (hG.at hbd) hG H locs ls hP hS hl hn)
theorem rr_getR {idx ci j k k2 : Nat} (B : ax_b X cc own n) (hd : decode cc pc = .ok (.getfield idx, 3)) (hf : ax_fl own idx ci j) (ho : ax_or1 k ci j k2) (kk : AW X (pc + 3) lv (aR k2 :: rest) M) : AW X pc lv (aR k :: rest) M := by
  intro hG H locs ls hP hS hl hn
  obtain ⟨fs, hs, hj⟩ := ho
  obtain ⟨C, T, N, ty, h1, h2, h3, h4, -, -, -⟩ := hf
  exact va_get (D := X.g.D) (ci := ci) (v := .ref (X.g.ad k2)) B.1 B.2.1 B.2.2.2.2.1 h1 B.2.2.2.1 B.2.2.2.2.2.1.1 hP k (ax_obj hs) h2 j h3 (B.2.2.2.2.1 _ h4) (fun _ h => h) (ax_fld_at hj) hd (kk hG H locs ls hP hS hl hn)
theorem ax_obj_set {g : ax_G} {M : ax_M} {k j : Nat} {v : Int} {fs : List (Option Nat)} {ci : Nat} (hs : ax_shp k = (4, ci, fs)) (hj : fs[j]? = some none) : (wd g M).set k (g.ad k, .inr (ci, (fs.zipIdx.map (ax_fld g M k)).set j (.int (ax_i v)))) = wd g (ms M k j v) := by
  refine wd_set (fun i hi => ax_cell_off (ms_ne hi)) ?_
  unfold ax_cell
  rw [hs]
  show (Sum.inr _ : va_E) = _
  congr 2
  apply List.ext_getElem?
  intro i
  have hl : j < fs.length := (List.getElem?_eq_some_iff.mp hj).1
  by_cases hi : i = j
  · subst hi
    rw [List.getElem?_set_self (by simpa using hl), ax_fld_at hj]
    simp [ax_fld, ms]
  · rw [List.getElem?_set_ne (Ne.symm hi)]
    cases hf : fs[i]? with
    | none =>
      rw [List.getElem?_map, List.getElem?_map, List.getElem?_zipIdx, hf]
      rfl
    | some f =>
      rw [ax_fld_at hf, ax_fld_at hf]
      cases f with
      | none =>
        have : (i : Int) ≠ j := by omega
        simp [ax_fld, ms, this]
      | some k2 => rfl
theorem rr_put {idx ci j k : Nat} {v z lo up : Int} (B : ax_b X cc own n) (hd : decode cc pc = .ok (.putfield idx, 3)) (hf : ax_fl own idx ci j) (ho : ax_ob k ci j z lo up) (hw : lo ≤ v ∧ v ≤ up) (hfin : ∀ T : u_T, ∀ C N, vwCl[ci]? = some (C, T, N) → (T j).2.2.2 = false ∧ (parseFieldDescriptor (T j).2.2.1 = some .int ∨ v = 0 ∨ v = 1)) (kk : AW X (pc + 3) lv rest (ms M k z v)) : AW X pc lv (aI v :: aR k :: rest) M := by
  intro hG H locs ls hP hS hl hn
  obtain ⟨⟨fs, hs, hj⟩, hbd, rfl⟩ := ho
  obtain ⟨C, T, N, ty, h1, h2, h3, h4, h5, h6, h7⟩ := hf
  obtain ⟨f1, f2⟩ := hfin T C N h2
  have hlen : j < (fs.zipIdx.map (ax_fld X.g M k)).length := by
    have := (List.getElem?_eq_some_iff.mp hj).1
    simpa using this
  have hty : ∃ t, parseFieldDescriptor (T j).2.2.1 = some t ∧ narrow t (.int (ax_i v)) = .int (ax_i v) ∧ fits t (.int (ax_i v)) = true := by
    rcases h7 f1 with h | h
    · exact ⟨_, h, rfl, rfl⟩
    · rcases f2 with h' | rfl | rfl
      · exact ⟨_, h', rfl, rfl⟩
      · exact ⟨_, h, by decide, by decide⟩
      · exact ⟨_, h, by decide, by decide⟩
  obtain ⟨t, ht, hn1, hf1⟩ := hty
  refine va_put (D := X.g.D) (ci := ci) (v := .int (ax_i v)) (ty := t) B.1 B.2.1 B.2.2.2.2.1 h1 ty h5 h6 B.2.2.2.1 B.2.2.2.2.2.1.1 hP (ax_vaD B.2.2.2.2.2.2.2.1) hS k (ax_obj hs) h2 j h3 (B.2.2.2.2.1 _ h4) (fun _ h => h) f1 ht hn1 hf1 hlen hd (fun H1 locs1 hP1 hD1 hS1 => ?_)
  rw [ax_obj_set hs hj] at hP1
  exact kk (hG.ms hbd hw) H1 locs1 ls hP1 hS1 hl hn
theorem rr_putI {idx ci j k : Nat} {v z lo up : Int} (B : ax_b X cc own n) (hd : decode cc pc = .ok (.putfield idx, 3)) (hf : ax_fl own idx ci j) (ho : ax_ob k ci j z lo up) (hi : ax_fi ci j) (hw : lo ≤ v ∧ v ≤ up) (kk : AW X (pc + 3) lv rest (ms M k z v)) : AW X pc lv (aI v :: aR k :: rest) M := rr_put B hd hf ho hw (fun T C N h => ⟨(hi T C N h).1, Or.inl (hi T C N h).2⟩) kk
theorem rr_putZ {idx ci j k : Nat} {v z lo up : Int} (B : ax_b X cc own n) (hd : decode cc pc = .ok (.putfield idx, 3)) (hf : ax_fl own idx ci j) (ho : ax_ob k ci j z lo up) (hi : ax_fz ci j) (hw : lo ≤ v ∧ v ≤ up) (hv : v = 0 ∨ v = 1) (kk : AW X (pc + 3) lv rest (ms M k z v)) : AW X pc lv (aI v :: aR k :: rest) M := rr_put B hd hf ho hw (fun T C N h => ⟨(hi T C N h).1, Or.inr hv⟩) kk
/-! arrays -/
theorem ax_arrI {g : ax_G} {M : ax_M} {k N : Nat} {x : List (Option Nat)} (hs : ax_shp k = (0, N, x)) : (wd g M)[k]? = some (g.ad k, .inl (g.cI, N, .inl fun j => ax_i (M k j))) := by
  rw [wd_at (ax_shp_lt hs (by decide))]; unfold ax_cell; rw [hs]; rfl
theorem ax_arrZ {g : ax_G} {M : ax_M} {k N : Nat} {x : List (Option Nat)} (hs : ax_shp k = (1, N, x)) : (wd g M)[k]? = some (g.ad k, .inl (g.cZ, N, .inl fun j => ax_i (M k j))) := by
  rw [wd_at (ax_shp_lt hs (by decide))]; unfold ax_cell; rw [hs]; rfl
theorem ax_arrJ {g : ax_G} {M : ax_M} {k N : Nat} {x : List (Option Nat)} (hs : ax_shp k = (2, N, x)) : (wd g M)[k]? = some (g.ad k, .inl (g.cJ, N, .inr (.inl fun j => ax_l (M k j)))) := by
  rw [wd_at (ax_shp_lt hs (by decide))]; unfold ax_cell; rw [hs]; rfl
theorem ax_arrR {g : ax_G} {M : ax_M} {k N : Nat} {x : List (Option Nat)} (hs : ax_shp k = (3, N, x)) : (wd g M)[k]? = some (g.ad k, .inl (g.cR, N, .inr (.inr (.inr (.inr fun j => ((x[j]?).getD none).map g.ad))))) := by
  rw [wd_at (ax_shp_lt hs (by decide))]; unfold ax_cell; rw [hs]; rfl
theorem ax_upd {M : ax_M} {k : Nat} {i v : Int} (h0 : 0 ≤ i) : (fun j : Nat => ax_i (ms M k i v k j)) = upd (fun j : Nat => ax_i (M k j)) i.toNat (ax_i v) := by
  funext j
  by_cases h : j = i.toNat
  · have : (j : Int) = i := by omega
    simp only [upd, ms, this, if_pos h, true_and, if_true]
  · have : (j : Int) ≠ i := by omega
    simp [upd, ms, h, this]
theorem ax_updL {M : ax_M} {k : Nat} {i v : Int} (h0 : 0 ≤ i) : (fun j : Nat => ax_l (ms M k i v k j)) = vp_updL (fun j : Nat => ax_l (M k j)) i.toNat (ax_l v) := by
  funext j
  by_cases h : j = i.toNat
  · have : (j : Int) = i := by omega
    simp only [vp_updL, ms, this, if_pos h, true_and, if_true]
  · have : (j : Int) ≠ i := by omega
    simp [vp_updL, ms, h, this]
theorem rr_iaload {k N : Nat} {i lo up : Int} (B : ax_b X cc own n) (hd : decode cc pc = .ok (.iaload, 1)) (ha : ax_arr 0 k N lo up) (hi : 0 ≤ i ∧ i < N) (kk : lo ≤ M k i ∧ M k i ≤ up → AW X (pc + 1) lv (aI (M k i) :: rest) M) : AW X pc lv (aI i :: aR k :: rest) M := by
  intro hG H locs ls hP hS hl hn
  obtain ⟨⟨x, hs⟩, hN, hbd⟩ := ha
  obtain ⟨h1, h2, h3⟩ := ax_nat hi.1 hi.2 hN
  refine va_iald B.1 B.2.1 B.2.2.2.2.2.1.1 hP k 0 (ax_arrI hs) rfl h1 hd ?_
  rw [h3]
  exact kk (hG.at (hbd i)) hG H locs ls hP hS hl hn
theorem rr_zaload {k N : Nat} {i lo up : Int} (B : ax_b X cc own n) (hd : decode cc pc = .ok (.baload, 1)) (ha : ax_arr 1 k N lo up) (hi : 0 ≤ i ∧ i < N) (kk : lo ≤ M k i ∧ M k i ≤ up → AW X (pc + 1) lv (aI (M k i) :: rest) M) : AW X pc lv (aI i :: aR k :: rest) M := by
  intro hG H locs ls hP hS hl hn
  obtain ⟨⟨x, hs⟩, hN, hbd⟩ := ha
  obtain ⟨h1, h2, h3⟩ := ax_nat hi.1 hi.2 hN
  refine va_zald B.1 B.2.1 B.2.2.2.2.2.1.1 hP k 1 (ax_arrZ hs) rfl h1 hd ?_
  rw [h3]
  exact kk (hG.at (hbd i)) hG H locs ls hP hS hl hn
theorem rr_laload {k N : Nat} {i lo up : Int} (B : ax_b X cc own n) (hd : decode cc pc = .ok (.laload, 1)) (ha : ax_arr 2 k N lo up) (hi : 0 ≤ i ∧ i < N) (kk : lo ≤ M k i ∧ M k i ≤ up → AW X (pc + 1) lv (aL (M k i) :: rest) M) : AW X pc lv (aI i :: aR k :: rest) M := by
  intro hG H locs ls hP hS hl hn
  obtain ⟨⟨x, hs⟩, hN, hbd⟩ := ha
  obtain ⟨h1, h2, h3⟩ := ax_nat hi.1 hi.2 hN
  refine va_lald B.1 B.2.1 B.2.2.2.2.2.1.1 hP k 2 (ax_arrJ hs) rfl h1 hd ?_
  rw [h3]
  exact kk (hG.at (hbd i)) hG H locs ls hP hS hl hn
theorem rr_iastore {k N : Nat} {i v lo up : Int} (B : ax_b X cc own n) (hd : decode cc pc = .ok (.iastore, 1)) (ha : ax_arr 0 k N lo up) (hi : 0 ≤ i ∧ i < N) (hw : lo ≤ v ∧ v ≤ up) (kk : AW X (pc + 1) lv rest (ms M k i v)) : AW X pc lv (aI v :: aI i :: aR k :: rest) M := by
  intro hG H locs ls hP hS hl hn
  obtain ⟨⟨x, hs⟩, hN, hbd⟩ := ha
  obtain ⟨h1, h2, h3⟩ := ax_nat hi.1 hi.2 hN
  refine va_iast B.1 B.2.1 B.2.2.2.2.2.1.1 hP (ax_vaD B.2.2.2.2.2.2.2.1) hS k 0 (ax_arrI hs) rfl h1 hd (fun H1 locs1 hP1 hD1 hS1 => ?_)
  rw [h2, ← ax_upd hi.1, wd_set (M' := ms M k i v) (fun j hj => ax_cell_off (ms_ne hj)) (by unfold ax_cell; rw [hs]; rfl)] at hP1
  exact kk (hG.ms (hbd i) hw) H1 locs1 ls hP1 hS1 hl hn
theorem rr_lastore {k N : Nat} {i v lo up : Int} (B : ax_b X cc own n) (hd : decode cc pc = .ok (.lastore, 1)) (ha : ax_arr 2 k N lo up) (hi : 0 ≤ i ∧ i < N) (hw : lo ≤ v ∧ v ≤ up) (kk : AW X (pc + 1) lv rest (ms M k i v)) : AW X pc lv (aL v :: aI i :: aR k :: rest) M := by
  intro hG H locs ls hP hS hl hn
  obtain ⟨⟨x, hs⟩, hN, hbd⟩ := ha
  obtain ⟨h1, h2, h3⟩ := ax_nat hi.1 hi.2 hN
  refine va_last B.1 B.2.1 B.2.2.2.2.2.1.1 hP (ax_vaD B.2.2.2.2.2.2.2.1) hS k 2 (ax_arrJ hs) rfl h1 hd (fun H1 locs1 hP1 hD1 hS1 => ?_)
  rw [h2, ← ax_updL hi.1, wd_set (M' := ms M k i v) (fun j hj => ax_cell_off (ms_ne hj)) (by unfold ax_cell; rw [hs]; rfl)] at hP1
  exact kk (hG.ms (hbd i) hw) H1 locs1 ls hP1 hS1 hl hn
theorem rr_zastore {k N : Nat} {i v lo up : Int} (B : ax_b X cc own n) (hd : decode cc pc = .ok (.bastore, 1)) (ha : ax_arr 1 k N lo up) (hi : 0 ≤ i ∧ i < N) (hw : lo ≤ v ∧ v ≤ up) (hv : v = 0 ∨ v = 1) (kk : AW X (pc + 1) lv rest (ms M k i v)) : AW X pc lv (aI v :: aI i :: aR k :: rest) M := by
  intro hG H locs ls hP hS hl hn
  obtain ⟨⟨x, hs⟩, hN, hbd⟩ := ha
  obtain ⟨h1, h2, h3⟩ := ax_nat hi.1 hi.2 hN
  have hb : vp_nar .boolean (ax_i v) = ax_i v := by rcases hv with rfl | rfl <;> decide
  refine va_zast B.1 B.2.1 B.2.2.2.2.2.1.1 hP (ax_vaD B.2.2.2.2.2.2.2.1) hS k 1 (ax_arrZ hs) rfl h1 hd (fun H1 locs1 hP1 hD1 hS1 => ?_)
  rw [hb, h2, ← ax_upd hi.1, wd_set (M' := ms M k i v) (fun j hj => ax_cell_off (ms_ne hj)) (by unfold ax_cell; rw [hs]; rfl)] at hP1
  exact kk (hG.ms (hbd i) hw) H1 locs1 ls hP1 hS1 hl hn
theorem rr_aaload {k N k2 : Nat} {x : List (Option Nat)} {i : Int} (B : ax_b X cc own n) (hd : decode cc pc = .ok (.aaload, 1)) (hs : ax_shp k = (3, N, x)) (hN : N ≤ 2147483647) (hi : 0 ≤ i ∧ i < N) (hx : x[i.toNat]? = some (some k2)) (kk : AW X (pc + 1) lv (aR k2 :: rest) M) : AW X pc lv (aI i :: aR k :: rest) M := by
  intro hG H locs ls hP hS hl hn
  obtain ⟨h1, h2, h3⟩ := ax_nat hi.1 hi.2 hN
  have hlt : (ax_i i).toNatClampNeg < N := Nat.not_le.mp fun q => h1 (Or.inr q)
  refine W.aald (v := .ref (X.g.ad k2)) (ty := .array .int) B.1 B.2.1 (hP k _ (ax_arrR hs)) ((B.2.2.2.2.2.1.1.2 3 _ rfl).1 N (fun j => va_rf (((x[j]?).getD none).map X.g.ad))) rfl (fun q => by cases q) (by show ¬ (ax_i i < 0 ∨ (arrV _ _ _).slots.size ≤ _); rw [arrV_size]; exact h1) ?_ rfl rfl hd (kk hG H locs ls hP hS hl hn)
  show (arrV _ _ _).slots[_]? = _
  rw [arrV_read _ _ hlt, h2]
  show some (va_rf (Option.map X.g.ad ((x[i.toNat]?).getD none))) = _
  rw [hx]
  rfl
/-! statics -/
theorem rr_gets {C nm ds : String} {idx k N : Nat} {ty : FieldType} {f : Nat → Value} (B : ax_b X cc own n) (hd : decode cc pc = .ok (.getstatic idx, 3)) (hZ : ax_S1 X.g C nm ds k ty N f X.s X.s.heap) (hw : Cond.fieldLink own idx C nm ds ∈ ax_big) (kk : AW X (pc + 3) lv (aR k :: rest) M) : AW X pc lv rest M := fun hG H locs ls hP hS hl hn => va_gets B.1 B.2.1 hZ.1 hS B.2.2.2.1 (B.2.2.2.2.1 _ hw) (fun _ h => h) hd (kk hG H locs ls hP hS hl hn)
theorem rr_ti {C nm ds : String} {k N : Nat} {f : Nat → Int} {i : Int} (B : ax_b X cc own n) (hd : decode cc pc = .ok (.iaload, 1)) (hZ : ax_S1 X.g C nm ds k .int N (fun j => .int (ax_i (f j))) X.s X.s.heap) (hN : N ≤ 2147483647) (hi : 0 ≤ i ∧ i < N) (kk : AW X (pc + 1) lv (aI (f i.toNat) :: rest) M) : AW X pc lv (aI i :: aR k :: rest) M := by
  intro hG H locs ls hP hS hl hn
  obtain ⟨h1, h2, h3⟩ := ax_nat hi.1 hi.2 hN
  refine va_ti B.1 B.2.1 hZ.2 hS h1 rfl hd ?_
  rw [h2]
  exact kk hG H locs ls hP hS hl hn
theorem rr_tl {C nm ds : String} {k N : Nat} {f : Nat → Int} {i : Int} (B : ax_b X cc own n) (hd : decode cc pc = .ok (.laload, 1)) (hZ : ax_S1 X.g C nm ds k .long N (fun j => .long (ax_l (f j))) X.s X.s.heap) (hN : N ≤ 2147483647) (hi : 0 ≤ i ∧ i < N) (kk : AW X (pc + 1) lv (aL (f i.toNat) :: rest) M) : AW X pc lv (aI i :: aR k :: rest) M := by
  intro hG H locs ls hP hS hl hn
  obtain ⟨h1, h2, h3⟩ := ax_nat hi.1 hi.2 hN
  refine va_tl B.1 B.2.1 hZ.2 hS h1 rfl hd ?_
  rw [h2]
  exact kk hG H locs ls hP hS hl hn
/-! answers -/
theorem rr_ireturn {v : Int} {P : Option ax_V → ax_M → Prop} (B : ax_b X cc own n) (Br : ax_r X (some .int) P) (hd : decode cc pc = .ok (.ireturn, 1)) (h : P (some (aI v)) M) : AW X pc lv [aI v] M := by
  intro hG H locs ls hP hS hl hn
  have hlocks := B.2.2.2.2.2.2.2.2.1
  unfold ax_W
  rw [Br.2]
  exact W.iret B.1 B.2.1 Br.1 (fun t ht hW => ⟨⟨some (aI v), M, rfl, ⟨h, hG⟩, by rw [ht]; exact hP⟩, hS.F ht⟩) hS.2.2 hd
theorem rr_zreturn {v : Int} {P : Option ax_V → ax_M → Prop} (B : ax_b X cc own n) (Br : ax_r X (some .boolean) P) (hd : decode cc pc = .ok (.ireturn, 1)) (hv : v = 0 ∨ v = 1) (h : P (some (aI v)) M) : AW X pc lv [aI v] M := by
  intro hG H locs ls hP hS hl hn
  have hlocks := B.2.2.2.2.2.2.2.2.1
  unfold ax_W
  rw [Br.2]
  exact W.zret B.1 B.2.1 Br.1 (by rcases hv with rfl | rfl <;> decide) (fun t ht hW => ⟨⟨some (aI v), M, rfl, ⟨h, hG⟩, by rw [ht]; exact hP⟩, hS.F ht⟩) hS.2.2 hd
theorem rr_lreturn {v : Int} {P : Option ax_V → ax_M → Prop} (B : ax_b X cc own n) (Br : ax_r X (some .long) P) (hd : decode cc pc = .ok (.lreturn, 1)) (h : P (some (aL v)) M) : AW X pc lv [aL v] M := by
  intro hG H locs ls hP hS hl hn
  have hlocks := B.2.2.2.2.2.2.2.2.1
  unfold ax_W
  rw [Br.2]
  exact W.lret B.1 B.2.1 Br.1 (fun t ht hW => ⟨⟨some (aL v), M, rfl, ⟨h, hG⟩, by rw [ht]; exact hP⟩, hS.F ht⟩) hS.2.2 hd
theorem rr_return {P : Option ax_V → ax_M → Prop} (B : ax_b X cc own n) (Br : ax_r X none P) (hd : decode cc pc = .ok (.return_, 1)) (h : P none M) : AW X pc lv [] M := by
  intro hG H locs ls hP hS hl hn
  have hlocks := B.2.2.2.2.2.2.2.2.1
  unfold ax_W
  rw [Br.2]
  exact W.vret B.1 B.2.1 Br.1 (fun t ht hW => ⟨⟨none, M, rfl, ⟨h, hG⟩, by rw [ht]; exact hP⟩, hS.F ht⟩) hS.2.2 hd
/-- a memory that reads alike -/
theorem rr_mem {M' : ax_M} (h : M = M') (k : AW X pc lv st M') : AW X pc lv st M := h ▸ k
/-! calls -/
theorem ax_cont {H : Heap} {locs : List Loc} {ls : Array Slot} {st0 restv : List Value} {a : Array Value} {P : Option ax_V → ax_M → Prop} (hr : va_Run X.p X.g.l X.e X.R X.s X.m X.args X.below X.meth X.c H locs X.cells X.slots 0 0 (F0 X.m pc ls st0) restv (ax_PQ X.g P a) (ax_A X.g)) (hS : va_S (ax_A X.g) X.s.heap H locs)
    (kk : ∀ (r : Option ax_V) (M' : ax_M) (H1 : Heap) (locs1 : List Loc), P r M' → RG M' → va_P X.g.D vwCl (wd X.g M') H1 → va_S (ax_A X.g) X.s.heap H1 locs1 → ax_W X H1 locs1 (F0 X.m (pc + 3) ls ((r.map (cv X.g)).toList ++ restv))) : ax_W X H locs (F0 X.m pc ls st0) := by
  intro T hT Xs
  obtain ⟨v, st₀, t, T', L, h0, X', hL, e1, e2, ⟨⟨r, M', hv, ⟨hp, hg⟩, hb⟩, hz, hk⟩, stp⟩ := hr T hT Xs
  cases hv
  rw [h0] at hz hk
  obtain ⟨t2, a1, b1⟩ := kk r M' T'.heap (locs ++ L) hp hg (by rw [e1]; exact hb) ⟨Nat.le_trans hS.1 (by rw [e1]; exact hz), fun q h1 h2 => by rw [e1, hk q (Nat.lt_of_lt_of_le h1 hS.1) h2]; exact hS.2.1 q h1 h2, fun q hq => by
      rcases List.mem_append.mp hq with h | h
      · exact hS.2.2 q h
      · exact hL q h⟩ T' rfl X'
  exact ⟨t2, stp t2 a1, b1⟩
def ax_cok (md : ax_Md) (k : Nat) : Prop := Cond.code md.1 md.2.1 md.2.2.1 md.2.2.2 ∈ ax_big ∧ Cond.initialized md.1.cls ∈ ax_big ∧ (md.1.cls ≠ "java/lang/invoke/MethodHandle" ∧ md.1.cls ≠ "java/lang/invoke/VarHandle") ∧ (parseMethodDescriptor md.1.desc).map (fun d => d.parameters.length) = some k ∧ md.2.2.1 ≤ 11
def ax_vm (md : ax_Md) (k : Nat) : Prop := ax_cok md k ∧ Cond.instanceMethod md.1 ∈ ax_big ∧ Cond.selects md.1.cls md.1 md.1 ∈ ax_big
def ax_st (md : ax_Md) (k : Nat) : Prop := ax_cok md k ∧ Cond.static md.1 ∈ ax_big
def ax_rs (rest : List ax_V) : Nat := (rest.map (fun v => if ax_notL (some v) then 1 else 2)).sum
theorem ax_rs_cat (g : ax_G) : ∀ rest : List ax_V, ((rest.map (cv g)).map fun v => v.category).sum = ax_rs rest
  | [] => rfl
  | v :: r => by
    have := ax_rs_cat g r
    unfold ax_rs at this ⊢
    simp only [List.map_cons, List.sum_cons]
    rw [this]
    rcases v with z | z | z <;> rfl
theorem ax_pre {g : ax_G} {s : State} {H : Heap} {locs : List Loc} {As : List ax_V} (hP : va_P g.D vwCl (wd g M) H) (hS : va_S (ax_A g) s.heap H locs) (hK : ax_K g s) (hSt : ax_S g s s.heap) (hD : ax_D g) (hG : RG M) : FrameBlind (va_Pc (As.map (cv g)) (ax_Pre g M)) ∧ ∀ U : State, U.heap = H → s.WarmedH U.vm → va_Pc (As.map (cv g)) (ax_Pre g M) (As.map (cv g)).toArray U := by
  refine ⟨fun a U gg mk q => ?_, fun U hU hW => ⟨rfl, by rw [hU]; exact hP, ax_K.warm hW hK, ?_, hD, hG⟩⟩
  · obtain ⟨q0, q1, q2, q3, q4, q5⟩ := q
    exact ⟨q0, q1, ⟨va_K.moved (u := U) (U := U.calling gg mk a) (Vm.Alike.refl U.vm) q2.1, fun w hw => va_Nw.same (u := U) (U := U.calling gg mk a) (by
      have hn := (List.mem_filter.mp hw).2
      cases w <;> first | rfl | cases hn) rfl (q2.2 w hw)⟩, ax_S.to (s := U) (U := U.calling gg mk a) (Vm.Alike.refl U.vm) (fun _ _ _ => rfl) q3, q4, q5⟩
  · rw [hU]
    exact ax_S.to hW.alike (fun a h1 h2 => hS.2.1 a h1 h2) hSt
theorem ax_callB {md : ax_Md} {idx k d : Nat} (B : ax_b X cc own (d + 1)) (hv : ax_cok md k) (hl : Cond.methodLink own idx md.1 ∈ ax_big) : CallB X.R X.s X.args own idx md.1 md.2.1 md.2.2.1 md.2.2.2 (.code md.1 md.2.1 md.2.2.1 md.2.2.2 :: ax_big) (ax_rm d) 0 0 k := by
  obtain ⟨h1, h2, h3, h4, h5⟩ := hv
  have hr := B.2.2.2.2.2.2.2.2.2.1
  refine callB_of k B.2.2.2.2.1 (ax_good h1) rfl rfl rfl (B.2.2.2.2.1 _ h2) (B.2.2.2.2.1 _ hl) ⟨h3.1, h3.2, h4⟩ ⟨hr.1, ?_⟩
  show 8 + (md.2.2.1 + 11) + 30 * d ≤ X.R.locals
  omega
theorem ax_callN {md : ax_Md} {idx k d : Nat} {host : String} (B : ax_b X cc own (d + 1)) (hv : ax_cok md k) (hl : Cond.methodLinkNest own idx md.1 host ∈ ax_nw) : va_CN X.R X.s X.args own idx md.1 host md.2.1 md.2.2.1 md.2.2.2 (.code md.1 md.2.1 md.2.2.1 md.2.2.2 :: ax_big) (ax_rm d) 0 0 k := by
  obtain ⟨h1, h2, h3, h4, h5⟩ := hv
  have hr := B.2.2.2.2.2.2.2.2.2.1
  refine va_cnB k B.2.2.2.2.1 (ax_good h1) rfl rfl rfl (B.2.2.2.2.2.1.2 _ hl) (B.2.2.2.2.1 _ h2) ⟨h3.1, h3.2, h4⟩ ⟨hr.1, ?_⟩
  show 8 + (md.2.2.1 + 11) + 30 * d ≤ X.R.locals
  omega
theorem rr_callV {md : ax_Md} {idx k d o ci : Nat} {As : List ax_V} {fs : List (Option Nat)} {T : u_T} {N : Nat} {P : Option ax_V → ax_M → Prop} (B : ax_b X cc own (d + 1)) (hd : decode cc pc = .ok (.invokevirtual idx, 3)) (hv : ax_vm md k) (hl : Cond.methodLink own idx md.1 ∈ ax_big) (hs : ax_shp o = (4, ci, fs)) (hci : vwCl[ci]? = some (md.1.cls, T, N)) (hc : CT X.g md d (aR o :: As) M P) (hk : As.length = k) (hrs : ax_rs rest ≤ 8) (hst : st = As.reverse ++ aR o :: rest)
    (kk : ∀ r M', P r M' → AW X (pc + 3) lv (r.toList ++ rest) M') : AW X pc lv st M := by
  intro hG H locs ls hP hS hl2 hn
  have hpre := ax_pre (As := aR o :: As) hP hS B.2.2.2.2.2.1 B.2.2.2.2.2.2.1 B.2.2.2.2.2.2.2.1 hG
  refine ax_cont (P := P) (restv := rest.map (cv X.g)) (va_runV (As := As.map (cv X.g)) (b := X.g.ad o) (C := md.1.cls) (nL := X.nL) ⟨B.1, B.2.1, B.2.2.1, B.2.2.2.1, B.2.2.2.2.1⟩ hc ⟨ax_callB B hv.1 hl, B.2.2.2.2.1 _ hv.2.1, B.2.2.2.2.1 _ hv.2.2⟩ ⟨hpre.1, va_recv B.2.2.2.2.2.1.1 hP hci (ax_obj hs), hpre.2⟩ rfl (by simpa using hk) (hl2.1) (by rw [hst]; simp [cv, aR]) (lv_room (by rw [ax_rs_cat]; exact hrs)) hd ⟨B.2.2.2.2.2.2.2.2.2.2.1, B.2.2.2.2.2.2.2.2.2.2.2⟩) hS (fun r M' H1 locs1 hp hg hP1 hS1 => ?_)
  have := kk r M' hp hg H1 locs1 ls hP1 hS1 hl2 hn
  cases r <;> exact this
theorem rr_callS {md : ax_Md} {idx k d : Nat} {As : List ax_V} {P : Option ax_V → ax_M → Prop} (B : ax_b X cc own (d + 1)) (hd : decode cc pc = .ok (.invokestatic idx, 3)) (hv : ax_st md k) (hl : Cond.methodLink own idx md.1 ∈ ax_big) (hc : CT X.g md d As M P) (hk : As.length = k) (hrs : ax_rs rest ≤ 8) (hst : st = As.reverse ++ rest)
    (kk : ∀ r M', P r M' → AW X (pc + 3) lv (r.toList ++ rest) M') : AW X pc lv st M := by
  intro hG H locs ls hP hS hl2 hn
  have hpre := ax_pre (As := As) hP hS B.2.2.2.2.2.1 B.2.2.2.2.2.2.1 B.2.2.2.2.2.2.2.1 hG
  refine ax_cont (P := P) (restv := rest.map (cv X.g)) (va_runS (As := As.map (cv X.g)) (nL := X.nL) ⟨B.1, B.2.1, B.2.2.1, B.2.2.2.1, B.2.2.2.2.1⟩ hc ⟨ax_callB B hv.1 hl, B.2.2.2.2.1 _ hv.2⟩ ⟨hpre.1, hpre.2⟩ rfl (by simpa using hk) (hl2.1) (by rw [hst]; simp) (lv_room (by rw [ax_rs_cat]; exact hrs)) hd ⟨B.2.2.2.2.2.2.2.2.2.2.1, B.2.2.2.2.2.2.2.2.2.2.2⟩) hS (fun r M' H1 locs1 hp hg hP1 hS1 => ?_)
  have := kk r M' hp hg H1 locs1 ls hP1 hS1 hl2 hn
  cases r <;> exact this
theorem rr_callN {md : ax_Md} {idx k d : Nat} {host : String} {As : List ax_V} {P : Option ax_V → ax_M → Prop} (B : ax_b X cc own (d + 1)) (hd : decode cc pc = .ok (.invokestatic idx, 3)) (hv : ax_st md k) (hl : Cond.methodLinkNest own idx md.1 host ∈ ax_nw) (hc : CT X.g md d As M P) (hk : As.length = k) (hrs : ax_rs rest ≤ 8) (hst : st = As.reverse ++ rest)
    (kk : ∀ r M', P r M' → AW X (pc + 3) lv (r.toList ++ rest) M') : AW X pc lv st M := by
  intro hG H locs ls hP hS hl2 hn
  have hpre := ax_pre (As := As) hP hS B.2.2.2.2.2.1 B.2.2.2.2.2.2.1 B.2.2.2.2.2.2.2.1 hG
  refine ax_cont (P := P) (restv := rest.map (cv X.g)) (va_runSN (As := As.map (cv X.g)) (nL := X.nL) ⟨B.1, B.2.1, B.2.2.1, B.2.2.2.1, B.2.2.2.2.1⟩ hc ⟨ax_callN B hv.1 hl, B.2.2.2.2.1 _ hv.2, trivial⟩ ⟨hpre.1, hpre.2⟩ rfl (by simpa using hk) (hl2.1) (by rw [hst]; simp) (lv_room (by rw [ax_rs_cat]; exact hrs)) hd ⟨B.2.2.2.2.2.2.2.2.2.2.1, B.2.2.2.2.2.2.2.2.2.2.2⟩) hS (fun r M' H1 locs1 hp hg hP1 hS1 => ?_)
  have := kk r M' hp hg H1 locs1 ls hP1 hS1 hl2 hn
  cases r <;> exact this
end AXR
end
